/-! the images: sums, drawing, writing -/
theorem le_nI {m : Nat} {x : Int32} (hm : m < 2 ^ 31) (h : le9 m x) : x = nI x.toNatClampNeg ∧ x.toNatClampNeg ≤ m := by
  obtain ⟨j, hj, rfl⟩ := h
  rw [cl (by omega)]
  exact ⟨rfl, hj⟩
def sB (g : Nat → Int32) : Nat → Nat
  | 0 => 0
  | m + 1 => sB g m + (g m).toNatClampNeg * (m + 1)
theorem sB_le {g : Nat → Int32} : ∀ m, m ≤ 140 → (∀ k, k < m → le9 255 (g k)) → sB g m ≤ m * 35700 := by
  intro m
  induction m with
  | zero => exact fun _ _ => Nat.le_refl 0
  | succ m ih =>
    intro hm h
    have h1 := ih (by omega) (fun k hk => h k (by omega))
    have h2 := (le_nI (by decide) (h m (by omega))).2
    have h3 : (g m).toNatClampNeg * (m + 1) ≤ 255 * 140 := Nat.mul_le_mul h2 hm
    show sB g m + (g m).toNatClampNeg * (m + 1) ≤ (m + 1) * 35700
    omega
theorem sB_congr {g g' : Nat → Int32} : ∀ m, (∀ k, k < m → g k = g' k) → sB g m = sB g' m := by
  intro m
  induction m with
  | zero => exact fun _ => rfl
  | succ m ih =>
    intro h
    show sB g m + (g m).toNatClampNeg * (m + 1) = sB g' m + (g' m).toNatClampNeg * (m + 1)
    rw [ih (fun k hk => h k (by omega)), h m (by omega)]
theorem rem251 {t : Nat} (h : t < 2 ^ 31) : nI t - nI t / 251 * 251 = nI (t % 251) := pk_rem (d := 251) h (by decide) (by decide)
theorem s_sum {post : Int32 → jS → Prop} {fa : Nat → Int32} {σ : jS} {m : Nat} (hm : m ≤ 140) (hf : ∀ k, k < m → le9 255 (fa k)) (hp : post (nI (sB fa m % 251)) σ) : ∀ d k, k + d = m → p_V_sumBefore_5 post fa (nI m) (d + 1) σ (nI (sB fa k)) (nI k) := by
  intro d
  induction d with
  | zero =>
    intro k hk
    obtain rfl : k = m := by omega
    have := sB_le k hm hf
    refine pk_le k k (fun _ => ?_) (fun q => by omega)
    rw [rem251 (by omega)]
    exact hp
  | succ d ih =>
    intro k hk
    refine pk_le m k (fun q => by omega) (fun _ => pk_le 140 k (fun q => by omega) (fun _ => ⟨pk_in k 140 (by omega), ?_⟩))
    have e := (le_nI (by decide) (hf k (by omega))).1
    rw [cl (by omega), nI_1, e, pk_mul, nI_add]
    exact ih (k + 1) (by omega)
theorem c_sum {fa : Nat → Int32} {σ : jS} {m : Nat} (hm : m ≤ 140) (hf : ∀ k, k < m → le9 255 (fa k)) : Rn (p_V_sumBefore fa σ (nI m)) (nI (sB fa m % 251)) σ := fun _ hp => ⟨m + 1, s_sum hm hf hp m 0 (by omega)⟩
theorem sum_go {a t : Nat} (ha : a < 2 ^ 30) (ht : t < 2 ^ 30) : nI (a % 251) + nI t - (nI (a % 251) + nI t) / 251 * 251 = nI ((a + t) % 251) := by
  rw [nI_add, rem251 (by omega)]
  exact congrArg nI (by omega)
theorem m_sum {post : jS → Prop} {v1 : Int32} {ρ : jS} {m : Nat} (h20 : ρ 0 20 = nI m) (hm : m < 140) (hf : ∀ k, k < m → le9 255 (ρ 7 k)) (hp : p_M_put ρ (nI (sB (ρ 7) m % 251)) (fun σ5 => post σ5)) : ∀ d k, k + d = m → p_M_makeImage_62 post v1 (d + 1) ρ (nI (sB (ρ 7) k % 251)) (nI k) := by
  intro d
  induction d with
  | zero =>
    intro k hk
    obtain rfl : k = m := by omega
    exact pk_le k k (fun _ => hp) (fun q => by omega) h20
  | succ d ih =>
    intro k hk
    refine pk_le m k (fun q => by omega) (fun _ => ⟨pk_in k 140 (by omega), ?_⟩) h20
    have e := le_nI (by decide) (hf k (by omega))
    have b := sB_le (g := ρ 7) k (by omega) (fun i hi => hf i (by omega))
    have b2 : (ρ 7 k).toNatClampNeg * (k + 1) ≤ 255 * 140 := Nat.mul_le_mul e.2 (by omega)
    rw [cl (by omega), nI_1, e.1, pk_mul, sum_go (by omega) (by omega)]
    exact ih (k + 1) (by omega)
def rc (f : Nat → Int32) (n : Nat) : Nat → Nat → Nat
  | 0, _ => 0
  | d + 1, s => if s < n then rc f n d (rE f n s) + 1 else 0
theorem rc_le {f : Nat → Int32} {n : Nat} : ∀ d s, rc f n d s ≤ d := by
  intro d
  induction d with
  | zero => exact fun _ => Nat.le_refl 0
  | succ d ih =>
    intro s
    unfold rc
    by_cases q : s < n
    · rw [if_pos q]; exact Nat.succ_le_succ (ih _)
    · rw [if_neg q]; exact Nat.zero_le _
theorem rc_end {f : Nat → Int32} {n : Nat} (d : Nat) : rc f n d n = 0 := by
  cases d with
  | zero => rfl
  | succ d => exact if_neg (by omega)
theorem r_runs {ρ : jS} {n : Nat} (h1 : ρ 0 1 = nI n) (hn : n ≤ 64) : Rn (p_M_runs ρ) (nI (rc (ρ 5) n n 0)) ρ := by
  have go : ∀ (post : Int32 → jS → Prop) d s c, n - s ≤ d → s ≤ n → post (nI (c + rc (ρ 5) n d s)) ρ → p_M_runs_4 post (d + 1) ρ (nI c) (nI s) := by
    intro post d
    induction d with
    | zero =>
      intro s c hd hs hp
      exact pk_le n s (fun _ => hp) (fun q => by omega) h1
    | succ d ih =>
      intro s c hd hs hp
      refine pk_le n s (fun q => ?_) (fun q => r_eo h1 hn q _ ?_) h1
      · obtain rfl : s = n := by omega
        rw [rc_end] at hp
        exact hp
      · rw [nI_1]
        obtain ⟨e1, e2, -, -⟩ := rE_sp (f := ρ 5) q
        refine ih _ (c + 1) (by omega) e2 ?_
        rw [show rc (ρ 5) n (d + 1) s = rc (ρ 5) n d (rE (ρ 5) n s) + 1 from if_pos q] at hp
        rw [show c + 1 + rc (ρ 5) n d (rE (ρ 5) n s) = c + (rc (ρ 5) n d (rE (ρ 5) n s) + 1) from by omega]
        exact hp
  intro post hp
  refine ⟨n + 1, go post n 0 0 (by omega) (by omega) ?_⟩
  rw [Nat.zero_add]
  exact hp
theorem dr_skip {post : Int32 → jS → Prop} {σ : jS} {n r e m : Nat} (h6 : σ 6 1 = nI n) (hn : n ≤ 64) (he : e ≤ n) (hp : p_V_draw_4 post m σ (nI r) (nI e)) : ∀ d k, k + d = e → (∀ i, k ≤ i → i < e → ¬ isS (σ 7) i) → p_V_draw_4 post (m + d) σ (nI r) (nI k) := by
  intro d
  induction d with
  | zero =>
    intro k hk _
    obtain rfl : k = e := by omega
    exact hp
  | succ d ih =>
    intro k hk hs
    refine pk_le n k (fun h => by omega) (fun _ => sr_0 h6 hn (by omega) (hs k (by omega) (by omega)) _ (iT rfl ?_)) h6
    unfold p_V_draw_57
    rw [nI_1]
    exact ih (k + 1) (by omega) (fun i q1 q2 => hs i (by omega) q2)
theorem r_put {ρ : jS} {m : Nat} (v : Int32) (h20 : ρ 0 20 = nI m) (hm : m < 140) : Rv (p_M_put ρ v) (up2 (up2 ρ 7 m v) 0 20 (nI (m + 1))) := by
  intro post hp
  unfold p_M_put
  show vp_in (ρ 0 20) 140 ∧ post (up2 (up2 ρ 7 (ρ 0 20).toNatClampNeg v) 0 20 (ρ 0 20 + 1))
  rw [h20, cl (by omega), nI_1]
  exact ⟨pk_in m 140 hm, hp⟩
theorem pl {r : Nat} : (2 : Int32) + 2 * nI r = nI (2 + 2 * r) := by
  rw [show (2 : Int32) = nI 2 from rfl, pk_mul, nI_add]
theorem pD {σ : jS} {x : Int32} (v : Int32) (k : Nat) (hk : k < 140) (e : x = nI k) : Rv (p_V_putDrawn σ x v) (up2 σ 13 k v) := by
  intro post hp
  subst e
  refine iF (nI_pos (by omega)) (pk_le 140 k (fun q => by omega) (fun _ => ⟨pk_in k 140 hk, ?_⟩))
  rw [cl (by omega)]
  exact hp
theorem dr_end {n r : Nat} {v1 : Int32} {σ ρ : jS} (hn : n ≤ 64) (hr : r ≤ n) (h6 : σ 6 1 = nI n) (h1 : ρ 0 1 = nI n) (h20 : ρ 0 20 = nI (2 + 2 * r)) (hag : ∀ k, 2 ≤ k → k < 2 + 2 * r → σ 13 k = ρ 7 k ∧ le9 255 (σ 13 k)) (h0 : ρ 7 0 = σ 9 2) (h9 : le9 199 (σ 9 2)) (hrc : ρ 7 1 = nI r) :
    ∃ m σ1 ρ1, m < 140 ∧ (∀ post : Int32 → jS → Prop, post (nI m) σ1 → ∃ q, p_V_draw_4 post q σ (nI r) (nI n)) ∧ (∀ post : jS → Prop, post ρ1 → ∃ q, p_M_makeImage_20 post v1 q ρ (nI n)) ∧ ρ1 0 20 = nI m ∧ (∀ k, k < m → σ1 13 k = ρ1 7 k ∧ le9 255 (σ1 13 k)) ∧ (∀ c, c ≠ 13 → σ1 c = σ c) ∧ (∀ c, c ≠ 0 → c ≠ 7 → ρ1 c = ρ c) ∧ (∀ i, i ≠ 20 → ρ1 0 i = ρ 0 i) := by
  have h9' : le9 255 (σ 9 2) := by
    obtain ⟨j, hj, e⟩ := h9
    exact ⟨j, by omega, e⟩
  have all : ∀ k, k < 2 + 2 * r → (up2 (up2 σ 13 0 (σ 9 2)) 13 1 (nI r)) 13 k = ρ 7 k ∧ le9 255 (ρ 7 k) := by
    intro k hk
    show (if k = 1 then nI r else if k = 0 then σ 9 2 else σ 13 k) = ρ 7 k ∧ le9 255 (ρ 7 k)
    by_cases q1 : k = 1
    · rw [if_pos q1, q1, hrc]
      exact ⟨rfl, r, by omega, rfl⟩
    · by_cases q0 : k = 0
      · rw [if_neg q1, if_pos q0, q0, h0]
        exact ⟨rfl, h9'⟩
      · rw [if_neg q1, if_neg q0]
        have := hag k (by omega) hk
        exact ⟨this.1, this.1 ▸ this.2⟩
  have es : sB ((up2 (up2 σ 13 0 (σ 9 2)) 13 1 (nI r)) 13) (2 + 2 * r) = sB (ρ 7) (2 + 2 * r) := sB_congr _ (fun k hk => (all k hk).1)
  refine ⟨2 + 2 * r + 1, up2 (up2 (up2 σ 13 0 (σ 9 2)) 13 1 (nI r)) 13 (2 + 2 * r) (nI (sB (ρ 7) (2 + 2 * r) % 251)), up2 (up2 ρ 7 (2 + 2 * r) (nI (sB (ρ 7) (2 + 2 * r) % 251))) 0 20 (nI (2 + 2 * r + 1)), by omega, fun post hp => ⟨1, ?_⟩, fun post hp => ⟨1, ?_⟩, rfl, fun k hk => ?_, fun c hc => ?_, fun c hc hc7 => ?_, fun i hi => ?_⟩
  · refine pk_le n n (fun _ => pD (σ 9 2) 0 (by decide) (by rfl) _ (pD (nI r) 1 (by decide) (by rfl) _ ?_)) (fun q => by omega) h6
    unfold p_V_placeOfRun
    rw [pl]
    refine c_sum (fa := (up2 (up2 σ 13 0 (σ 9 2)) 13 1 (nI r)) 13) (by omega) (fun k hk => ?_) _ (pD _ (2 + 2 * r) (by omega) (by rfl) _ ?_)
    · have := all k hk
      exact this.1 ▸ this.2
    · rw [es, nI_1]
      exact hp
  · refine pk_le n n (fun _ => ⟨2 + 2 * r + 1, ?_⟩) (fun q => by omega) h1
    exact m_sum h20 (by omega) (fun k hk => (all k hk).2) (r_put _ h20 (by omega) _ hp) (2 + 2 * r) 0 (by omega)
  · show (if k = 2 + 2 * r then nI (sB (ρ 7) (2 + 2 * r) % 251) else (up2 (up2 σ 13 0 (σ 9 2)) 13 1 (nI r)) 13 k) = (if k = 2 + 2 * r then nI (sB (ρ 7) (2 + 2 * r) % 251) else ρ 7 k) ∧ le9 255 (if k = 2 + 2 * r then nI (sB (ρ 7) (2 + 2 * r) % 251) else (up2 (up2 σ 13 0 (σ 9 2)) 13 1 (nI r)) 13 k)
    by_cases q : k = 2 + 2 * r
    · rw [if_pos q, if_pos q]
      exact ⟨rfl, _, by omega, rfl⟩
    · rw [if_neg q, if_neg q]
      have := all k (by omega)
      exact ⟨this.1, this.1 ▸ this.2⟩
  · simp [up2, hc]
  · simp [up2, hc, hc7]
  · simp [up2, hi]
theorem dr_st {n : Nat} {v1 : Int32} {f : Nat → Int32} (hn : n ≤ 64) (hf4 : ∀ k, le9 4 (f k)) : ∀ d s r σ ρ, n - s ≤ d → s ≤ n → r ≤ s → (s < n → isS f s) → σ 6 1 = nI n → σ 7 = f → ρ 0 1 = nI n → ρ 5 = f → ρ 0 20 = nI (2 + 2 * r) → (∀ k, 2 ≤ k → k < 2 + 2 * r → σ 13 k = ρ 7 k ∧ le9 255 (σ 13 k)) → ρ 7 0 = σ 9 2 → le9 199 (σ 9 2) → ρ 7 1 = nI (r + rc f n d s) →
    ∃ m σ1 ρ1, m < 140 ∧ (∀ post : Int32 → jS → Prop, post (nI m) σ1 → ∃ q, p_V_draw_4 post q σ (nI r) (nI s)) ∧ (∀ post : jS → Prop, post ρ1 → ∃ q, p_M_makeImage_20 post v1 q ρ (nI s)) ∧ ρ1 0 20 = nI m ∧ (∀ k, k < m → σ1 13 k = ρ1 7 k ∧ le9 255 (σ1 13 k)) ∧ (∀ c, c ≠ 13 → σ1 c = σ c) ∧ (∀ c, c ≠ 0 → c ≠ 7 → ρ1 c = ρ c) ∧ (∀ i, i ≠ 20 → ρ1 0 i = ρ 0 i) := by
  intro d
  induction d with
  | zero =>
    intro s r σ ρ hd hs hr hS h6 h7 h1 h5 h20 hag h0 h9 hrc
    obtain rfl : s = n := by omega
    exact dr_end hn hr h6 h1 h20 hag h0 h9 hrc
  | succ d ih =>
    intro s r σ ρ hd hs hr hS h6 h7 h1 h5 h20 hag h0 h9 hrc
    by_cases q : s < n
    · obtain ⟨e1, e2, e3, e4⟩ := rE_sp (f := f) q
      rw [show rc f n (d + 1) s = rc f n d (rE f n s) + 1 from if_pos q] at hrc
      have ee : nI (rE f n s) - nI s = nI (rE f n s - s) := pk_sub (by omega)
      obtain ⟨m, σ1, ρ1, k0, k1, k2, k3, k4, k5, k6, k7⟩ := ih (rE f n s) (r + 1) (up2 (up2 σ 13 (2 + 2 * r) (nI (rE f n s - s))) 13 (2 + 2 * r + 1) (f s)) (up2 (up2 (up2 (up2 ρ 7 (2 + 2 * r) (nI (rE f n s - s))) 0 20 (nI (2 + 2 * r + 1))) 7 (2 + 2 * r + 1) (f s)) 0 20 (nI (2 + 2 * r + 1 + 1))) (by omega) e2 (by omega) e4 h6 h7 h1 h5 rfl
        (by
          intro k w1 w2
          show (if k = 2 + 2 * r + 1 then f s else if k = 2 + 2 * r then nI (rE f n s - s) else σ 13 k) = (if k = 2 + 2 * r + 1 then f s else if k = 2 + 2 * r then nI (rE f n s - s) else ρ 7 k) ∧ le9 255 (if k = 2 + 2 * r + 1 then f s else if k = 2 + 2 * r then nI (rE f n s - s) else σ 13 k)
          by_cases u1 : k = 2 + 2 * r + 1
          · rw [if_pos u1, if_pos u1]
            obtain ⟨j, hj, e⟩ := hf4 s
            exact ⟨rfl, j, by omega, e⟩
          · by_cases u2 : k = 2 + 2 * r
            · rw [if_neg u1, if_neg u1, if_pos u2, if_pos u2]
              exact ⟨rfl, _, by omega, rfl⟩
            · rw [if_neg u1, if_neg u1, if_neg u2, if_neg u2]
              exact hag k w1 (by omega))
        (by
          show (if 0 = 2 + 2 * r + 1 then f s else if 0 = 2 + 2 * r then nI (rE f n s - s) else ρ 7 0) = σ 9 2
          rw [if_neg (by omega), if_neg (by omega)]
          exact h0)
        h9
        (by
          show (if 1 = 2 + 2 * r + 1 then f s else if 1 = 2 + 2 * r then nI (rE f n s - s) else ρ 7 1) = nI (r + 1 + rc f n d (rE f n s))
          rw [if_neg (by omega), if_neg (by omega), hrc]
          exact congrArg nI (by omega))
      refine ⟨m, σ1, ρ1, k0, fun post hp => ?_, fun post hp => ?_, k3, k4, fun c hc => ?_, fun c hc hc7 => ?_, fun i hi => ?_⟩
      · obtain ⟨w, hw⟩ := k1 post hp
        have g := dr_skip (σ := up2 (up2 σ 13 (2 + 2 * r) (nI (rE f n s - s))) 13 (2 + 2 * r + 1) (f s)) h6 hn e2 hw (rE f n s - (s + 1)) (s + 1) (by omega) (fun i w1 w2 => by
          show ¬ isS (σ 7) i
          rw [h7]
          exact e3 i (by omega) w2)
        refine ⟨w + (rE f n s - (s + 1)) + 1, pk_le n s (fun z => by omega) (fun _ => sr_1 h6 hn q (by rw [h7]; exact hS q) _ (iF z10 ?_)) h6⟩
        unfold p_V_placeOfRun
        rw [pl]
        refine c_b64 h6 hn q _ (pD _ (2 + 2 * r) (by omega) (by rfl) _ ?_)
        rw [h7, ee]
        refine c_so (σ := up2 σ 13 (2 + 2 * r) (nI (rE f n s - s))) h6 hn q _ ?_
        rw [nI_1 (2 + 2 * r)]
        refine pD _ (2 + 2 * r + 1) (by omega) (by rfl) _ ?_
        unfold p_V_draw_57
        rw [nI_1, nI_1]
        show p_V_draw_4 post _ (up2 (up2 σ 13 (2 + 2 * r) (nI (rE f n s - s))) 13 (2 + 2 * r + 1) (σ 7 s)) (nI (r + 1)) (nI (s + 1))
        rw [h7]
        exact g
      · obtain ⟨w, hw⟩ := k2 post hp
        refine ⟨w + 1, pk_le n s (fun z => by omega) (fun _ => r_eo h1 hn q _ ?_) h1⟩
        rw [h5, ee]
        refine r_put _ h20 (by omega) _ ⟨pk_in s 64 (by omega), ?_⟩
        rw [cl (by omega)]
        show p_M_put _ (ρ 5 s) _
        rw [h5]
        refine r_put (ρ := up2 (up2 ρ 7 (2 + 2 * r) (nI (rE f n s - s))) 0 20 (nI (2 + 2 * r + 1))) (f s) rfl (by omega) _ ?_
        refine r_eo (ρ := up2 (up2 (up2 (up2 ρ 7 (2 + 2 * r) (nI (rE f n s - s))) 0 20 (nI (2 + 2 * r + 1))) 7 (2 + 2 * r + 1) (f s)) 0 20 (nI (2 + 2 * r + 1 + 1))) h1 hn q _ ?_
        show p_M_makeImage_20 post v1 w _ (nI (rE (ρ 5) n s))
        rw [h5]
        exact hw
      · rw [k5 c hc]
        simp [up2, hc]
      · rw [k6 c hc hc7]
        simp [up2, hc, hc7]
      · rw [k7 i hi]
        simp [up2, hi]
    · obtain rfl : s = n := by omega
      rw [rc_end] at hrc
      exact dr_end hn hr h6 h1 h20 hag h0 h9 hrc
/-- drawing and making the image, from the start -/
theorem dr_all {n N : Nat} {σ ρ : jS} (hn : n ≤ 64) (hN : N ≤ 199) (h6 : σ 6 1 = nI n) (h7 : σ 7 = ρ 5) (h74 : ∀ k, le9 4 (σ 7 k)) (h1 : ρ 0 1 = nI n) (h9 : σ 9 2 = nI N) :
    ∃ m σ1 ρ1, m < 140 ∧ Rn (p_V_draw σ) (nI m) σ1 ∧ Rv (p_M_makeImage ρ (nI N)) ρ1 ∧ ρ1 0 20 = nI m ∧ (∀ k, k < m → σ1 13 k = ρ1 7 k ∧ le9 255 (σ1 13 k)) ∧ (∀ c, c ≠ 13 → σ1 c = σ c) ∧ (∀ c, c ≠ 0 → c ≠ 7 → ρ1 c = ρ c) ∧ (∀ i, i ≠ 20 → ρ1 0 i = ρ 0 i) := by
  have hrl : rc (ρ 5) n n 0 ≤ n := rc_le n 0
  obtain ⟨m, σ1, ρ1, k0, k1, k2, k3, k4, k5, k6, k7⟩ := dr_st (v1 := nI N) (f := σ 7) hn h74 n 0 0 σ (up2 (up2 (up2 (up2 (up2 ρ 0 20 0) 7 0 (nI N)) 0 20 (nI 1)) 7 1 (nI (rc (ρ 5) n n 0))) 0 20 (nI 2)) (by omega) (by omega) (by omega) (fun _ => Or.inl rfl) h6 rfl h1 h7.symm rfl (fun k q1 q2 => by omega) h9.symm ⟨N, hN, h9⟩ (by
      show nI (rc (ρ 5) n n 0) = nI (0 + rc (σ 7) n n 0)
      rw [h7, Nat.zero_add])
  refine ⟨m, σ1, ρ1, k0, k1, fun post hp => ?_, k3, k4, k5, fun c hc hc7 => ?_, fun i hi => ?_⟩
  · refine r_put (ρ := up2 ρ 0 20 0) (m := 0) (nI N) rfl (by omega) _ ?_
    refine r_runs (ρ := up2 (up2 (up2 ρ 0 20 0) 7 0 (nI N)) 0 20 (nI (0 + 1))) h1 hn _ ?_
    exact r_put (ρ := up2 (up2 (up2 ρ 0 20 0) 7 0 (nI N)) 0 20 (nI (0 + 1))) (m := 1) _ rfl (by omega) _ (k2 post hp)
  · rw [k6 c hc hc7]
    simp [up2, hc, hc7]
  · rw [k7 i hi]
    simp [up2, hi]

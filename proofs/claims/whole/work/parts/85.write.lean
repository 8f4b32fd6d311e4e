/-- the class's slots, the reference's slots, places k to w written -/
def wS (σ : jS) (p k w : Nat) : jS := if p = 0 then stA σ 11 (cpw (σ 13) (σ 11) k w) else stA σ 12 (cpw (σ 13) (σ 12) k w)
def wM (σ : jS) (p k w : Nat) : jS := stA σ 6 (fun i => if 140 * p + k ≤ i ∧ i < 140 * p + w then σ 7 (i - 140 * p) else σ 6 i)
theorem wS_end (σ : jS) (p k : Nat) : wS σ p k k = σ := by
  unfold wS
  by_cases q : p = 0
  · rw [if_pos q, cpw_nil (by omega), stA_self]
  · rw [if_neg q, cpw_nil (by omega), stA_self]
theorem wM_end (σ : jS) (p k : Nat) : wM σ p k k = σ := by
  unfold wM
  rw [show (fun i => if 140 * p + k ≤ i ∧ i < 140 * p + k then σ 7 (i - 140 * p) else σ 6 i) = σ 6 from funext (fun i => if_neg (by omega)), stA_self]
theorem wS_go0 {σ : jS} {k w : Nat} (h : k < w) : wS (up2 σ 11 k (σ 13 k)) 0 (k + 1) w = wS σ 0 k w := by
  show stA (up2 σ 11 k (σ 13 k)) 11 (cpw (σ 13) (fun i => if i = k then σ 13 k else σ 11 i) (k + 1) w) = stA σ 11 (cpw (σ 13) (σ 11) k w)
  rw [stA_up2, cpw_step h]
theorem wS_go1 {σ : jS} {p k w : Nat} (hp : p ≠ 0) (h : k < w) : wS (up2 σ 12 k (σ 13 k)) p (k + 1) w = wS σ p k w := by
  unfold wS
  rw [if_neg hp, if_neg hp]
  show stA (up2 σ 12 k (σ 13 k)) 12 (cpw (σ 13) (fun i => if i = k then σ 13 k else σ 12 i) (k + 1) w) = stA σ 12 (cpw (σ 13) (σ 12) k w)
  rw [stA_up2, cpw_step h]
theorem wM_go {σ : jS} {p k w : Nat} (h : k < w) : wM (up2 σ 6 (140 * p + k) (σ 7 k)) p (k + 1) w = wM σ p k w := by
  unfold wM
  rw [stA_up2]
  refine congrArg (stA σ 6) (funext fun i => ?_)
  show (if 140 * p + (k + 1) ≤ i ∧ i < 140 * p + w then σ 7 (i - 140 * p) else if i = 140 * p + k then σ 7 k else σ 6 i) = (if 140 * p + k ≤ i ∧ i < 140 * p + w then σ 7 (i - 140 * p) else σ 6 i)
  by_cases q : i = 140 * p + k
  · rw [if_neg (by omega), if_pos q, if_pos (by omega), show i - 140 * p = k from by omega]
  · by_cases q2 : 140 * p + (k + 1) ≤ i ∧ i < 140 * p + w
    · rw [if_pos q2, if_pos (by omega)]
    · rw [if_neg q2, if_neg q, if_neg (by omega)]
theorem s_wr {post : Int32 → jS → Prop} {v2 : Int32} {N w : Nat} (hN : N ≤ 199) (hw : w ≤ 140) : ∀ d k σ, k + d = w → σ 9 2 = nI N → post (nI N) (wS σ (N % 2) k w) → p_V_write_25 post v2 (d + 1) σ (nI w) (nI k) := by
  intro d
  induction d with
  | zero =>
    intro k σ hk h9 hp
    obtain rfl : k = w := by omega
    rw [wS_end] at hp
    refine pk_le k k (fun _ => ?_) (fun q => by omega)
    rw [h9]
    exact hp
  | succ d ih =>
    intro k σ hk h9 hp
    refine pk_le w k (fun q => by omega) (fun _ => pk_le 140 k (fun q => by omega) (fun _ => ⟨pk_in k 140 (by omega), ?_⟩))
    rw [h9, rem2 (by omega), cl (by omega)]
    refine vhas1 (by omega) (by omega) _ (iF z10 ⟨pk_in (N % 2) 2 (by omega), pk_eq (N % 2) 0 (fun q => ⟨pk_in k 140 (by omega), ?_⟩) (fun q => ⟨pk_in k 140 (by omega), ?_⟩)⟩)
    · rw [cl (by omega), nI_1]
      refine ih (k + 1) _ (by omega) h9 ?_
      rw [q] at hp ⊢
      rw [wS_go0 (by omega)]
      exact hp
    · rw [cl (by omega), nI_1]
      refine ih (k + 1) _ (by omega) h9 ?_
      rw [wS_go1 q (by omega)]
      exact hp
theorem m_wr {post : jS → Prop} {N w m K : Nat} (hN : N ≤ 199) (hm : m < 140) (hK : K < 2 ^ 31) (hw : w = min K m) : ∀ d k σ, k + d = w → σ 0 17 = nI N → σ 0 20 = nI m → post (wM σ (N % 2) k w) → p_M_write_2 post (nI K) (d + 1) σ (nI k) := by
  intro d
  induction d with
  | zero =>
    intro k σ hk h17 h20 hp
    obtain rfl : k = w := by omega
    rw [wM_end] at hp
    exact pk_le K k (fun _ => hp) (fun q => pk_le m k (fun _ => hp) (fun q => by omega) h20)
  | succ d ih =>
    intro k σ hk h17 h20 hp
    refine pk_le K k (fun q => by omega) (fun q => pk_le m k (fun q => by omega) (fun _ => ⟨pk_in k 140 (by omega), ?_⟩) h20)
    rw [h17, rem2 (by omega), ix6, cl (by omega), cl (by omega), nI_1]
    refine ⟨pk_in (140 * (N % 2) + k) 280 (by omega), ih (k + 1) _ (by omega) h17 h20 ?_⟩
    rw [wM_go (by omega)]
    exact hp
/-- the slots are alike behind the writing -/
theorem rS_wr {σ ρ σ1 ρ1 : jS} {N m w : Nat} (hS : rS σ ρ) (hN : N ≤ 199) (hm : m < 140) (hw : w ≤ m) (k4 : ∀ k, k < m → σ1 13 k = ρ1 7 k ∧ le9 255 (σ1 13 k)) (e9 : σ1 9 2 = nI N) (e11 : σ1 11 = σ 11) (e12 : σ1 12 = σ 12) (e17 : ρ1 0 17 = nI N) (e6 : ρ1 6 = ρ 6) : rS (wS σ1 (N % 2) 0 w) (wM ρ1 (N % 2) 0 w) := by
  have n9 : (wS σ1 (N % 2) 0 w) 9 2 = nI N := by
    unfold wS
    by_cases q : N % 2 = 0
    · rw [if_pos q]; exact e9
    · rw [if_neg q]; exact e9
  refine ⟨n9.trans e17.symm, ⟨N, hN, n9⟩, fun i hi => ?_⟩
  obtain ⟨s1, s2, s3, s4⟩ := hS.2.2 i hi
  by_cases q : N % 2 = 0
  · rw [q]
    show cpw (σ1 13) (σ1 11) 0 w i = (if 140 * 0 + 0 ≤ i ∧ i < 140 * 0 + w then ρ1 7 (i - 140 * 0) else ρ1 6 i) ∧ σ1 12 i = (if 140 * 0 + 0 ≤ 140 + i ∧ 140 + i < 140 * 0 + w then ρ1 7 (140 + i - 140 * 0) else ρ1 6 (140 + i)) ∧ le9 255 (cpw (σ1 13) (σ1 11) 0 w i) ∧ le9 255 (σ1 12 i)
    rw [if_neg (show ¬ (140 * 0 + 0 ≤ 140 + i ∧ 140 + i < 140 * 0 + w) from by omega), e11, e12, e6]
    unfold cpw
    by_cases qi : i < w
    · rw [if_pos (by omega), if_pos (by omega)]
      have := k4 i (by omega)
      exact ⟨this.1, s2, this.2, s4⟩
    · rw [if_neg (by omega), if_neg (by omega)]
      exact ⟨s1, s2, s3, s4⟩
  · rw [show N % 2 = 1 from by omega]
    show σ1 11 i = (if 140 * 1 + 0 ≤ i ∧ i < 140 * 1 + w then ρ1 7 (i - 140 * 1) else ρ1 6 i) ∧ cpw (σ1 13) (σ1 12) 0 w i = (if 140 * 1 + 0 ≤ 140 + i ∧ 140 + i < 140 * 1 + w then ρ1 7 (140 + i - 140 * 1) else ρ1 6 (140 + i)) ∧ le9 255 (σ1 11 i) ∧ le9 255 (cpw (σ1 13) (σ1 12) 0 w i)
    rw [if_neg (show ¬ (140 * 1 + 0 ≤ i ∧ i < 140 * 1 + w) from by omega), e11, e12, e6]
    unfold cpw
    by_cases qi : i < w
    · rw [if_pos (by omega), if_pos (by omega), show 140 + i - 140 * 1 = i from by omega]
      have := k4 i (by omega)
      exact ⟨s1, this.1, s3, this.2⟩
    · rw [if_neg (by omega), if_neg (by omega)]
      exact ⟨s1, s2, s3, s4⟩
/-- all else is as it was -/
theorem jR_wr {σ ρ σ' ρ' : jS} {n : Nat} (hn : n ≤ 64) (hA : rA n σ ρ) (hK : rK n σ ρ) (hS' : rS σ' ρ') (k5 : ∀ c, c ≠ 9 → c ≠ 11 → c ≠ 12 → c ≠ 13 → σ' c = σ c) (k6 : ∀ c, c ≠ 0 → c ≠ 6 → c ≠ 7 → ρ' c = ρ c) (k7 : ∀ i, i ≠ 17 → i ≠ 20 → ρ' 0 i = ρ 0 i) : jR σ' ρ' := by
  have c1 := k5 1 (by decide) (by decide) (by decide) (by decide)
  have c2 := k5 2 (by decide) (by decide) (by decide) (by decide)
  have c3 := k5 3 (by decide) (by decide) (by decide) (by decide)
  have c4 := k5 4 (by decide) (by decide) (by decide) (by decide)
  have c5 := k5 5 (by decide) (by decide) (by decide) (by decide)
  have c6 := k5 6 (by decide) (by decide) (by decide) (by decide)
  have c7 := k5 7 (by decide) (by decide) (by decide) (by decide)
  have c8 := k5 8 (by decide) (by decide) (by decide) (by decide)
  have m1 := k6 1 (by decide) (by decide) (by decide)
  have m2 := k6 2 (by decide) (by decide) (by decide)
  have m3 := k6 3 (by decide) (by decide) (by decide)
  have m4 := k6 4 (by decide) (by decide) (by decide)
  have m5 := k6 5 (by decide) (by decide) (by decide)
  have f1 := k7 1 (by decide) (by decide)
  have f6 := k7 6 (by decide) (by decide)
  have f7 := k7 7 (by decide) (by decide)
  have f8 := k7 8 (by decide) (by decide)
  have f9 := k7 9 (by decide) (by decide)
  have f11 := k7 11 (by decide) (by decide)
  have f12 := k7 12 (by decide) (by decide)
  have f13 := k7 13 (by decide) (by decide)
  have f14 := k7 14 (by decide) (by decide)
  refine ⟨n, hn, ?_, ?_, hS'⟩
  · unfold rA at hA ⊢
    rw [c1, c2, c3, c4, c5, m1, m2, m3, m4, f1, f6, f7]
    exact hA
  · unfold rK rG at hK ⊢
    rw [c6, c7, c8, m5, f8, f9, f11, f12, f13, f14]
    exact hK
theorem nx {N : Nat} (hN : N ≤ 199) : nI N + 1 - (nI N + 1) / 200 * 200 = nI ((N + 1) % 200) := by
  rw [nI_1]
  exact pk_rem (d := 200) (by omega) (by decide) (by decide)
theorem r_nx {ρ : jS} {N : Nat} (hN : N ≤ 199) : Rn (p_M_next ρ (nI N)) (nI ((N + 1) % 200)) ρ := by
  intro post hp
  have g := pk_eq (A := post 0 ρ) (B := post (nI N + 1) ρ) (x := nI N) (y := 199) N 199 (fun q => by rw [q] at hp; exact hp) (fun q => by
    rw [Nat.mod_eq_of_lt (show N + 1 < 200 from by omega)] at hp
    rw [nI_1]
    exact hp)
  exact ⟨g.2, g.1⟩
theorem minI {m K : Nat} (hm : m < 2 ^ 31) (hK : K < 2 ^ 31) : (if nI m < nI K then nI m else nI K) = nI (min K m) := by
  by_cases q : m < K
  · rw [if_pos (nI_lt q hK)]
    exact congrArg nI (by omega)
  · rw [if_neg (nI_nlt (by omega) hm)]
    exact congrArg nI (by omega)
/-- the whole writing, on both sides -/
theorem wr_all {σ ρ : jS} {n : Nat} (hn : n ≤ 64) (hA : rA n σ ρ) (hK : rK n σ ρ) (hS : rS σ ρ) (h6 : σ 6 1 = nI n) (h7 : σ 7 = ρ 5) (h74 : ∀ k, le9 4 (σ 7 k)) {K : Nat} (hK31 : K < 2 ^ 31) (V : Int32 → Int32) (hV : ∀ m, m < 140 → V (nI m) = nI K ∨ (V (nI m) = nI m ∧ K = 140)) :
    ∃ r σ1 ρ1, Rn (p_V_write σ (nI K)) r σ1 ∧ (∀ post : Int32 → jS → Prop, post r ρ1 → p_M_next ρ (ρ 0 17) (fun r4 σ3 => p_M_makeImage (up2 σ3 0 17 r4) ((up2 σ3 0 17 r4) 0 17) (fun σ5 => p_M_write σ5 (V (σ5 0 20)) (fun σ6 => post (σ6 0 17) σ6)))) ∧ ρ1 0 0 = ρ 0 0 ∧ jR σ1 ρ1 := by
  obtain ⟨N0, hN0, e0⟩ := hS.2.1
  have m17 : ρ 0 17 = nI N0 := hS.1 ▸ e0
  have hN : (N0 + 1) % 200 ≤ 199 := by omega
  obtain ⟨m, σ1, ρ1, k0, k1, k2, k3, k4, k5, k6, k7⟩ := dr_all (σ := up2 σ 9 2 (nI ((N0 + 1) % 200))) (ρ := up2 ρ 0 17 (nI ((N0 + 1) % 200))) hn hN h6 h7 h74 hA.2.1 rfl
  generalize hNe : (N0 + 1) % 200 = N at hN k1 k2 k5 k6 k7
  have e9 : σ1 9 2 = nI N := by rw [k5 9 (by decide)]; rfl
  have e17 : ρ1 0 17 = nI N := by rw [k7 17 (by decide)]; rfl
  have hS' : rS (wS σ1 (N % 2) 0 (min K m)) (wM ρ1 (N % 2) 0 (min K m)) := rS_wr hS hN k0 (by omega) k4 e9 (k5 11 (by decide)) (k5 12 (by decide)) e17 (k6 6 (by decide) (by decide))
  refine ⟨nI N, wS σ1 (N % 2) 0 (min K m), wM ρ1 (N % 2) 0 (min K m), fun post hp => ?_, fun post hp => ?_, k7 0 (by decide), jR_wr hn hA hK hS' (fun c q9 q11 q12 q13 => ?_) (fun c q0 q6 q7 => ?_) (fun i q17 q20 => ?_)⟩
  · unfold p_V_write p_V_behindNumber
    rw [e0, nx hN0, hNe]
    refine k1 _ ⟨min K m + 1, ?_⟩
    rw [minI (by omega) hK31]
    exact s_wr hN (by omega) (min K m) 0 σ1 (by omega) e9 hp
  · rw [m17]
    refine r_nx hN0 _ ?_
    rw [hNe]
    refine k2 _ ?_
    have hp' : (fun σ6 : jS => post (σ6 0 17) σ6) (wM ρ1 (N % 2) 0 (min K m)) := by
      show post (ρ1 0 17) _
      rw [e17]
      exact hp
    rw [k3]
    rcases hV m k0 with q | ⟨q, qK⟩
    · rw [q]
      exact ⟨min K m + 1, m_wr hN k0 hK31 rfl (min K m) 0 ρ1 (by omega) e17 k3 hp'⟩
    · rw [q]
      rw [show min K m = m from by omega] at hp'
      exact ⟨m + 1, m_wr hN k0 (by omega) (by omega) m 0 ρ1 (by omega) e17 k3 hp'⟩
  · unfold wS
    by_cases q : N % 2 = 0
    · rw [if_pos q]
      simp [stA, q11, k5 c q13, up2, q9]
    · rw [if_neg q]
      simp [stA, q12, k5 c q13, up2, q9]
  · simp [wM, stA, q6, k6 c q0 q7, up2, q0]
  · show ρ1 0 i = ρ 0 i
    rw [k7 i q20]
    simp [up2, q17]
theorem jG_p {k n : Nat} {σ ρ : jS} (h : jG k n σ ρ) : σ 6 1 = nI n ∧ σ 7 = ρ 5 ∧ ∀ k, le9 4 (σ 7 k) := ⟨h.2.2.1.2.2.2.2.1, h.2.2.1.2.2.2.2.2.1, h.2.2.1.2.2.2.2.2.2.1⟩
section
variable {L : Nat} {xs : Nat → Int32} {v4 : Int32} {σ ρ : jS} {fo : Nat → Int64}
theorem st_5 (h : jR σ ρ) : p_law_5 L xs v4 σ fo ρ (fun σ _ ρ => jR σ ρ) := by
  obtain ⟨n, hn, hA, hK, hS⟩ := id h
  unfold p_law_5 p_L_save p_R_save
  refine s_goesOn hK (fun hk hn0 hG => jF z10 ?_) (fun h0 => jT rfl ⟨by decide, ?_⟩)
  · obtain ⟨r, σ1, ρ1, g1, g2, g3, g4⟩ := wr_all (ρ := up2 ρ 0 0 0) (K := 140) hn hA hK hS hG.1 hG.2.1 hG.2.2.1 (by decide) (fun x => x) (fun m hm => Or.inr ⟨rfl, rfl⟩)
    refine g1 _ ?_
    unfold p_M_save
    have w := g2 (fun r3 ρ4 => p_M_thrown ρ4 (fun r5 ρ6 => (r5 = 0 → (¬ (0 : Int32) = 0 → jR σ1 ρ6) ∧ ((0 : Int32) = 0 → ((lg_cmp ((vp_updL fo 0 r.toInt64) (0 : Int32).toNatClampNeg) r3.toInt64) = 0 → jR σ1 ρ6) ∧ (¬ (lg_cmp ((vp_updL fo 0 r.toInt64) (0 : Int32).toNatClampNeg) r3.toInt64) = 0 → False))) ∧ (¬ r5 = 0 → False))) (fin0 (fo := fo) g3 g4)
    exact m_goesOn hK (fun _ _ _ => iF z10 (iT rfl w)) (fun h0 => (goes_no hk h0).elim)
  · unfold p_M_save
    refine m_goesOn hK (fun hk _ _ => (goes_no hk h0).elim) (fun _ => iT rfl (iF z10 ?_))
    exact fin1 rfl z10 (jR_code 1 h)
/-- the copying stopped -/
theorem rK_stop {n : Nat} {σ ρ : jS} (hK : rK n σ ρ) (h0 : 0 < n) : rK n (up2 σ 8 2 7) (up2 ρ 0 8 7) := by
  refine ⟨rfl, Or.inr ⟨h0, 7, by omega, rfl⟩, hK.2.2.1, hK.2.2.2.1, fun q => ?_, hK.2.2.2.2.2⟩
  obtain ⟨j, hj, e⟩ := q
  have e : nI 7 = nI j := e
  rw [nI_eq (by decide) (by omega)] at e
  omega
theorem st_6 (h : jR σ ρ) (i1 : vp_in (v4 + 1) L) : p_law_6 L xs v4 σ fo ρ (fun σ _ ρ => jR σ ρ) := by
  obtain ⟨n, hn, hA, hK, hS⟩ := id h
  refine ⟨i1, ?_⟩
  unfold p_L_stop p_R_stop
  generalize xs (v4 + 1).toNatClampNeg = v
  by_cases q0 : 0 ≤ v
  · obtain ⟨K, hK31, rfl⟩ := nI_of (x := v) (fun q => by
      rw [Int32.lt_iff_toInt_lt] at q
      rw [Int32.le_iff_toInt_le] at q0
      omega)
    refine iT q0 (s_goesOn hK (fun hk hn0 hG => jF z10 ?_) (fun h0 => jT rfl (iF (by decide) ⟨i1, ?_⟩)))
    · have hK7 := rK_stop hK hn0
      have go : ∀ post : Int32 → jS → Prop, p_M_stop_21 post (nI K) ρ 0 → p_M_stop ρ (nI K) post := fun post w => iT q0 (m_goesOn hK (fun _ _ _ => jF z10 w) (fun h0 => (goes_no hk h0).elim))
      by_cases qk : K = 0
      · subst qk
        exact jT rfl ⟨i1, go _ (iT rfl (jT rfl (fin0 (r := 0) (fo := fo) rfl ⟨n, hn, hA, hK7, hS⟩)))⟩
      · have nk : ¬ nI K = 0 := nI_ne0 (by omega) hK31
        obtain ⟨r, σ1, ρ1, g1, g2, g3, g4⟩ := wr_all (σ := up2 σ 8 2 7) (ρ := up2 (up2 ρ 0 0 0) 0 8 7) (K := K) hn hA hK7 hS hG.1 hG.2.1 hG.2.2.1 hK31 (fun _ => nI K) (fun m hm => Or.inl rfl)
        have w := g2 (fun r3 ρ4 => p_M_thrown ρ4 (fun r5 ρ6 => (r5 = 0 → (¬ (0 : Int32) = 0 → jR σ1 ρ6) ∧ ((0 : Int32) = 0 → ((lg_cmp ((vp_updL fo 0 r.toInt64) (0 : Int32).toNatClampNeg) r3.toInt64) = 0 → jR σ1 ρ6) ∧ (¬ (lg_cmp ((vp_updL fo 0 r.toInt64) (0 : Int32).toNatClampNeg) r3.toInt64) = 0 → False))) ∧ (¬ r5 = 0 → False))) (fin0 (fo := fo) g3 g4)
        exact jF nk (g1 _ ⟨i1, go _ (iT rfl (jF nk w))⟩)
    · refine iT q0 (m_goesOn hK (fun hk _ _ => (goes_no hk h0).elim) (fun _ => jT rfl (iF z20 ?_)))
      exact fin1 rfl z20 (jR_code 2 h)
  · refine iF q0 (iT rfl ⟨i1, iF q0 (iF z10 ?_)⟩)
    exact fin1 rfl z10 (jR_code 1 h)
end

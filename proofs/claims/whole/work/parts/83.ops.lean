/-! second, count, part -/
theorem fin9_0 {r5 : Int32} {fo : Nat → Int64} {P A : Prop} (h5 : r5 = 0) (hp : P) : (r5 = 0 → (¬ (0 : Int32) = 0 → P) ∧ ((0 : Int32) = 0 → ((0 : Int32) = 0 → ((lg_cmp ((vp_updL fo 0 0) (0 : Int32).toNatClampNeg) 0) = 0 → P) ∧ (¬ (lg_cmp ((vp_updL fo 0 0) (0 : Int32).toNatClampNeg) 0) = 0 → False)) ∧ (¬ (0 : Int32) = 0 → A))) ∧ (¬ r5 = 0 → False) :=
  ⟨fun _ => ⟨fun q => absurd rfl q, fun _ => ⟨fun _ => ⟨fun _ => hp, fun q => q ((lg_cmp_eq _ _).mpr pk_uLs)⟩, fun q => absurd rfl q⟩⟩, fun q => q h5⟩
theorem fin9_1 {r5 : Int32} {fo : Nat → Int64} {P A : Prop} (h5 : r5 = 0) (hp : P) : (r5 = 0 → (¬ (0 : Int32) = 0 → P) ∧ ((0 : Int32) = 0 → ((1 : Int32) = 0 → A) ∧ (¬ (1 : Int32) = 0 → ((lg_cmp ((vp_updL fo 0 1) (0 : Int32).toNatClampNeg) 1) = 0 → P) ∧ (¬ (lg_cmp ((vp_updL fo 0 1) (0 : Int32).toNatClampNeg) 1) = 0 → False)))) ∧ (¬ r5 = 0 → False) :=
  ⟨fun _ => ⟨fun q => absurd rfl q, fun _ => ⟨fun q => absurd q z10, fun _ => ⟨fun _ => hp, fun q => q ((lg_cmp_eq _ _).mpr pk_uLs)⟩⟩⟩, fun q => q h5⟩
def ct (f : Nat → Int32) (v : Int32) : Nat → Nat → Nat
  | 0, _ => 0
  | d + 1, k => (if f k = v then 1 else 0) + ct f v d (k + 1)
theorem s_ct {post : Int32 → jS → Prop} {v : Int32} {σ : jS} {n : Nat} (h6 : σ 6 1 = nI n) (hn : n ≤ 64) : ∀ d k c, k + d = n → post (nI (c + ct (σ 7) v d k)) σ → p_S_countOf_4 post v (d + 1) σ (nI c) (nI k) := by
  intro d
  induction d with
  | zero => exact fun k c hk hp => pk_le n k (fun _ => hp) (fun h => by omega) h6
  | succ d ih =>
    intro k c hk hp
    refine pk_le n k (fun h => by omega) (fun h => ⟨pk_in k 64 (by omega), fun q => ?_, fun q => ?_⟩) h6
    · rw [cl (by omega)] at q
      unfold p_S_countOf_25
      rw [nI_1]
      refine ih (k + 1) c (by omega) ?_
      rw [show ct (σ 7) v (d + 1) k = (if σ 7 k = v then 1 else 0) + ct (σ 7) v d (k + 1) from rfl, if_neg q, Nat.zero_add] at hp
      exact hp
    · rw [cl (by omega)] at q
      unfold p_S_countOf_25
      rw [nI_1, nI_1]
      refine ih (k + 1) (c + 1) (by omega) ?_
      rw [show ct (σ 7) v (d + 1) k = (if σ 7 k = v then 1 else 0) + ct (σ 7) v d (k + 1) from rfl, if_pos q] at hp
      rw [show c + 1 + ct (σ 7) v d (k + 1) = c + (1 + ct (σ 7) v d (k + 1)) from by omega]
      exact hp
theorem m_ct {post : Int32 → jS → Prop} {v : Int32} {σ ρ : jS} {n : Nat} (hK : rK n σ ρ) (hk6 : ∃ k, k ≤ 6 ∧ σ 8 2 = nI k) (h1 : ρ 0 1 = nI n) (hn : n ≤ 64) : ∀ d k c, k + d = n → post (nI (c + ct (ρ 5) v d k)) ρ → p_M_count_9 post v (d + 1) ρ (nI c) (nI k) := by
  intro d
  induction d with
  | zero => exact fun k c hk hp => pk_le n k (fun _ => hp) (fun h => by omega) h1
  | succ d ih =>
    intro k c hk hp
    refine pk_le n k (fun h => by omega) (fun h => m_goesOn hK (fun _ _ _ => iF z10 ⟨pk_in k 64 (by omega), fun q => ?_, fun q => ?_⟩) (fun h0 => (goes_no hk6 h0).elim)) h1
    · rw [cl (by omega)] at q
      show p_M_count_9 post v (d + 1) ρ (nI c + nI 0) (nI k + 1)
      rw [nI_1, nI_add]
      refine ih (k + 1) c (by omega) ?_
      rw [show ct (ρ 5) v (d + 1) k = (if ρ 5 k = v then 1 else 0) + ct (ρ 5) v d (k + 1) from rfl, if_neg q, Nat.zero_add] at hp
      exact hp
    · rw [cl (by omega)] at q
      show p_M_count_9 post v (d + 1) ρ (nI c + 1) (nI k + 1)
      rw [nI_1, nI_1]
      refine ih (k + 1) (c + 1) (by omega) ?_
      rw [show ct (ρ 5) v (d + 1) k = (if ρ 5 k = v then 1 else 0) + ct (ρ 5) v d (k + 1) from rfl, if_pos q] at hp
      rw [show c + 1 + ct (ρ 5) v d (k + 1) = c + (1 + ct (ρ 5) v d (k + 1)) from by omega]
      exact hp
theorem m_ct0 {post : Int32 → jS → Prop} {v : Int32} {σ ρ : jS} {n : Nat} (hK : rK n σ ρ) (h0 : σ 8 2 = -1 ∨ σ 8 2 = 7) (h1 : ρ 0 1 = nI n) (hn : n ≤ 64) : ∀ d k, k + d = n → post (nI 0) ρ → p_M_count_9 post v (d + 1) ρ (nI 0) (nI k) := by
  intro d
  induction d with
  | zero => exact fun k hk hp => pk_le n k (fun _ => hp) (fun h => by omega) h1
  | succ d ih =>
    intro k hk hp
    refine pk_le n k (fun h => by omega) (fun h => m_goesOn hK (fun hk _ _ => (goes_no hk h0).elim) (fun _ => iT rfl ?_)) h1
    show p_M_count_9 post v (d + 1) ρ (nI 0 + nI 0) (nI k + 1)
    rw [nI_1, nI_add]
    exact ih (k + 1) (by omega) hp
/-- runs -/
def isS (f : Nat → Int32) (k : Nat) : Prop := k = 0 ∨ f k ≠ f (k - 1)
def rE (f : Nat → Int32) (n s : Nat) : Nat := eB f (f s) (n - (s + 1)) (s + 1)
theorem rE_sp {f : Nat → Int32} {n s : Nat} (hs : s < n) : s + 1 ≤ rE f n s ∧ rE f n s ≤ n ∧ (∀ i, s < i → i < rE f n s → ¬ isS f i) ∧ (rE f n s < n → isS f (rE f n s)) := by
  unfold rE
  obtain ⟨h1, h2, h3, h4⟩ := eB_sp f (f s) (n - (s + 1)) (s + 1)
  generalize eB f (f s) (n - (s + 1)) (s + 1) = e at h1 h2 h3 h4
  have all : ∀ i, s ≤ i → i < e → f i = f s := by
    intro i q1 q2
    by_cases q : i = s
    · rw [q]
    · exact h3 i (by omega) q2
  refine ⟨h1, by omega, fun i q1 q2 q => ?_, fun q => Or.inr ?_⟩
  · rcases q with q | q
    · omega
    · exact q ((all i (by omega) q2).trans (all (i - 1) (by omega) (by omega)).symm)
  · rw [all (e - 1) (by omega) (by omega)]
    exact h4 (by omega)
theorem sr_1 {σ : jS} {n k : Nat} (h6 : σ 6 1 = nI n) (hn : n ≤ 64) (hk : k < n) (h : isS (σ 7) k) : Rn (p_S_startsRun σ (nI k)) 1 σ := by
  intro post hp
  refine pk_eq k 0 (fun _ => ⟨Or.inr rfl, hp⟩) (fun q => c_so h6 hn hk _ ?_)
  obtain ⟨j, rfl⟩ : ∃ j, k = j + 1 := ⟨k - 1, by omega⟩
  rw [nI_pred]
  exact c_so h6 hn (by omega) _ (iF (h.resolve_left q) ⟨Or.inr rfl, hp⟩)
theorem sr_0 {σ : jS} {n k : Nat} (h6 : σ 6 1 = nI n) (hn : n ≤ 64) (hk : k < n) (h : ¬ isS (σ 7) k) : Rn (p_S_startsRun σ (nI k)) 0 σ := by
  intro post hp
  refine pk_eq k 0 (fun q => absurd (Or.inl q) h) (fun q => c_so h6 hn hk _ ?_)
  obtain ⟨j, rfl⟩ : ∃ j, k = j + 1 := ⟨k - 1, by omega⟩
  rw [nI_pred]
  refine c_so h6 hn (by omega) _ (iT ?_ ⟨Or.inl rfl, hp⟩)
  by_cases w : σ 7 (j + 1) = σ 7 j
  · exact w
  · exact absurd (Or.inr w) h
theorem r_eo {ρ : jS} {n s : Nat} (h1 : ρ 0 1 = nI n) (hn : n ≤ 64) (hs : s < n) : Rn (p_M_endOf ρ (nI s)) (nI (rE (ρ 5) n s)) ρ := by
  have go : ∀ (post : Int32 → jS → Prop) d k, s < k → n - k = d → k ≤ n → post (nI (eB (ρ 5) (ρ 5 s) d k)) ρ → p_M_endOf_4 post (nI s) (d + 1) ρ (nI k) := by
    intro post d
    induction d with
    | zero => exact fun k q1 q2 q3 hp => pk_le n k (fun _ => hp) (fun h => by omega) h1
    | succ d ih =>
      intro k q1 q2 q3 hp
      refine pk_le n k (fun h => by omega) (fun h => ⟨pk_in k 64 (by omega), pk_in s 64 (by omega), ?_⟩) h1
      rw [cl (by omega), cl (by omega)]
      refine ⟨fun q => ?_, fun q => ?_⟩
      · rw [show eB (ρ 5) (ρ 5 s) (d + 1) k = k from if_neg q] at hp
        exact hp
      · rw [show eB (ρ 5) (ρ 5 s) (d + 1) k = eB (ρ 5) (ρ 5 s) d (k + 1) from if_pos q] at hp
        rw [nI_1]
        exact ih (k + 1) (by omega) (by omega) (by omega) hp
  intro post hp
  refine ⟨n - (s + 1) + 1, ?_⟩
  rw [nI_1]
  exact go post _ (s + 1) (by omega) rfl (by omega) hp
theorem c_b64 {σ : jS} {n s : Nat} (h6 : σ 6 1 = nI n) (hn : n ≤ 64) (hs : s < n) : Rn (p_S_behindStretch σ (nI s) 64) (nI (rE (σ 7) n s)) σ := by
  have g := c_bs (m := 64) h6 hn hs (by omega)
  rw [show min n (s + 64) - (s + 1) = n - (s + 1) from by omega] at g
  exact g
theorem fr_skip {post : Int32 → jS → Prop} {v1 : Int32} {σ : jS} {n c e m : Nat} (h6 : σ 6 1 = nI n) (hn : n ≤ 64) (he : e ≤ n) (hp : p_S_firstOfRun_4 post v1 m σ (nI c) (nI e)) : ∀ d k, k + d = e → (∀ i, k ≤ i → i < e → ¬ isS (σ 7) i) → p_S_firstOfRun_4 post v1 (m + d) σ (nI c) (nI k) := by
  intro d
  induction d with
  | zero =>
    intro k hk _
    obtain rfl : k = e := by omega
    exact hp
  | succ d ih =>
    intro k hk hs
    refine pk_le n k (fun h => by omega) (fun _ => sr_0 h6 hn (by omega) (hs k (by omega) (by omega)) _ (iT rfl ?_)) h6
    unfold p_S_firstOfRun_30
    rw [nI_1]
    exact ih (k + 1) (by omega) (fun i q1 q2 => hs i (by omega) q2)
theorem fr_neg {post : Int32 → jS → Prop} {v1 : Int32} {σ : jS} {n : Nat} (h6 : σ 6 1 = nI n) (hn : n ≤ 64) (hv : v1 < 0) (hp : post (-1) σ) : ∀ d k c, k + d = n → c ≤ k → p_S_firstOfRun_4 post v1 (d + 1) σ (nI c) (nI k) := by
  intro d
  induction d with
  | zero => exact fun k c hk hc => pk_le n k (fun _ => hp) (fun h => by omega) h6
  | succ d ih =>
    intro k c hk hc
    refine pk_le n k (fun h => by omega) (fun hkn => ?_) h6
    by_cases q : isS (σ 7) k
    · refine sr_1 h6 hn hkn q _ (iF z10 (jF (fun w => ?_) ?_))
      · rw [← w] at hv
        exact nI_pos (by omega) hv
      · unfold p_S_firstOfRun_30
        rw [nI_1, nI_1]
        exact ih (k + 1) (c + 1) (by omega) (by omega)
    · refine sr_0 h6 hn hkn q _ (iT rfl ?_)
      unfold p_S_firstOfRun_30
      rw [nI_1]
      exact ih (k + 1) c (by omega) (by omega)
theorem fr_st {σ ρ : jS} {n i : Nat} {v2 : Int32} (h6 : σ 6 1 = nI n) (h1 : ρ 0 1 = nI n) (h7 : σ 7 = ρ 5) (hn : n ≤ 64) (hi : i < 2 ^ 31) : ∀ d s c, n - s ≤ d → s ≤ n → c ≤ i → c ≤ s → (s < n → isS (σ 7) s) → ∃ s', s' ≤ n ∧ (∀ post : Int32 → jS → Prop, post (if s' < n then nI s' else -1) σ → ∃ m, p_S_firstOfRun_4 post (nI i) m σ (nI c) (nI s)) ∧ (∀ post : Int32 → jS → Prop, p_M_part_49 post (nI i) v2 ρ (nI s') → ∃ m, p_M_part_23 post (nI i) v2 m ρ (nI s) (nI c)) := by
  intro d
  induction d with
  | zero =>
    intro s c hd hs hc hcs hS
    obtain rfl : s = n := by omega
    refine ⟨s, by omega, fun post hp => ⟨1, pk_le s s (fun _ => ?_) (fun q => by omega) h6⟩, fun post hp => ⟨1, ⟨fun _ => hp, fun _ => pk_le s s (fun _ => hp) (fun q => by omega) h1⟩⟩⟩
    rw [if_neg (by omega)] at hp
    exact hp
  | succ d ih =>
    intro s c hd hs hc hcs hS
    by_cases hsn : s < n
    · by_cases hci : c = i
      · subst hci
        refine ⟨s, hs, fun post hp => ⟨1, pk_le n s (fun q => by omega) (fun _ => sr_1 h6 hn hsn (hS hsn) _ (iF z10 (jT rfl ?_))) h6⟩, fun post hp => ⟨1, pk_le c c (fun _ => hp) (fun q => by omega)⟩⟩
        rw [if_pos hsn] at hp
        exact hp
      · obtain ⟨e1, e2, e3, e4⟩ := rE_sp (f := σ 7) hsn
        obtain ⟨s', k1, k2, k3⟩ := ih (rE (σ 7) n s) (c + 1) (by omega) e2 (by omega) (by omega) e4
        refine ⟨s', k1, fun post hp => ?_, fun post hp => ?_⟩
        · obtain ⟨m, hm⟩ := k2 post hp
          have g := fr_skip h6 hn e2 hm (rE (σ 7) n s - (s + 1)) (s + 1) (by omega) (fun i q1 q2 => e3 i (by omega) q2)
          refine ⟨m + (rE (σ 7) n s - (s + 1)) + 1, pk_le n s (fun q => by omega) (fun _ => sr_1 h6 hn hsn (hS hsn) _ (iF z10 (jF (fun w => hci ((nI_eq (by omega) hi).mp w)) ?_))) h6⟩
          unfold p_S_firstOfRun_30
          rw [nI_1, nI_1]
          exact g
        · obtain ⟨m, hm⟩ := k3 post hp
          refine ⟨m + 1, pk_le i c (fun q => by omega) (fun _ => pk_le n s (fun q => by omega) (fun _ => r_eo h1 hn hsn _ ?_) h1)⟩
          rw [nI_1, ← h7]
          exact hm
    · obtain rfl : s = n := by omega
      refine ⟨s, by omega, fun post hp => ⟨1, pk_le s s (fun _ => ?_) (fun q => by omega) h6⟩, fun post hp => ⟨1, ⟨fun _ => hp, fun _ => pk_le s s (fun _ => hp) (fun q => by omega) h1⟩⟩⟩
      rw [if_neg (by omega)] at hp
      exact hp
section
variable {L : Nat} {xs : Nat → Int32} {v4 : Int32} {σ ρ : jS} {fo : Nat → Int64}
theorem st_11 (h : jR σ ρ) (i1 : vp_in (v4 + 1) L) : p_law_11 L xs v4 σ fo ρ (fun σ _ ρ => jR σ ρ) := by
  obtain ⟨n, hn, hA, hK, hS⟩ := id h
  refine ⟨i1, ?_⟩
  unfold p_R_count
  generalize xs (v4 + 1).toNatClampNeg = v
  refine s_goesOn hK (fun hk hn0 hG => iF z10 ⟨n + 1, s_ct hG.1 hn n 0 0 (by omega) ⟨i1, n + 1, ?_⟩⟩) (fun h0 => iT rfl ⟨i1, n + 1, ?_⟩)
  · refine m_ct (ρ := up2 ρ 0 0 0) hK hk hA.2.1 hn n 0 0 (by omega) (eqF ?_ (jR_code 0 h))
    show nI (0 + ct (σ 7) v n 0) = nI (0 + ct (ρ 5) v n 0)
    rw [hG.2.1]
  · exact m_ct0 (ρ := up2 ρ 0 0 0) hK h0 hA.2.1 hn n 0 (by omega) (eqF rfl (jR_code 0 h))
theorem st_9 (h : jR σ ρ) (i1 : vp_in (v4 + 1) L) (i2 : vp_in (v4 + 2) L) : p_law_9 L xs v4 σ fo ρ (fun σ _ ρ => jR σ ρ) := by
  obtain ⟨n, hn, hA, hK, hS⟩ := id h
  refine ⟨i1, i2, ?_⟩
  unfold p_L_second p_R_second
  generalize xs (v4 + 1).toNatClampNeg = v1
  generalize xs (v4 + 2).toNatClampNeg = v2
  refine s_has hA hn (fun j hj e => jF z10 ?_) (fun ne => jT rfl (iT rfl ⟨i1, i2, ?_⟩))
  · subst e
    refine s_goesOn hK (fun hk hn0 hG => jF z10 ?_) (fun h0 => jT rfl (iF (by decide) ⟨i1, i2, ?_⟩))
    · obtain ⟨k, hk6, e⟩ := id hk
      have hJ := jR_G (ρ := up2 ρ 0 0 0) hn hA hK hS hk6 e hn0 hG rfl
      obtain ⟨-, -, hB, hP, hc, hm⟩ := id hJ
      have h61 : σ 6 1 = nI n := hG.1
      have h7 : σ 7 = ρ 5 := hG.2.1
      have go : ∀ post : Int32 → jS → Prop, p_M_second_25 post (nI j) v2 ρ 0 → p_M_second ρ (nI j) v2 post := fun post w => m_isSector hA hn (fun _ _ _ => jF z10 (m_goesOn hK (fun _ _ _ => jF z10 w) (fun h0 => (goes_no hk h0).elim))) (fun ne => absurd rfl (ne j hj))
      refine c_so h61 hn hj _ ?_
      by_cases q : σ 7 j = 3
      · refine iT q (s_has hA hn (fun _ _ _ => iF z10 ⟨i64 hn hj, ?_⟩) (fun ne => absurd rfl (ne j hj)))
        rw [nI_1, cl (by omega)]
        refine c_mk (σ := up2 σ 5 j v2) 4 h61 hn (by omega) (by omega) _ ⟨Or.inr rfl, iF z10 ⟨i1, i2, go _ (jT rfl ⟨i64 hn hj, ?_⟩)⟩⟩
        rw [cl (by omega)]
        refine iT (show ρ 5 j = 3 from h7 ▸ q) ⟨i64 hn hj, i64 hn hj, Or.inr rfl, ?_⟩
        refine fin9_1 (fo := fo) rfl (jG_R hk6 (n := n) ⟨hn0, hn, ?_, hP, hc, hm⟩)
        obtain ⟨⟨a1, a2, a3, a4, a5, a6, a7, a8, a9⟩, b2, b3, b4, b5, b6, b7, b8⟩ := hB
        refine ⟨⟨a1, a2, a3, a4, a5, ?_, a7, a8, a9⟩, b2, b3, b4, b5, ?_, mk_ok b7 ⟨4, by decide, rfl⟩ j (j + 1), fun i hi => ⟨?_, ?_⟩⟩
        · show (fun b => if b = j then v2 else σ 5 b) = (fun b => if b = j then v2 else ρ 4 b)
          rw [show σ 5 = ρ 4 from a6]
        · show mk (σ 7) j (j + 1) 4 = (fun b => if b = j then 4 else ρ 5 b)
          funext b
          by_cases qb : b = j
          · rw [mk_in (by omega) (by omega), if_pos qb]
          · rw [mk_out (by omega), if_neg qb, h7]
        · show mk (σ 7) j (j + 1) 4 i = 0
          rw [mk_out (by omega)]
          exact (b8 i hi).1
        · show (if i = j then 4 else ρ 5 i) = 0
          rw [if_neg (by omega)]
          exact (b8 i hi).2
      · refine iF q ⟨Or.inl rfl, iT rfl ⟨i1, i2, go _ (jT rfl ⟨i64 hn hj, ?_⟩)⟩⟩
        rw [cl (by omega)]
        refine iF (show ¬ ρ 5 j = 3 from h7 ▸ q) ⟨Or.inl rfl, ?_⟩
        exact fin9_0 (fo := fo) rfl (jR_code 0 h)
    · refine m_isSector hA hn (fun _ _ _ => jF z10 (m_goesOn hK (fun hk _ _ => (goes_no hk h0).elim) (fun _ => jT rfl (jF z20 ⟨Or.inl rfl, ?_⟩)))) (fun ne => absurd rfl (ne j hj))
      exact fin1 rfl z20 (jR_code 2 h)
  · refine m_isSector hA hn (fun j hj e => absurd e (ne j hj)) (fun _ => jT rfl (jF z10 ⟨Or.inl rfl, ?_⟩))
    exact fin1 rfl z10 (jR_code 1 h)
theorem st_12 (h : jR σ ρ) (i1 : vp_in (v4 + 1) L) (i2 : vp_in (v4 + 2) L) : p_law_12 L xs v4 σ fo ρ (fun σ _ ρ => jR σ ρ) := by
  obtain ⟨n, hn, hA, hK, hS⟩ := id h
  refine ⟨i1, i2, ?_⟩
  unfold p_R_part
  generalize xs (v4 + 1).toNatClampNeg = v1
  generalize xs (v4 + 2).toNatClampNeg = v2
  have m1 : ((-1 : Int32) = -1 → jR σ (up2 ρ 0 0 0)) ∧ (¬ (-1 : Int32) = -1 → False) := eqF rfl (jR_code 0 h)
  refine s_goesOn hK (fun hk hn0 hG => iF z10 ?_) (fun h0 => iT rfl (jT rfl ⟨i1, i2, ?_⟩))
  · have h61 : σ 6 1 = nI n := hG.1
    have h7 : σ 7 = ρ 5 := hG.2.1
    have go : ∀ post : Int32 → jS → Prop, ((0 ≤ v1 → ∃ n9, p_M_part_23 post v1 v2 n9 (up2 ρ 0 0 0) 0 0) ∧ (¬ 0 ≤ v1 → post (-1) (up2 ρ 0 0 0))) → p_M_part ρ v1 v2 post := fun post w => m_goesOn (ρ := up2 ρ 0 0 0) hK (fun _ _ _ => iF z10 w) (fun h0 => (goes_no hk h0).elim)
    by_cases q0 : v1 < 0
    · refine ⟨n + 1, fr_neg h61 hn q0 (jT rfl ⟨i1, i2, go _ (iF (fun w => ?_) m1)⟩) n 0 0 (by omega) (by omega)⟩
      rw [Int32.le_iff_toInt_le] at w
      rw [Int32.lt_iff_toInt_lt] at q0
      omega
    · obtain ⟨i, hi, rfl⟩ := nI_of q0
      obtain ⟨s', k1, k2, k3⟩ := fr_st (σ := σ) (ρ := up2 ρ 0 0 0) (n := n) (i := i) (v2 := v2) h61 hA.2.1 h7 hn hi n 0 0 (by omega) (by omega) (by omega) (by omega) (fun _ => Or.inl rfl)
      refine k2 _ ?_
      have go2 : ∀ post : Int32 → jS → Prop, p_M_part_49 post (nI i) v2 (up2 ρ 0 0 0) (nI s') → p_M_part ρ (nI i) v2 post := fun post w => go post (iT (nI_pos' hi) (k3 post w))
      by_cases qs : s' < n
      · rw [if_pos qs]
        have lt : nI s' < (up2 ρ 0 0 0) 0 1 := by
          show nI s' < ρ 0 1
          rw [hA.2.1]
          exact nI_lt qs (by omega)
        refine jF (ns1 (by omega)) ⟨fun w => ?_, fun w => ?_, fun w => ?_, fun w => ?_⟩
        · exact ⟨i1, i2, go2 _ (iT lt (jT w (eqF rfl (jR_code 0 h))))⟩
        · subst w
          refine c_b64 h61 hn qs _ ⟨i1, i2, go2 _ (iT lt (jF z10 (jT rfl (r_eo (ρ := up2 ρ 0 0 0) hA.2.1 hn qs _ (eqF ?_ (jR_code 0 h))))))⟩
          show nI (rE (σ 7) n s') - nI s' = nI (rE (ρ 5) n s') - nI s'
          rw [h7]
        · subst w
          refine c_so h61 hn qs _ ⟨i1, i2, go2 _ (iT lt (jF z20 (jF (by decide) (jT rfl ⟨i64 hn qs, ?_⟩))))⟩
          rw [cl (by omega)]
          refine eqF ?_ (jR_code 0 h)
          show σ 7 s' = ρ 5 s'
          rw [h7]
        · have w0 : ¬ v2 = 0 := fun z => by rw [z] at w; revert w; decide
          have w1 : ¬ v2 = 1 := fun z => by rw [z] at w; revert w; decide
          have w2 : ¬ v2 = 2 := fun z => by rw [z] at w; revert w; decide
          exact ⟨i1, i2, go2 _ (iT lt (jF w0 (jF w1 (jF w2 m1))))⟩
      · rw [if_neg qs]
        have lt : ¬ nI s' < (up2 ρ 0 0 0) 0 1 := by
          show ¬ nI s' < ρ 0 1
          rw [hA.2.1]
          exact nI_nlt (by omega) (by omega)
        exact jT rfl ⟨i1, i2, go2 _ (iF lt m1)⟩
  · exact m_goesOn (ρ := up2 ρ 0 0 0) hK (fun hk _ _ => (goes_no hk h0).elim) (fun _ => iT rfl m1)
end

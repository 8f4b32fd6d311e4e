/-! the smaller calls -/
def sl (σ : jS) (p k : Nat) : Int32 := if p = 0 then σ 11 k else σ 12 k
theorem sl_eq {σ ρ : jS} (hS : rS σ ρ) {p k : Nat} (hp : p < 2) (hk : k < 140) : sl σ p k = ρ 6 (140 * p + k) := by
  unfold sl
  match p, hp with
  | 0, _ =>
    rw [if_pos rfl, (hS.2.2 k hk).1]
    exact congrArg (ρ 6) (by omega)
  | 1, _ =>
    rw [if_neg (by omega), (hS.2.2 k hk).2.1]
theorem sl_le {σ ρ : jS} (hS : rS σ ρ) {p k : Nat} (hk : k < 140) : le9 255 (sl σ p k) := by
  unfold sl
  by_cases q : p = 0
  · rw [if_pos q]; exact (hS.2.2 k hk).2.2.1
  · rw [if_neg q]; exact (hS.2.2 k hk).2.2.2
theorem vhas1 {σ : jS} {p k : Nat} (hp : p < 2) (hk : k < 140) : Rn (p_V_has σ (nI p) (nI k)) 1 σ := fun _ h => iF (nI_pos (by omega)) (pk_le 2 p (fun q => by omega) (fun _ => iF (nI_pos (by omega)) (pk_le 140 k (fun q => by omega) (fun _ => ⟨Or.inr rfl, h⟩))))
theorem vhas0 {σ : jS} {v1 v2 : Int32} (h : ∀ p k, p < 2 → k < 140 → ¬ (v1 = nI p ∧ v2 = nI k)) : Rn (p_V_has σ v1 v2) 0 σ := by
  intro post hp
  rcases pk_ix v1 (n := 2) (by decide) with q | q | ⟨p, h1, e1⟩
  · exact iT q ⟨Or.inl rfl, hp⟩
  · refine ⟨fun _ => ⟨Or.inl rfl, hp⟩, fun _ => iT q ⟨Or.inl rfl, hp⟩⟩
  · refine ⟨fun _ => ⟨Or.inl rfl, hp⟩, fun _ => ⟨fun _ => ⟨Or.inl rfl, hp⟩, fun _ => ⟨fun _ => ⟨Or.inl rfl, hp⟩, fun q1 => ⟨fun _ => ⟨Or.inl rfl, hp⟩, fun q2 => ?_⟩⟩⟩⟩
    rcases pk_ix v2 (n := 140) (by decide) with w | w | ⟨k, h2, e2⟩
    · exact absurd w q1
    · exact absurd w q2
    · exact absurd ⟨e1, e2⟩ (h p k h1 h2)
theorem c_at {σ : jS} {p k : Nat} (hp : p < 2) (hk : k < 140) : Rn (p_V_byteAt σ (nI p) (nI k)) (sl σ p k) σ := by
  intro post h
  refine vhas1 hp hk _ (iF z10 ⟨pk_in p 2 hp, pk_eq p 0 (fun q => ⟨pk_in k 140 hk, ?_⟩) (fun q => ⟨pk_in k 140 hk, ?_⟩)⟩)
  · rw [cl (by omega)]
    unfold sl at h
    rw [if_pos q] at h
    exact h
  · rw [cl (by omega)]
    unfold sl at h
    rw [if_neg q] at h
    exact h
theorem ix6 {p k : Nat} : (140 : Int32) * nI p + nI k = nI (140 * p + k) := by
  rw [show (140 : Int32) = nI 140 from rfl, pk_mul, nI_add]
theorem r_at {ρ : jS} {p k : Nat} (hp : p < 2) (hk : k < 140) : Rn (p_M_at ρ (nI p) (nI k)) (ρ 6 (140 * p + k)) ρ := by
  intro post h
  unfold p_M_at
  rw [ix6, cl (by omega)]
  exact ⟨pk_in (140 * p + k) 280 (by omega), h⟩
theorem gt1 {v : Int32} : (1 : Int32) < v ↔ nI 2 ≤ v := by
  rw [Int32.lt_iff_toInt_lt, Int32.le_iff_toInt_le, nI_toInt (by decide), show (1 : Int32).toInt = 1 from by decide]
  omega
theorem gt139 {v : Int32} : (139 : Int32) < v ↔ nI 140 ≤ v := by
  rw [Int32.lt_iff_toInt_lt, Int32.le_iff_toInt_le, nI_toInt (by decide), show (139 : Int32).toInt = 139 from by decide]
  omega
theorem le139 {v : Int32} : v ≤ (139 : Int32) ↔ ¬ nI 140 ≤ v := by
  rw [Int32.le_iff_toInt_le, Int32.le_iff_toInt_le, nI_toInt (by decide), show (139 : Int32).toInt = 139 from by decide]
  omega
/-- in a slot, or not -/
theorem inslot (v1 v2 : Int32) : (∃ p k, p < 2 ∧ k < 140 ∧ v1 = nI p ∧ v2 = nI k) ∨ ((∀ p k, p < 2 → k < 140 → ¬ (v1 = nI p ∧ v2 = nI k)) ∧ (¬ v1 < 0 → ¬ (1 : Int32) < v1 → ¬ v2 < 0 → (139 : Int32) < v2)) := by
  by_cases h : ∃ p k, p < 2 ∧ k < 140 ∧ v1 = nI p ∧ v2 = nI k
  · exact Or.inl h
  · refine Or.inr ⟨fun p k h1 h2 e => h ⟨p, k, h1, h2, e.1, e.2⟩, fun q1 q2 q3 => ?_⟩
    rcases pk_ix v1 (n := 2) (by decide) with w | w | ⟨p, h1, e1⟩
    · exact absurd w q1
    · exact absurd (gt1.mpr w) q2
    · rcases pk_ix v2 (n := 140) (by decide) with w | w | ⟨k, h2, e2⟩
      · exact absurd w q3
      · exact gt139.mpr w
      · exact absurd ⟨p, k, h1, h2, e1, e2⟩ h
theorem ng {p : Nat} (hp : p < 2) : ¬ (1 : Int32) < nI p := fun q => nI_ge (b := 2) hp (by decide) (gt1.mp q)
theorem ng9 {k : Nat} (hk : k < 140) : ¬ (139 : Int32) < nI k := fun q => nI_ge (b := 140) hk (by decide) (gt139.mp q)
section
variable {L : Nat} {xs : Nat → Int32} {v4 : Int32} {σ ρ : jS} {fo : Nat → Int64}
theorem st_17 (h : jR σ ρ) (i1 : vp_in (v4 + 1) L) (i2 : vp_in (v4 + 2) L) : p_law_17 L xs v4 σ fo ρ (fun σ _ ρ => jR σ ρ) := by
  obtain ⟨n, hn, hA, hK, hS⟩ := id h
  refine ⟨i1, i2, ?_⟩
  unfold p_R_image
  generalize xs (v4 + 1).toNatClampNeg = v1
  generalize xs (v4 + 2).toNatClampNeg = v2
  rcases inslot v1 v2 with ⟨p, k, hp, hk, rfl, rfl⟩ | ⟨h1, h2⟩
  · refine c_at hp hk _ ⟨i1, i2, iF (nI_pos (by omega)) (iF (ng hp) (iF (nI_pos (by omega)) (iT (le139.mpr (nI_ge hk (by decide))) ?_)))⟩
    exact r_at (ρ := up2 ρ 0 0 0) hp hk _ (eqF (sl_eq hS hp hk) (jR_code 0 h))
  · refine vhas0 h1 _ (iT rfl ⟨i1, i2, ?_⟩)
    have g : ((-1 : Int32) = -1 → jR σ (up2 ρ 0 0 0)) ∧ (¬ (-1 : Int32) = -1 → False) := eqF rfl (jR_code 0 h)
    exact ⟨fun _ => g, fun q1 => ⟨fun _ => g, fun q2 => ⟨fun _ => g, fun q3 => ⟨fun q4 => absurd (gt139.mp (h2 q1 q2 q3)) (le139.mp q4), fun _ => g⟩⟩⟩⟩
theorem st_8 (h : jR σ ρ) (i1 : vp_in (v4 + 1) L) (i2 : vp_in (v4 + 2) L) (i3 : vp_in (v4 + 3) L) : p_law_8 L xs v4 σ fo ρ (fun σ _ ρ => jR σ ρ) := by
  obtain ⟨n, hn, hA, hK, hS⟩ := id h
  refine ⟨i1, i2, i3, ?_⟩
  unfold p_L_poke p_R_poke
  generalize xs (v4 + 1).toNatClampNeg = v1
  generalize xs (v4 + 2).toNatClampNeg = v2
  generalize xs (v4 + 3).toNatClampNeg = v3
  have no : ∀ post : jS → Prop, post (up2 ρ 0 0 1) → p_M_poke_32 post v1 v2 v3 ρ := fun post hp => jF z10 hp
  have g1 : p_M_thrown (up2 ρ 0 0 1) (fun r4 ρ5 => (r4 = 1 → jR σ ρ5) ∧ (¬ r4 = 1 → False)) := eqF rfl (jR_code 1 h)
  rcases inslot v1 v2 with ⟨p, k, hp, hk, rfl, rfl⟩ | ⟨h1, h2⟩
  · refine vhas1 hp hk _ (jF z10 ?_)
    have go : ∀ post : jS → Prop, ((v3 < 0 → p_M_poke_32 post (nI p) (nI k) v3 ρ) ∧ (¬ v3 < 0 → (v3 ≤ 255 → p_M_poke_37 post (nI p) (nI k) v3 ρ 0) ∧ (¬ v3 ≤ 255 → p_M_poke_32 post (nI p) (nI k) v3 ρ))) → p_M_poke ρ (nI p) (nI k) v3 post := fun post w => iF (nI_pos (by omega)) (iF (ng hp) (iF (nI_pos (by omega)) (iF (ng9 hk) w)))
    by_cases q0 : v3 < 0
    · exact iT q0 ⟨rfl, i1, i2, i3, go _ (iT q0 (no _ g1))⟩
    · by_cases q1 : v3 ≤ 255
      · refine iF q0 (iT q1 ?_)
        obtain ⟨w, hw, rfl⟩ := nI_of2 (n := 255) (by decide) q0 q1
        have tail : ∀ σ', jR σ' (up2 (up2 ρ 0 0 0) 6 (140 * p + k) (nI w)) → (vp_in (v4 + 1) L ∧ vp_in (v4 + 2) L ∧ vp_in (v4 + 3) L ∧ p_M_poke ρ (nI p) (nI k) (nI w) (fun ρ3 => p_M_thrown ρ3 (fun r4 ρ5 => (r4 = 0 → jR σ' ρ5) ∧ (¬ r4 = 0 → False)))) := by
          intro σ' hσ
          refine ⟨i1, i2, i3, go _ (iF q0 (iT q1 (jT rfl ?_)))⟩
          rw [ix6, cl (by omega)]
          exact ⟨pk_in (140 * p + k) 280 (by omega), eqF rfl hσ⟩
        refine vhas1 hp hk _ (iF z10 ⟨pk_in p 2 hp, pk_eq p 0 (fun q => ⟨pk_in k 140 hk, ?_⟩) (fun q => ⟨pk_in k 140 hk, ?_⟩)⟩)
        · rw [cl (by omega)]
          refine tail _ ⟨n, hn, hA, hK, hS.1, hS.2.1, fun i hi => ?_⟩
          subst q
          show (if i = k then nI w else σ 11 i) = (if i = 140 * 0 + k then nI w else ρ 6 i) ∧ σ 12 i = (if 140 + i = 140 * 0 + k then nI w else ρ 6 (140 + i)) ∧ le9 255 (if i = k then nI w else σ 11 i) ∧ le9 255 (σ 12 i)
          obtain ⟨s1, s2, s3, s4⟩ := hS.2.2 i hi
          rw [if_neg (show ¬ 140 + i = 140 * 0 + k from by omega)]
          by_cases qk : i = k
          · rw [if_pos qk, if_pos (by omega)]
            exact ⟨rfl, s2, ⟨w, hw, rfl⟩, s4⟩
          · rw [if_neg qk, if_neg (by omega)]
            exact ⟨s1, s2, s3, s4⟩
        · rw [cl (by omega)]
          refine tail _ ⟨n, hn, hA, hK, hS.1, hS.2.1, fun i hi => ?_⟩
          obtain rfl : p = 1 := by omega
          show σ 11 i = (if i = 140 * 1 + k then nI w else ρ 6 i) ∧ (if i = k then nI w else σ 12 i) = (if 140 + i = 140 * 1 + k then nI w else ρ 6 (140 + i)) ∧ le9 255 (σ 11 i) ∧ le9 255 (if i = k then nI w else σ 12 i)
          obtain ⟨s1, s2, s3, s4⟩ := hS.2.2 i hi
          rw [if_neg (show ¬ i = 140 * 1 + k from by omega)]
          by_cases qk : i = k
          · rw [if_pos qk, if_pos (by omega)]
            exact ⟨s1, rfl, s3, ⟨w, hw, rfl⟩⟩
          · rw [if_neg qk, if_neg (by omega)]
            exact ⟨s1, s2, s3, s4⟩
      · exact iF q0 (iF q1 ⟨rfl, i1, i2, i3, go _ (iF q0 (iF q1 (no _ g1)))⟩)
  · refine vhas0 h1 _ (jT rfl ⟨rfl, i1, i2, i3, ?_⟩)
    have g := no (fun ρ3 => p_M_thrown ρ3 (fun r4 ρ5 => (r4 = 1 → jR σ ρ5) ∧ (¬ r4 = 1 → False))) g1
    exact ⟨fun _ => g, fun q1 => ⟨fun _ => g, fun q2 => ⟨fun _ => g, fun q3 => iT (h2 q1 q2 q3) g⟩⟩⟩
theorem st_1 (h : jR σ ρ) (i1 : vp_in (v4 + 1) L) (i2 : vp_in (v4 + 2) L) (i3 : vp_in (v4 + 3) L) : p_law_1 L xs v4 σ fo ρ (fun σ _ ρ => jR σ ρ) := by
  obtain ⟨n, hn, hA, hK, hS⟩ := id h
  refine ⟨i1, i2, i3, ?_⟩
  unfold p_L_sector p_R_sector
  generalize xs (v4 + 1).toNatClampNeg = v1
  generalize xs (v4 + 2).toNatClampNeg = v2
  generalize xs (v4 + 3).toNatClampNeg = v3
  have g1 : p_M_thrown (up2 ρ 0 0 1) (fun r4 ρ5 => (r4 = 1 → jR σ ρ5) ∧ (¬ r4 = 1 → False)) := eqF rfl (jR_code 1 h)
  have no : ∀ post : jS → Prop, post (up2 ρ 0 0 1) → p_M_sector_20 post v1 v2 v3 ρ := fun post hp => iF z10 hp
  refine s_has hA hn (fun j hj e => jF z10 ?_) (fun ne => jT rfl ⟨rfl, i1, i2, i3, ?_⟩)
  · have go : ∀ post : jS → Prop, ((v3 < -1 → p_M_sector_20 post v1 v2 v3 ρ) ∧ (¬ v3 < -1 → (v3 ≤ 9 → p_M_sector_25 post v1 v2 v3 ρ 0) ∧ (¬ v3 ≤ 9 → p_M_sector_20 post v1 v2 v3 ρ))) → p_M_sector ρ v1 v2 v3 post := fun post w => m_isSector hA hn (fun _ _ _ => iF z10 w) (fun ne => absurd e (ne j hj))
    by_cases q0 : v3 < -1
    · exact iT q0 ⟨rfl, i1, i2, i3, go _ (iT q0 (no _ g1))⟩
    · by_cases q1 : v3 ≤ 9
      · refine iF q0 (iT q1 (s_has hA hn (fun j' hj' e' => iF z10 ?_) (fun ne => absurd e (ne j hj))))
        subst e
        refine ⟨i64 hn hj, i64 hn hj, i1, i2, i3, go _ (iF q0 (iT q1 (iT rfl ⟨i64 hn hj, i64 hn hj, ?_⟩)))⟩
        rw [cl (by omega)]
        refine eqF rfl ?_
        obtain ⟨a1, a2, a3, a4, a5, a6, a7, a8, a9⟩ := hA
        refine ⟨n, hn, ⟨a1, a2, ?_, ?_, a5, a6, a7, a8, ?_⟩, hK, hS⟩
        · show (fun b => if b = j then v2 else σ 2 b) = (fun b => if b = j then v2 else ρ 1 b)
          rw [a3]
        · show (fun b => if b = j then v3 else σ 3 b) = (fun b => if b = j then v3 else ρ 2 b)
          rw [a4]
        · intro k
          show (if k = j then v3 else σ 3 k) = -1 ∨ le9 9 (if k = j then v3 else σ 3 k)
          by_cases qk : k = j
          · rw [if_pos qk]
            by_cases qm : v3 = -1
            · exact Or.inl qm
            · refine Or.inr ?_
              have q2 : ¬ v3 < 0 := by
                intro w
                rw [Int32.lt_iff_toInt_lt, show (0 : Int32).toInt = 0 from by decide] at w
                rw [Int32.lt_iff_toInt_lt, show (-1 : Int32).toInt = -1 from by decide] at q0
                exact qm (Int32.toInt_inj.mp (by rw [show (-1 : Int32).toInt = -1 from by decide]; omega))
              obtain ⟨w, hw, e⟩ := nI_of2 (n := 9) (by decide) q2 q1
              exact ⟨w, hw, e⟩
          · rw [if_neg qk]
            exact a9 k
      · exact iF q0 (iF q1 ⟨rfl, i1, i2, i3, go _ (iF q0 (iF q1 (no _ g1)))⟩)
  · exact m_isSector hA hn (fun j hj e => absurd e (ne j hj)) (fun _ => iT rfl (no _ g1))
end

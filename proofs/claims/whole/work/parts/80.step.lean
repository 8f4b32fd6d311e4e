/-! a step, a run -/
theorem ph_all {k n : Nat} {σ ρ : jS} (hk : k < 6) (h : jG k n σ ρ) : Ph k n σ ρ := by
  match k, hk, h with
  | 0, _, h => exact ph_0 h
  | 1, _, h => exact ph_1 h
  | 2, _, h => exact ph_2 h
  | 3, _, h => exact ph_3 h
  | 4, _, h => exact ph_4 h
  | 5, _, h => exact ph_5 h
theorem one_st {n : Nat} : ∀ d k σ ρ, k + d = 6 → jG k n σ ρ → ∃ r σ1 ρ1, (∀ post : Int32 → jS → Prop, post r σ1 → p_K_makeStep_5 post (d + 1) σ (nI k)) ∧ (∀ post : Int32 → jS → Prop, post r ρ1 → p_M_one_0 post (d + 1) ρ) ∧ ∃ k', k' ≤ 6 ∧ r = nI k' ∧ jG k' n σ1 ρ1 := by
  intro d
  induction d with
  | zero =>
    intro k σ ρ hk h
    obtain rfl : k = 6 := by omega
    obtain ⟨h0, hn, hB, hP, hc, hm⟩ := id h
    refine ⟨nI 6, σ, ρ, fun post hp => iT (by decide) hp, fun post hp => iT hm (iT hm ?_), 6, by omega, rfl, h⟩
    rw [hm]
    exact hp
  | succ d ih =>
    intro k σ ρ hk h
    obtain ⟨h0, hn, hB, hP, hc, hm⟩ := id h
    have n6 : nI k ≠ 6 := fun e => by
      rw [show (6 : Int32) = nI 6 from rfl, nI_eq (by omega) (by omega)] at e
      omega
    have m6 : ¬ ρ 0 8 = 6 := n8 hm n6
    have c6 : ¬ (6 : Int32) ≤ nI k := nI_ge (a := k) (b := 6) (by omega) (by omega)
    obtain ⟨r, σ1, g1, hc2⟩ := ph_all (by omega) h
    rcases hc2 with ⟨rfl, ρ1, g2, g3, g4⟩ | ⟨rfl, ρ1, ρ2, g2, g4, g3, g5⟩
    · obtain ⟨r, σ2, ρ2, k1, k2, k3⟩ := ih (k + 1) _ _ (by omega) (jG_en (k := k + 1) h0 hn g3)
      refine ⟨r, σ2, ρ2, fun post hp => iF c6 (g1 _ (iT rfl ?_)), fun post hp => iF m6 (g2 _ (jT rfl ?_)), k3⟩
      · rw [nI_1]
        exact c_en (nI (k + 1)) _ (k1 post hp)
      · rw [g4, nI_1]
        exact r_en (nI (k + 1)) _ (k2 post hp)
    · refine ⟨nI k, σ1, ρ2, fun post hp => iF c6 (g1 _ (iF z10 hp)), fun post hp => iF m6 (g2 _ (jF z10 (iF (n8 g4 n6) (g3 _ ?_)))), k, by omega, rfl, g5⟩
      rw [g4]
      exact hp
theorem stp {k n : Nat} {σ ρ : jS} (hk : k ≤ 6) (h : jG k n σ ρ) : ∃ r σ1 ρ1, Rn (p_K_makeStep σ) r σ1 ∧ Rn (p_M_one ρ) r ρ1 ∧ ∃ k', k' ≤ 6 ∧ r = nI k' ∧ jG k' n σ1 ρ1 := by
  obtain ⟨r, σ1, ρ1, g1, g2, g3⟩ := one_st (6 - k) k σ ρ (by omega) h
  refine ⟨r, σ1, ρ1, fun post hp => ⟨6 - k + 1, ?_⟩, fun post hp => ⟨6 - k + 1, g2 post hp⟩, g3⟩
  rw [h.2.2.2.2.1]
  exact g1 post hp
theorem run_st {n : Nat} {v : Nat} (hv : v ≤ 300) : ∀ d t k σ ρ, t + d = v → k ≤ 6 → jG k n σ ρ → ∃ r σ1 ρ1, (∀ (post : Int32 → jS → Prop) px, post r σ1 → p_R_run_43 post px (nI v) (d + 1) σ (nI t)) ∧ (∀ post : Int32 → jS → Prop, post r ρ1 → p_M_run_42 post (nI v) (d + 1) ρ (nI t)) ∧ ∃ k', k' ≤ 6 ∧ jG k' n σ1 ρ1 := by
  intro d
  induction d with
  | zero => exact fun t k σ ρ ht hk h => ⟨nI t, σ, ρ, fun post px hp => pk_le v t (fun _ => hp) (fun q => by omega), fun post hp => pk_le v t (fun _ => hp) (fun q => by omega), k, hk, h⟩
  | succ d ih =>
    intro t k σ ρ ht hk h
    obtain ⟨r, σ1, ρ1, g1, g2, k', hk', e, g3⟩ := stp hk h
    by_cases q6 : r = 6
    · exact ⟨nI t, σ1, ρ1, fun post px hp => pk_le v t (fun q => by omega) (fun _ => g1 _ (iT q6 hp)), fun post hp => pk_le v t (fun q => by omega) (fun _ => g2 _ (iT q6 hp)), k', hk', g3⟩
    · obtain ⟨r2, σ2, ρ2, f1, f2, f3⟩ := ih (t + 1) k' σ1 ρ1 (by omega) hk' g3
      refine ⟨r2, σ2, ρ2, fun post px hp => pk_le v t (fun q => by omega) (fun _ => g1 _ (iF q6 ?_)), fun post hp => pk_le v t (fun q => by omega) (fun _ => g2 _ (iF q6 ?_)), f3⟩
      · rw [nI_1]
        exact f1 post px hp
      · rw [nI_1]
        exact f2 post hp
/-- the ends of the law's cases -/
theorem fin0 {r r5 : Int32} {fo : Nat → Int64} {P : Prop} (h5 : r5 = 0) (hp : P) : (r5 = 0 → (¬ (0 : Int32) = 0 → P) ∧ ((0 : Int32) = 0 → ((lg_cmp ((vp_updL fo 0 r.toInt64) (0 : Int32).toNatClampNeg) r.toInt64) = 0 → P) ∧ (¬ (lg_cmp ((vp_updL fo 0 r.toInt64) (0 : Int32).toNatClampNeg) r.toInt64) = 0 → False))) ∧ (¬ r5 = 0 → False) :=
  ⟨fun _ => ⟨fun q => absurd rfl q, fun _ => ⟨fun _ => hp, fun q => q ((lg_cmp_eq _ _).mpr pk_uLs)⟩⟩, fun q => q h5⟩
theorem fin1 {r5 r1 : Int32} {A P : Prop} (h : r5 = r1) (h1 : ¬ r1 = 0) (hp : P) : (r5 = r1 → (¬ r1 = 0 → P) ∧ (r1 = 0 → A)) ∧ (¬ r5 = r1 → False) :=
  ⟨fun _ => ⟨fun _ => hp, fun q => absurd q h1⟩, fun q => q h⟩
theorem z20 : ¬ (2 : Int32) = 0 := by decide
section
variable {L : Nat} {xs : Nat → Int32} {v4 : Int32} {σ ρ : jS} {fo : Nat → Int64}
theorem st_3 (h : jR σ ρ) : p_law_3 L xs v4 σ fo ρ (fun σ _ ρ => jR σ ρ) := by
  obtain ⟨n, hn, hA, hK, hS⟩ := id h
  unfold p_law_3 p_L_step p_R_step
  refine s_goesOn hK (fun hk hn0 hG => jF z10 ?_) (fun h0 => jT rfl ⟨by decide, ?_⟩)
  · obtain ⟨k, hk6, e⟩ := id hk
    obtain ⟨r, σ1, ρ1, g1, g2, k', hk', er, g3⟩ := stp hk6 (jR_G (ρ := up2 ρ 0 0 0) hn hA hK hS hk6 e hn0 hG rfl)
    refine g1 _ ?_
    unfold p_M_step
    refine m_goesOn hK (fun _ _ _ => iF z10 (jT rfl (g2 _ ?_))) (fun h0 => (goes_no hk h0).elim)
    exact fin0 (fo := fo) g3.2.2.1.2.1.2 (jG_R hk' g3)
  · unfold p_M_step
    refine m_goesOn hK (fun hk _ _ => (goes_no hk h0).elim) (fun _ => iT rfl (jF z10 ?_))
    exact fin1 rfl (by decide) (jR_code 1 h)
theorem st_4 (h : jR σ ρ) (i1 : vp_in (v4 + 1) L) : p_law_4 L xs v4 σ fo ρ (fun σ _ ρ => jR σ ρ) := by
  obtain ⟨n, hn, hA, hK, hS⟩ := id h
  refine ⟨i1, ?_⟩
  unfold p_L_run p_R_run
  generalize xs (v4 + 1).toNatClampNeg = v
  by_cases q0 : v < 0
  · exact iT q0 (iT rfl ⟨i1, iT q0 (iF z10 (fin1 rfl (by decide) (jR_code 1 h)))⟩)
  · by_cases q1 : v ≤ 300
    · obtain ⟨w, hw, rfl⟩ := nI_of2 (n := 300) (by decide) q0 q1
      refine iF q0 (iT q1 ?_)
      refine s_goesOn hK (fun hk hn0 hG => jF z10 ?_) (fun h0 => jT rfl (iF (by decide) ⟨i1, ?_⟩))
      · obtain ⟨k, hk6, e⟩ := id hk
        obtain ⟨r, σ1, ρ1, g1, g2, k', hk', g3⟩ := run_st hw w 0 k σ _ (by omega) hk6 (jR_G (ρ := up2 ρ 0 0 0) hn hA hK hS hk6 e hn0 hG rfl)
        refine ⟨w + 1, g1 _ _ ⟨i1, ?_⟩⟩
        refine iF q0 (iT q1 ?_)
        refine m_goesOn hK (fun _ _ _ => jF z10 (iT rfl ⟨w + 1, g2 _ ?_⟩)) (fun h0 => (goes_no hk h0).elim)
        exact fin0 (fo := fo) g3.2.2.1.2.1.2 (jG_R hk' g3)
      · refine iF q0 (iT q1 ?_)
        refine m_goesOn hK (fun hk _ _ => (goes_no hk h0).elim) (fun _ => jT rfl (iF z20 ?_))
        exact fin1 rfl (by decide) (jR_code 2 h)
    · exact iF q0 (iF q1 (iT rfl ⟨i1, iF q0 (iF q1 (iF z10 (fin1 rfl (by decide) (jR_code 1 h))))⟩))
end

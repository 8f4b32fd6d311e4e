section
variable {L : Nat} {xs : Nat → Int32} {v4 : Int32} {σ ρ : jS} {fo : Nat → Int64}
theorem st_13 (h : jR σ ρ) : p_law_13 L xs v4 σ fo ρ (fun σ _ ρ => jR σ ρ) := by
  obtain ⟨n, hn, hA, hK, hS⟩ := id h
  exact eqF hK.1 (jR_code 0 h)
theorem st_14 (h : jR σ ρ) (i1 : vp_in (v4 + 1) L) : p_law_14 L xs v4 σ fo ρ (fun σ _ ρ => jR σ ρ) := by
  obtain ⟨n, hn, hA, hK, hS⟩ := id h
  refine ⟨i1, ?_⟩
  unfold p_R_out p_D_wordOut
  refine s_has hA hn (fun j hj e => ?_) (fun ne => ?_)
  · refine ⟨fun q => absurd q z10, fun _ => ⟨by rw [e]; exact i64 hn hj, i1, ?_⟩⟩
    unfold p_M_out
    refine m_isSector (ρ := up2 ρ 0 0 0) hA hn (fun j' hj' e' => ?_) (fun ne => absurd e (ne j hj))
    refine ⟨fun q => absurd q z10, fun _ => ⟨by rw [e]; exact i64 hn hj, eqF ?_ (jR_code 0 h)⟩⟩
    show σ 5 _ = ρ 4 _
    rw [hA.2.2.2.2.2.1]
  · refine ⟨fun _ => ⟨i1, ?_⟩, fun q => absurd rfl q⟩
    unfold p_M_out
    refine m_isSector (ρ := up2 ρ 0 0 0) hA hn (fun j' hj' e' => absurd e' (ne j' hj')) (fun _ => ?_)
    exact ⟨fun _ => eqF rfl (jR_code 0 h), fun q => absurd rfl q⟩
theorem st_15 (h : jR σ ρ) (i1 : vp_in (v4 + 1) L) : p_law_15 L xs v4 σ fo ρ (fun σ _ ρ => jR σ ρ) := by
  obtain ⟨n, hn, hA, hK, hS⟩ := id h
  refine ⟨i1, ?_⟩
  unfold p_R_reads p_D_readsOf
  refine s_has hA hn (fun j hj e => ?_) (fun ne => ?_)
  · refine ⟨fun q => absurd q z10, fun _ => ⟨by rw [e]; exact i64 hn hj, i1, ?_⟩⟩
    unfold p_M_reads
    refine m_isSector (ρ := up2 ρ 0 0 0) hA hn (fun j' hj' e' => ?_) (fun ne => absurd e (ne j hj))
    refine ⟨fun q => absurd q z10, fun _ => ⟨by rw [e]; exact i64 hn hj, eqF ?_ (jR_code 0 h)⟩⟩
    show σ 4 _ = ρ 3 _
    rw [hA.2.2.2.2.1]
  · refine ⟨fun _ => ⟨i1, ?_⟩, fun q => absurd rfl q⟩
    unfold p_M_reads
    refine m_isSector (ρ := up2 ρ 0 0 0) hA hn (fun j' hj' e' => absurd e' (ne j' hj')) (fun _ => ?_)
    exact ⟨fun _ => eqF rfl (jR_code 0 h), fun q => absurd rfl q⟩
theorem st_16 (h : jR σ ρ) (i1 : vp_in (v4 + 1) L) : p_law_16 L xs v4 σ fo ρ (fun σ _ ρ => jR σ ρ) := by
  obtain ⟨n, hn, hA, hK, hS⟩ := id h
  have e5 : σ 1 5 = ρ 0 6 := hA.2.2.2.2.2.2.1
  have e6 : σ 1 6 = ρ 0 7 := hA.2.2.2.2.2.2.2.1
  refine ⟨i1, fun q => ?_, fun q => ?_⟩
  · refine ⟨fun _ => ⟨i1, fun _ => ⟨fun _ => eqF e5 (jR_code 0 h), fun z => absurd rfl z⟩, fun z => absurd q z⟩, fun z => absurd rfl z⟩
  · refine ⟨fun z => absurd z z10, fun _ => ⟨i1, fun z => absurd z q, fun _ => ⟨fun z => absurd z z10, fun _ => eqF e6 (jR_code 0 h)⟩⟩⟩
theorem st_10 (h : jR σ ρ) (i1 : vp_in (v4 + 1) L) : p_law_10 L xs v4 σ fo ρ (fun σ _ ρ => jR σ ρ) := by
  obtain ⟨n, hn, hA, hK, hS⟩ := id h
  refine ⟨i1, ?_⟩
  unfold p_R_state
  generalize hv : xs (v4 + 1).toNatClampNeg = v
  refine s_goesOn hK (fun hk hn0 hG => ?_) (fun h0 => ?_)
  · refine ⟨fun q => absurd q z10, fun _ => ?_⟩
    unfold p_S_stateOf
    rw [hG.1]
    rcases pk_ix v (n := n) (by omega) with q | q | ⟨j, hj, e⟩
    · refine ⟨fun _ => ⟨i1, ?_⟩, fun z => absurd q z⟩
      unfold p_M_state
      refine m_goesOn (ρ := up2 ρ 0 0 0) hK (fun _ _ _ => ?_) (fun h0 => (goes_no hk h0).elim)
      refine ⟨fun q => absurd q z10, fun _ => ?_⟩
      refine m_isSector (ρ := up2 ρ 0 0 0) hA hn (fun j' hj' e' => ?_) (fun _ => ⟨fun _ => eqF rfl (jR_code 0 h), fun q => absurd rfl q⟩)
      rw [e'] at q
      exact absurd q (nI_pos (by omega))
    · refine ⟨fun _ => ⟨i1, ?_⟩, fun _ => ⟨fun _ => ⟨i1, ?_⟩, fun z => absurd q z⟩⟩ <;>
      · unfold p_M_state
        refine m_goesOn (ρ := up2 ρ 0 0 0) hK (fun _ _ _ => ?_) (fun h0 => (goes_no hk h0).elim)
        refine ⟨fun q => absurd q z10, fun _ => ?_⟩
        refine m_isSector (ρ := up2 ρ 0 0 0) hA hn (fun j' hj' e' => ?_) (fun _ => ⟨fun _ => eqF rfl (jR_code 0 h), fun q => absurd rfl q⟩)
        rw [e'] at q
        exact absurd q (nI_ge hj' (by omega))
    · refine ⟨fun z => absurd z (by rw [e]; exact nI_pos (by omega)), fun _ => ⟨fun z => absurd z (by rw [e]; exact nI_ge hj (by omega)), fun _ => ⟨by rw [e]; exact i64 hn hj, i1, ?_⟩⟩⟩
      unfold p_M_state
      refine m_goesOn (ρ := up2 ρ 0 0 0) hK (fun _ _ _ => ?_) (fun h0 => (goes_no hk h0).elim)
      refine ⟨fun q => absurd q z10, fun _ => ?_⟩
      refine m_isSector (ρ := up2 ρ 0 0 0) hA hn (fun j' hj' e' => ?_) (fun ne => absurd e (ne j hj))
      refine ⟨fun q => absurd q z10, fun _ => ⟨by rw [e]; exact i64 hn hj, eqF ?_ (jR_code 0 h)⟩⟩
      show σ 7 _ = ρ 5 _
      rw [hG.2.1]
  · refine ⟨fun _ => ⟨i1, ?_⟩, fun q => absurd rfl q⟩
    unfold p_M_state
    refine m_goesOn (ρ := up2 ρ 0 0 0) hK (fun hk _ _ => (goes_no hk h0).elim) (fun _ => ?_)
    exact ⟨fun _ => eqF rfl (jR_code 0 h), fun q => absurd rfl q⟩
end

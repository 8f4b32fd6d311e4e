theorem ph_0 {n : Nat} {σ ρ : jS} (h : jG 0 n σ ρ) : Ph 0 n σ ρ := by
  obtain ⟨h0, hn, hB, hP, hc, hm⟩ := id h
  obtain ⟨hA, hS, h9, h9b, h61, h7, h74, h7t⟩ := id hB
  obtain ⟨p1, p2, p3, p4, p5, p6, p7, p8⟩ := hP
  have hF : fF (σ 7) 0 (n - (σ 8 3).toInt.toNat) (σ 8 3).toInt.toNat = fF (ρ 5) 0 (n - (ρ 0 11).toInt.toNat) (ρ 0 11).toInt.toNat := by rw [h7, p1]
  rcases fF_sp (σ 7) 0 (n - (σ 8 3).toInt.toNat) (σ 8 3).toInt.toNat with ⟨e, -⟩ | ⟨s, s1, s2, s3, e, -⟩
  · refine ⟨0, σ, fun post hp => rI_0 (c_ff h61 hn 0 (σ 8 3) _ ?_), Or.inl ⟨rfl, _, fun post hp => iT (y8 hm rfl) (f15_no hA.2.1 hn (hF ▸ e) post hp), hB, hm⟩⟩
    rw [e]
    exact jT rfl ⟨Or.inl rfl, Or.inl rfl, hp⟩
  · have hs : s < n := by omega
    have hb := eB_sp (σ 7) 0 (min n (s + 8) - (s + 1)) (s + 1)
    have eb : eB (ρ 5) 0 (min n (s + 8) - (s + 1)) (s + 1) = eB (σ 7) 0 (min n (s + 8) - (s + 1)) (s + 1) := by rw [h7]
    have hbs := c_bs (m := 8) h61 hn hs (by omega)
    rw [s3] at hbs
    generalize eB (σ 7) 0 (min n (s + 8) - (s + 1)) (s + 1) = b at hb eb hbs
    have hrs := c_rs (b := b) 1 hA.1 h61 hn (a := s) (by omega) (by omega)
    have ej : eB (ρ 2) 0 (b - s) s = eB (σ 3) 0 (b - s) s := by rw [hA.2.2.2.1]
    generalize eB (σ 3) 0 (b - s) s = j at hrs ej
    have hR := rB_wk (a := s) (b := b) (j := j) (st := 1) hB hn (by omega) ⟨1, by decide, rfl⟩
    obtain ⟨li, hli, el⟩ := lp_le p4
    have hfi : ∀ i, ρ 2 i = -1 ∨ le9 9 (ρ 2 i) := hA.2.2.2.1 ▸ hA.2.2.2.2.2.2.2.2
    have hfind : Rn (p_M_find ρ) 1 (up2 (up2 ρ 0 15 (nI s)) 0 16 (nI b)) := by
      intro post hp
      refine iT (y8 hm rfl) (f15_yes hA.2.1 hn (hF ▸ e) hs (by rw [← h7]; exact s3) post ?_)
      rw [eb]
      exact hp
    have hns : ¬ nI s = -1 := fun q => nI_pos (n := s) (by omega) (by rw [q]; decide)
    have hcl : ∀ post : Int32 → jS → Prop, p_K_takeLeap (cRs σ s b j 1) (gd j b) (fun r8 σ7 => bz 1 ∧ bz 1 ∧ post 1 (up2 σ7 8 3 (nI b + r8))) → p_K_readIn σ (nI 0) post := by
      intro post hp
      refine rI_0 (c_ff h61 hn 0 (σ 8 3) _ ?_)
      rw [e]
      exact jF hns (hbs _ (hrs _ (iF z10 hp)))
    by_cases z : j < b
    · refine ⟨1, up2 (up2 (cRs σ s b j 1) 8 4 (nl (σ 8 4))) 8 3 (nI b + σ 8 4), fun post hp => hcl post (tl_0 (σ := cRs σ s b j 1) (gd_0 z) p4 _ ⟨Or.inr rfl, Or.inr rfl, hp⟩), Or.inr ⟨rfl, _, up2 (up2 (mWk (up2 (up2 ρ 0 15 (nI s)) 0 16 (nI b)) s b j 1) 0 11 (nI b + ρ 0 12)) 0 12 (nl (ρ 0 12)), hfind, hm, fun post hp => ?_, ⟨h0, hn, hR, ⟨?_, ?_, ?_, nl_ok p4, p5, p6, p7, p8⟩, hc, hm⟩⟩⟩
      · refine w_lo (k := 0) (a := s) (b := b) hm (by omega) rfl rfl hfi (by omega) (by omega) ?_
        show p_M_work_22 post (mWk _ s b (eB (ρ 2) 0 (b - s) s) 1) (gd (eB (ρ 2) 0 (b - s) s) b)
        rw [ej, gd_0 z]
        exact w_0 hm hp
      · show nI b + σ 8 4 = nI b + ρ 0 12
        rw [p3]
      · show -64 ≤ (nI b + σ 8 4).toInt ∧ (nI b + σ 8 4).toInt ≤ 128
        rw [el, nI_add, nI_toInt (by omega)]
        omega
      · show nl (σ 8 4) = nl (ρ 0 12)
        rw [p3]
    · refine ⟨1, up2 (up2 (cRs σ s b j 1) 8 4 8) 8 3 (nI b + 0), fun post hp => hcl post (tl_1 (σ := cRs σ s b j 1) (by rw [gd_1 z]; exact z10) _ ⟨Or.inr rfl, Or.inr rfl, hp⟩), Or.inr ⟨rfl, _, up2 (up2 (mWk (up2 (up2 ρ 0 15 (nI s)) 0 16 (nI b)) s b j 1) 0 11 (nI b + 0)) 0 12 8, hfind, hm, fun post hp => ?_, ⟨h0, hn, hR, ⟨rfl, ?_, rfl, Or.inl rfl, p5, p6, p7, p8⟩, hc, hm⟩⟩⟩
      · refine w_lo (k := 0) (a := s) (b := b) hm (by omega) rfl rfl hfi (by omega) (by omega) ?_
        show p_M_work_22 post (mWk _ s b (eB (ρ 2) 0 (b - s) s) 1) (gd (eB (ρ 2) 0 (b - s) s) b)
        rw [ej, gd_1 z]
        exact w_0 hm hp
      · show -64 ≤ (nI b + nI 0).toInt ∧ (nI b + nI 0).toInt ≤ 128
        rw [nI_add, nI_toInt (by omega)]
        omega
theorem ph_2 {n : Nat} {σ ρ : jS} (h : jG 2 n σ ρ) : Ph 2 n σ ρ := by
  obtain ⟨h0, hn, hB, hP, hc, hm⟩ := id h
  obtain ⟨hA, hS, h9, h9b, h61, h7, h74, h7t⟩ := id hB
  obtain ⟨p1, p2, p3, p4, p5, p6, p7, p8⟩ := hP
  have hF : fF (σ 7) 0 (n - (σ 8 3).toInt.toNat) (σ 8 3).toInt.toNat = fF (ρ 5) 0 (n - (ρ 0 11).toInt.toNat) (ρ 0 11).toInt.toNat := by rw [h7, p1]
  have n0 : ¬ ρ 0 8 = 0 := n8 hm (by decide)
  rcases fF_sp (σ 7) 0 (n - (σ 8 3).toInt.toNat) (σ 8 3).toInt.toNat with ⟨e, -⟩ | ⟨s, s1, s2, s3, e, -⟩
  · refine ⟨0, σ, fun post hp => rI_2 (c_ff h61 hn 0 (σ 8 3) _ ?_), Or.inl ⟨rfl, _, fun post hp => iF n0 (jT (y8 hm rfl) (f15_no hA.2.1 hn (hF ▸ e) post hp)), hB, hm⟩⟩
    rw [e]
    exact jT rfl ⟨Or.inl rfl, Or.inl rfl, hp⟩
  · have hs : s < n := by omega
    have hb := eB_sp (σ 7) 0 (min n (s + 8) - (s + 1)) (s + 1)
    have eb : eB (ρ 5) 0 (min n (s + 8) - (s + 1)) (s + 1) = eB (σ 7) 0 (min n (s + 8) - (s + 1)) (s + 1) := by rw [h7]
    have hbs := c_bs (m := 8) h61 hn hs (by omega)
    rw [s3] at hbs
    generalize eB (σ 7) 0 (min n (s + 8) - (s + 1)) (s + 1) = b at hb eb hbs
    have hrs := c_rs (b := b) 1 hA.1 h61 hn (a := s) (by omega) (by omega)
    have ej : eB (ρ 2) 0 (b - s) s = eB (σ 3) 0 (b - s) s := by rw [hA.2.2.2.1]
    generalize eB (σ 3) 0 (b - s) s = j at hrs ej
    have hR := rB_wk (a := s) (b := b) (j := j) (st := 1) hB hn (by omega) ⟨1, by decide, rfl⟩
    have hfi : ∀ i, ρ 2 i = -1 ∨ le9 9 (ρ 2 i) := hA.2.2.2.1 ▸ hA.2.2.2.2.2.2.2.2
    have hfind : Rn (p_M_find ρ) 1 (up2 (up2 ρ 0 15 (nI s)) 0 16 (nI b)) := by
      intro post hp
      refine iF n0 (jT (y8 hm rfl) (f15_yes hA.2.1 hn (hF ▸ e) hs (by rw [← h7]; exact s3) post ?_))
      rw [eb]
      exact hp
    have hns : ¬ nI s = -1 := fun q => nI_pos (n := s) (by omega) (by rw [q]; decide)
    refine ⟨1, up2 (cRs σ s b j 1) 8 3 (nI b + 0), fun post hp => rI_2 (c_ff h61 hn 0 (σ 8 3) _ ?_), Or.inr ⟨rfl, _, up2 (mWk (up2 (up2 ρ 0 15 (nI s)) 0 16 (nI b)) s b j 1) 0 11 (nI b + 0), hfind, hm, fun post hp => ?_, ⟨h0, hn, hR, ⟨rfl, ?_, p3, p4, p5, p6, p7, p8⟩, hc, hm⟩⟩⟩
    · rw [e]
      exact jF hns (hbs _ (hrs _ (iT rfl ⟨Or.inr rfl, Or.inr rfl, hp⟩)))
    · refine w_lo (k := 2) (a := s) (b := b) hm (by omega) rfl rfl hfi (by omega) (by omega) ?_
      show p_M_work_22 post (mWk _ s b (eB (ρ 2) 0 (b - s) s) 1) (gd (eB (ρ 2) 0 (b - s) s) b)
      rw [ej]
      exact w_2 hm hp
    · show -64 ≤ (nI b + nI 0).toInt ∧ (nI b + nI 0).toInt ≤ 128
      rw [nI_add, nI_toInt (by omega)]
      omega
theorem ph_1 {n : Nat} {σ ρ : jS} (h : jG 1 n σ ρ) : Ph 1 n σ ρ := by
  obtain ⟨h0, hn, hB, hP, hc, hm⟩ := id h
  obtain ⟨hA, hS, h9, h9b, h61, h7, h74, h7t⟩ := id hB
  obtain ⟨p1, p2, p3, p4, p5, p6, p7, p8⟩ := hP
  have hF : lB (σ 7) 0 (bd n (σ 8 3)) = lB (ρ 5) 0 (bd n (ρ 0 11)) := by rw [h7, p1]
  have hpr : -64 ≤ (ρ 0 11).toInt := p1 ▸ p2.1
  have n0 : ¬ ρ 0 8 = 0 := n8 hm (by decide)
  have n2 : ¬ ρ 0 8 = 2 := n8 hm (by decide)
  rcases lB_sp (σ 7) 0 (bd n (σ 8 3)) with ⟨e, -⟩ | ⟨l, l1, l2, e⟩
  · refine ⟨0, σ, fun post hp => rI_1 (c_lb h61 hn 0 (σ 8 3) p2.1 _ ?_), Or.inl ⟨rfl, up2 (up2 ρ 0 15 (-1)) 0 16 (-1 + 1), fun post hp => iF n0 (jF n2 (jT (y8 hm rfl) (r_lb hA.2.1 hn 0 (ρ 0 11) hpr _ ⟨1, ?_⟩))), hB, hm⟩⟩
    · rw [e]
      exact jT rfl ⟨Or.inl rfl, Or.inl rfl, hp⟩
    · rw [← hF, e]
      exact iT (by decide) (iT (by decide) ⟨Or.inl rfl, hp⟩)
  · have hl : l < n := by unfold bd at l1; omega
    have ha := fS_sp (σ 7) 0 7 l
    have ea : fS (ρ 5) 0 7 l = fS (σ 7) 0 7 l := by rw [h7]
    have hfs := c_fs h61 hn hl
    rw [l2] at hfs
    generalize fS (σ 7) 0 7 l = a at ha ea hfs
    have hrs := c_rs (b := l + 1) 1 hA.1 h61 hn (a := a) (by omega) (by omega)
    have ej : eB (ρ 2) 0 (l + 1 - a) a = eB (σ 3) 0 (l + 1 - a) a := by rw [hA.2.2.2.1]
    generalize eB (σ 3) 0 (l + 1 - a) a = j at hrs ej
    have hR := rB_wk (a := a) (b := l + 1) (j := j) (st := 1) hB hn (by omega) ⟨1, by decide, rfl⟩
    obtain ⟨li, hli, el⟩ := lp_le p4
    have hfi : ∀ i, ρ 2 i = -1 ∨ le9 9 (ρ 2 i) := hA.2.2.2.1 ▸ hA.2.2.2.2.2.2.2.2
    have hfind : Rn (p_M_find ρ) 1 (up2 (up2 (up2 ρ 0 15 (nI l)) 0 16 (nI (l + 1))) 0 15 (nI a)) := by
      intro post hp
      refine iF n0 (jF n2 (jT (y8 hm rfl) (r_lb hA.2.1 hn 0 (ρ 0 11) hpr _ ⟨8, ?_⟩)))
      rw [← hF, e, nI_1]
      refine m_f126 (by omega) 7 l _ rfl (by omega) (by omega) ?_
      show post 1 (up2 (up2 (up2 ρ 0 15 (nI l)) 0 16 (nI (l + 1))) 0 15 (nI (fS (ρ 5) 0 7 l)))
      rw [ea]
      exact hp
    have hns : ¬ nI l = -1 := fun q => nI_pos (n := l) (by omega) (by rw [q]; decide)
    have hcl : ∀ post : Int32 → jS → Prop, p_K_takeLeap (cRs σ a (l + 1) j 1) (gd j (l + 1)) (fun r8 σ7 => bz 1 ∧ bz 1 ∧ post 1 (up2 σ7 8 3 (nI a - r8))) → p_K_readIn σ (nI 1) post := by
      intro post hp
      refine rI_1 (c_lb h61 hn 0 (σ 8 3) p2.1 _ ?_)
      rw [e]
      refine jF hns (hfs _ ?_)
      rw [nI_1]
      exact hrs _ hp
    by_cases z : j < l + 1
    · refine ⟨1, up2 (up2 (cRs σ a (l + 1) j 1) 8 4 (nl (σ 8 4))) 8 3 (nI a - σ 8 4), fun post hp => hcl post (tl_0 (σ := cRs σ a (l + 1) j 1) (gd_0 z) p4 _ ⟨Or.inr rfl, Or.inr rfl, hp⟩), Or.inr ⟨rfl, _, up2 (up2 (mWk (up2 (up2 (up2 ρ 0 15 (nI l)) 0 16 (nI (l + 1))) 0 15 (nI a)) a (l + 1) j 1) 0 11 (nI a - ρ 0 12)) 0 12 (nl (ρ 0 12)), hfind, hm, fun post hp => ?_, ⟨h0, hn, hR, ⟨?_, ?_, ?_, nl_ok p4, p5, p6, p7, p8⟩, hc, hm⟩⟩⟩
      · refine w_lo (k := 1) (a := a) (b := l + 1) hm (by omega) rfl rfl hfi (by omega) (by omega) ?_
        show p_M_work_22 post (mWk _ a (l + 1) (eB (ρ 2) 0 (l + 1 - a) a) 1) (gd (eB (ρ 2) 0 (l + 1 - a) a) (l + 1))
        rw [ej, gd_0 z]
        exact w_1 hm hp
      · show nI a - σ 8 4 = nI a - ρ 0 12
        rw [p3]
      · show -64 ≤ (nI a - σ 8 4).toInt ∧ (nI a - σ 8 4).toInt ≤ 128
        rw [el, pk_sub_toInt (by omega) (by omega)]
        omega
      · show nl (σ 8 4) = nl (ρ 0 12)
        rw [p3]
    · refine ⟨1, up2 (up2 (cRs σ a (l + 1) j 1) 8 4 8) 8 3 (nI a - 0), fun post hp => hcl post (tl_1 (σ := cRs σ a (l + 1) j 1) (by rw [gd_1 z]; exact z10) _ ⟨Or.inr rfl, Or.inr rfl, hp⟩), Or.inr ⟨rfl, _, up2 (up2 (mWk (up2 (up2 (up2 ρ 0 15 (nI l)) 0 16 (nI (l + 1))) 0 15 (nI a)) a (l + 1) j 1) 0 11 (nI a - 0)) 0 12 8, hfind, hm, fun post hp => ?_, ⟨h0, hn, hR, ⟨rfl, ?_, rfl, Or.inl rfl, p5, p6, p7, p8⟩, hc, hm⟩⟩⟩
      · refine w_lo (k := 1) (a := a) (b := l + 1) hm (by omega) rfl rfl hfi (by omega) (by omega) ?_
        show p_M_work_22 post (mWk _ a (l + 1) (eB (ρ 2) 0 (l + 1 - a) a) 1) (gd (eB (ρ 2) 0 (l + 1 - a) a) (l + 1))
        rw [ej, gd_1 z]
        exact w_1 hm hp
      · show -64 ≤ (nI a - nI 0).toInt ∧ (nI a - nI 0).toInt ≤ 128
        rw [pk_sub_toInt (by omega) (by omega)]
        omega

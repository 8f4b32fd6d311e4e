theorem rB_mk {n a b : Nat} {σ ρ : jS} {v : Int32} (h : rB n σ ρ) (hn : n ≤ 64) (hb : b ≤ n) (hv : le9 4 v) : rB n (stA σ 7 (mk (σ 7) a b v)) (stA ρ 5 (mk (ρ 5) a b v)) := by
  obtain ⟨hA, hS, h9, h9b, h61, h7, h74, h7t⟩ := h
  refine ⟨hA, hS, h9, h9b, h61, ?_, mk_ok h74 hv a b, fun k hk => ⟨?_, ?_⟩⟩
  · show mk (σ 7) a b v = mk (ρ 5) a b v
    rw [h7]
  · show mk (σ 7) a b v k = 0
    rw [mk_out (by omega)]
    exact (h7t k hk).1
  · show mk (ρ 5) a b v k = 0
    rw [mk_out (by omega)]
    exact (h7t k hk).2
/-- the reference, a failed sector marked bad -/
theorem mWk_b {X : jS} {s j : Nat} (z : j < s + 1) : up2 (mRd X s (s + 1) j) 5 s 3 = mWk X s (s + 1) j 3 := by
  rw [mWk_0 z]
  funext c
  by_cases h5 : c = 5
  · subst h5
    funext k
    show (if k = s then 3 else (mRd X s (s + 1) j) 5 k) = mk ((mRd X s (s + 1) j) 5) s (s + 1) 3 k
    by_cases q : k = s
    · rw [if_pos q, mk_in (by omega) (by omega)]
    · rw [if_neg q, mk_out (by omega)]
  · simp [up2, stA, h5]
theorem w_148 {post : jS → Prop} {X : jS} {r : Int32} (h8 : X 0 8 = nI 3) (hp : post X) : p_M_work_148 post X r := jF (n8 h8 (by decide)) (jF (n8 h8 (by decide)) hp)
theorem ph_3 {n : Nat} {σ ρ : jS} (h : jG 3 n σ ρ) : Ph 3 n σ ρ := by
  obtain ⟨h0, hn, hB, hP, hc, hm⟩ := id h
  obtain ⟨hA, hS, h9, h9b, h61, h7, h74, h7t⟩ := id hB
  obtain ⟨p1, p2, p3, p4, p5, p6, p7, p8⟩ := id hP
  have hff := c_ff h61 hn 1 0
  have hfm := r_ff hA.2.1 hn 1 0
  rw [← h7] at hfm
  rw [toNat0] at hff hfm
  have n0 : ¬ ρ 0 8 = 0 := n8 hm (by decide)
  have n2 : ¬ ρ 0 8 = 2 := n8 hm (by decide)
  have n1 : ¬ ρ 0 8 = 1 := n8 hm (by decide)
  have e3 : ρ 0 8 = 3 := y8 hm rfl
  have hfi : ∀ i, ρ 2 i = -1 ∨ le9 9 (ρ 2 i) := hA.2.2.2.1 ▸ hA.2.2.2.2.2.2.2.2
  have hfind : ∀ post, p_M_firstIn ρ 1 0 (fun r8 σ7 => ∃ n9, p_M_find_200 post n9 σ7 r8) → p_M_find ρ post := fun post hp => iF n0 (jF n2 (jF n1 (jT e3 hp)))
  rcases fF_sp (σ 7) 1 (n - 0) 0 with ⟨e, -⟩ | ⟨a, s1, s2, s3, e, amin⟩
  · rw [e] at hff hfm
    refine ⟨0, σ, fun post hp => rI_3 (hff _ (jT rfl ⟨Or.inl rfl, Or.inl rfl, hp⟩)), Or.inl ⟨rfl, up2 (up2 ρ 0 15 (-1)) 0 16 (-1 + 1), fun post hp => hfind post (hfm _ ⟨1, ?_⟩), hB, hm⟩⟩
    have hq : p_M_find_262 post ρ (-1) := iT (by decide) ⟨Or.inl rfl, hp⟩
    exact ⟨fun _ => hq, fun _ => iT (by decide) hq⟩
  · rw [e] at hff hfm
    have ha : a < n := by omega
    have hb := eB_sp (σ 7) 1 (n - (a + 1)) (a + 1)
    have eb : eB (ρ 5) 1 (n - (a + 1)) (a + 1) = eB (σ 7) 1 (n - (a + 1)) (a + 1) := by rw [h7]
    have hbs := c_bs (m := 64) h61 hn ha (by omega)
    rw [s3, show min n (a + 64) - (a + 1) = n - (a + 1) from by omega] at hbs
    generalize eB (σ 7) 1 (n - (a + 1)) (a + 1) = b at hb eb hbs
    obtain ⟨l, rfl⟩ : ∃ l, b = l + 1 := ⟨b - 1, by omega⟩
    obtain ⟨b1, b2, b3, b4⟩ := hb
    have hones : ∀ i, a ≤ i → i < l + 1 → σ 7 i = 1 := by
      intro i q1 q2
      by_cases q : i = a
      · rw [q]; exact s3
      · exact b3 i (by omega) q2
    -- the class, up to the reading
    have hcl : ∀ (s : Nat) (post : Int32 → jS → Prop), ((σ 8 7 = 0 ∧ s = a) ∨ (¬ σ 8 7 = 0 ∧ s = l)) → p_K_trim_42 (fun r σ => bz r ∧ post r σ) σ (nI a) (nI l) (nI s) → p_K_readIn σ (nI 3) post := by
      intro s post hs hp
      refine rI_3 (hff _ (jF (ns1 (by omega)) (hbs _ ?_)))
      rw [nI_pred]
      rcases hs with ⟨q, rfl⟩ | ⟨q, rfl⟩
      · exact iT q hp
      · exact iF q hp
    -- the reference's search
    have hfd : ∀ (s : Nat), ((σ 8 7 = 0 ∧ s = a) ∨ (¬ σ 8 7 = 0 ∧ s = l)) → Rn (p_M_find ρ) 1 (up2 (up2 ρ 0 15 (nI s)) 0 16 (nI s + 1)) := by
      intro s hs post hp
      refine hfind post (hfm _ ?_)
      have g : p_M_find_262 post ρ (nI s) := iF (nI_pos (by omega)) ⟨Or.inr rfl, hp⟩
      rcases hs with ⟨q, rfl⟩ | ⟨q, rfl⟩
      · exact ⟨1, iT (p7 ▸ q) g⟩
      · refine ⟨n - (a + 1) + 1, m_f200 hn hA.2.1 (p7 ▸ q) _ a ha rfl ?_⟩
        rw [eb]
        exact g
    by_cases hT : σ 8 7 = 0
    · -- the first of the stretch
      have hrs := c_rs (b := a + 1) 3 hA.1 h61 hn (a := a) (by omega) (by omega)
      have ej : eB (ρ 2) 0 (a + 1 - a) a = eB (σ 3) 0 (a + 1 - a) a := by rw [hA.2.2.2.1]
      generalize eB (σ 3) 0 (a + 1 - a) a = j at hrs ej
      have hR := rB_wk (a := a) (b := a + 1) (j := j) (st := 3) hB hn (by omega) ⟨3, by decide, rfl⟩
      have mT : ρ 0 14 = 0 := p7 ▸ hT
      have hwk : ∀ post, p_M_trimmed (mRd (up2 (up2 ρ 0 15 (nI a)) 0 16 (nI a + 1)) a (a + 1) j) (gd j (a + 1)) (fun σ4 => p_M_work_148 post σ4 (gd j (a + 1))) → p_M_work (up2 (up2 ρ 0 15 (nI a)) 0 16 (nI a + 1)) post := by
        intro post hp
        refine w_mid (k := 3) (a := a) (b := a + 1) hm (by omega) (by omega) rfl (nI_1 a) hfi (by omega) (by omega) ?_
        show p_M_work_135 post (mRd _ a (a + 1) (eB (ρ 2) 0 (a + 1 - a) a)) (gd (eB (ρ 2) 0 (a + 1 - a) a) (a + 1))
        rw [ej]
        exact jT e3 hp
      by_cases z : j < a + 1
      · rw [gd_0 z] at hrs hwk
        refine ⟨1, up2 (cRs σ a (a + 1) j 3) 8 7 (if a = l then 0 else 1), fun post hp => hcl a post (Or.inl ⟨hT, rfl⟩) ?_, Or.inr ⟨rfl, _, up2 (mWk (up2 (up2 ρ 0 15 (nI a)) 0 16 (nI a + 1)) a (a + 1) j 3) 0 14 (if a = l then 0 else 1), hfd a (Or.inl ⟨hT, rfl⟩), hm, fun post hp => hwk post ?_, ⟨h0, hn, hR, ⟨p1, p2, p3, p4, p5, p6, rfl, ?_⟩, hc, hm⟩⟩⟩
        · unfold p_K_trim_42
          rw [nI_1]
          refine hrs _ (jT rfl (iT hT ?_))
          by_cases q : a = l
          · rw [if_pos q] at hp
            exact jT (congrArg nI q) ⟨Or.inl rfl, Or.inr rfl, Or.inr rfl, hp⟩
          · rw [if_neg q] at hp
            refine jF (fun w => q ((nI_eq (by omega) (by omega)).mp w)) (jT rfl (jT hT ⟨Or.inr rfl, Or.inr rfl, Or.inr rfl, hp⟩))
        · refine jT rfl ⟨pk_in a 64 (by omega), ?_⟩
          show p_M_trimmed_14 _ 0 (up2 (mRd _ a (a + 1) j) 5 (nI a).toNatClampNeg 3)
          rw [cl (by omega), mWk_b z]
          have g : ∀ y, y = (if a = l then (0 : Int32) else 1) → p_M_work_148 post (up2 (mWk (up2 (up2 ρ 0 15 (nI a)) 0 16 (nI a + 1)) a (a + 1) j 3) 0 14 y) 0 := by
            intro y hy
            rw [hy]
            exact w_148 hm hp
          refine jT mT (jT rfl (pk_le n (a + 1) (fun q => ⟨Or.inl rfl, g 0 ?_⟩) (fun q => ?_) hA.2.1 (nI_1 a)))
          · rw [if_pos (by omega)]
          · show vp_in (nI a + 1) 64 ∧ (¬ mk (ρ 5) a (a + 1) (if j < a + 1 then 3 else 4) (nI a + 1).toNatClampNeg = 1 → _) ∧ (mk (ρ 5) a (a + 1) (if j < a + 1 then 3 else 4) (nI a + 1).toNatClampNeg = 1 → _)
            rw [nI_1, cl (by omega), mk_out (by omega), ← h7]
            refine ⟨pk_in (a + 1) 64 (by omega), fun w => ⟨Or.inl rfl, ?_⟩, fun w => ⟨Or.inr rfl, ?_⟩⟩
            · have := g 0 (by
                by_cases q2 : a = l
                · rw [if_pos q2]
                · exact absurd (hones (a + 1) (by omega) (by omega)) w)
              rw [nI_1] at this
              exact this
            · have := g 1 (by
                by_cases q2 : a = l
                · exact absurd w (by subst q2; exact b4 (by omega))
                · rw [if_neg q2])
              rw [nI_1] at this
              exact this
        · show bz (if a = l then 0 else 1)
          by_cases q2 : a = l
          · rw [if_pos q2]; exact Or.inl rfl
          · rw [if_neg q2]; exact Or.inr rfl
      · rw [gd_1 z] at hrs hwk
        refine ⟨1, up2 (cRs σ a (a + 1) j 3) 8 7 0, fun post hp => hcl a post (Or.inl ⟨hT, rfl⟩) ?_, Or.inr ⟨rfl, _, up2 (mWk (up2 (up2 ρ 0 15 (nI a)) 0 16 (nI a + 1)) a (a + 1) j 3) 0 14 0, hfd a (Or.inl ⟨hT, rfl⟩), hm, fun post hp => hwk post ?_, ⟨h0, hn, hR, ⟨p1, p2, p3, p4, p5, p6, rfl, Or.inl rfl⟩, hc, hm⟩⟩⟩
        · unfold p_K_trim_42
          rw [nI_1]
          refine hrs _ (jF z10 ?_)
          by_cases q : a = l
          · exact jT (congrArg nI q) ⟨Or.inl rfl, Or.inr rfl, Or.inr rfl, hp⟩
          · rw [up2_id (show (cRs σ a (a + 1) j 3) 8 7 = 0 from hT)] at hp
            exact jF (fun w => q ((nI_eq (by omega) (by omega)).mp w)) (jF z10 ⟨Or.inr rfl, Or.inr rfl, hp⟩)
        · rw [mWk_1 z] at hp
          exact jF z10 (jT mT (jF z10 ⟨Or.inl rfl, w_148 hm hp⟩))
    · -- the last of the stretch
      have hrs := c_rs (b := l + 1) 3 hA.1 h61 hn (a := l) (by omega) (by omega)
      have ej : eB (ρ 2) 0 (l + 1 - l) l = eB (σ 3) 0 (l + 1 - l) l := by rw [hA.2.2.2.1]
      generalize eB (σ 3) 0 (l + 1 - l) l = j at hrs ej
      have hR := rB_wk (a := l) (b := l + 1) (j := j) (st := 3) hB hn (by omega) ⟨3, by decide, rfl⟩
      have mT : ¬ ρ 0 14 = 0 := p7 ▸ hT
      have hT1 : σ 8 7 = 1 := p8.resolve_left hT
      have hwk : ∀ post, p_M_trimmed (mRd (up2 (up2 ρ 0 15 (nI l)) 0 16 (nI l + 1)) l (l + 1) j) (gd j (l + 1)) (fun σ4 => p_M_work_148 post σ4 (gd j (l + 1))) → p_M_work (up2 (up2 ρ 0 15 (nI l)) 0 16 (nI l + 1)) post := by
        intro post hp
        refine w_mid (k := 3) (a := l) (b := l + 1) hm (by omega) (by omega) rfl (nI_1 l) hfi (by omega) (by omega) ?_
        show p_M_work_135 post (mRd _ l (l + 1) (eB (ρ 2) 0 (l + 1 - l) l)) (gd (eB (ρ 2) 0 (l + 1 - l) l) (l + 1))
        rw [ej]
        exact jT e3 hp
      by_cases z : j < l + 1
      · rw [gd_0 z] at hrs hwk
        have hR2 := rB_mk (a := a) (b := l) (v := 2) hR hn (by omega) ⟨2, by decide, rfl⟩
        refine ⟨1, up2 (stA (cRs σ l (l + 1) j 3) 7 (mk ((cRs σ l (l + 1) j 3) 7) a l 2)) 8 7 0, fun post hp => hcl l post (Or.inr ⟨hT, rfl⟩) ?_, Or.inr ⟨rfl, _, up2 (stA (mWk (up2 (up2 ρ 0 15 (nI l)) 0 16 (nI l + 1)) l (l + 1) j 3) 5 (mk ((mWk (up2 (up2 ρ 0 15 (nI l)) 0 16 (nI l + 1)) l (l + 1) j 3) 5) a l 2)) 0 14 0, hfd l (Or.inr ⟨hT, rfl⟩), hm, fun post hp => hwk post ?_, ⟨h0, hn, hR2, ⟨p1, p2, p3, p4, p5, p6, rfl, Or.inl rfl⟩, hc, hm⟩⟩⟩
        · unfold p_K_trim_42
          rw [nI_1]
          refine hrs _ (jT rfl (iF hT ?_))
          refine c_mk (σ := cRs σ l (l + 1) j 3) 2 h61 hn (by omega) (by omega) _ ?_
          by_cases q : a = l
          · exact jT (congrArg nI q) ⟨Or.inl rfl, Or.inr rfl, Or.inr rfl, hp⟩
          · exact jF (fun w => q ((nI_eq (by omega) (by omega)).mp w)) (jT rfl (jF hT ⟨Or.inl rfl, Or.inr rfl, Or.inr rfl, hp⟩))
        · refine jT rfl ⟨pk_in l 64 (by omega), ?_⟩
          show p_M_trimmed_14 _ 0 (up2 (mRd _ l (l + 1) j) 5 (nI l).toNatClampNeg 3)
          rw [cl (by omega), mWk_b z]
          have g : ∀ y, p_M_trimmed_90 (fun σ4 => p_M_work_148 post σ4 0) 0 (mWk (up2 (up2 ρ 0 15 (nI l)) 0 16 (nI l + 1)) l (l + 1) j 3) y := by
            intro y
            refine ⟨l - a + 1, ?_⟩
            show p_M_trimmed_98 _ 0 (l - a + 1) _ y (nI l - 1)
            have el : a + (l - a) = l := by omega
            have t := m_t98 (post := fun σ4 => p_M_work_148 post σ4 0) (v2 := y) (a := a) (l - a) (mWk (up2 (up2 ρ 0 15 (nI l)) 0 16 (nI l + 1)) l (l + 1) j 3) (by omega)
            rw [el] at t
            refine t (fun i q1 q2 => ?_) (fun q1 => ?_) (w_148 hm hp)
            · show mk (ρ 5) l (l + 1) (if j < l + 1 then 3 else 4) i = 1
              rw [mk_out (by omega), ← h7]
              exact hones i q1 (by omega)
            · show mk (ρ 5) l (l + 1) (if j < l + 1 then 3 else 4) (a - 1) ≠ 1
              rw [mk_out (by omega), ← h7]
              exact amin (a - 1) (by omega) (by omega)
          refine jF mT (pk_le l 0 (fun _ => g 0) (fun q => ⟨?_, fun _ => g 0, fun _ => g 1⟩))
          show vp_in (nI l - 1) 64
          obtain ⟨l', rfl⟩ : ∃ l', l = l' + 1 := ⟨l - 1, by omega⟩
          rw [nI_pred]
          exact pk_in l' 64 (by omega)
      · rw [gd_1 z] at hrs hwk
        refine ⟨1, up2 (cRs σ l (l + 1) j 3) 8 7 (if a = l then 0 else 1), fun post hp => hcl l post (Or.inr ⟨hT, rfl⟩) ?_, Or.inr ⟨rfl, _, up2 (mWk (up2 (up2 ρ 0 15 (nI l)) 0 16 (nI l + 1)) l (l + 1) j 3) 0 14 (if a = l then 0 else 1), hfd l (Or.inr ⟨hT, rfl⟩), hm, fun post hp => hwk post ?_, ⟨h0, hn, hR, ⟨p1, p2, p3, p4, p5, p6, rfl, ?_⟩, hc, hm⟩⟩⟩
        · unfold p_K_trim_42
          rw [nI_1]
          refine hrs _ (jF z10 ?_)
          by_cases q : a = l
          · rw [if_pos q] at hp
            exact jT (congrArg nI q) ⟨Or.inl rfl, Or.inr rfl, Or.inr rfl, hp⟩
          · rw [if_neg q, up2_id (show (cRs σ l (l + 1) j 3) 8 7 = 1 from hT1)] at hp
            exact jF (fun w => q ((nI_eq (by omega) (by omega)).mp w)) (jF z10 ⟨Or.inr rfl, Or.inr rfl, hp⟩)
        · rw [mWk_1 z] at hp
          have g : ∀ y, (y = 0 ∧ a = l ∨ y = 1 ∧ ¬ a = l) → p_M_trimmed_90 (fun σ4 => p_M_work_148 post σ4 1) 1 (mRd (up2 (up2 ρ 0 15 (nI l)) 0 16 (nI l + 1)) l (l + 1) j) y := by
            intro y hy
            refine ⟨1, jF z10 (iF z10 ?_)⟩
            rcases hy with ⟨rfl, q⟩ | ⟨rfl, q⟩
            · rw [if_pos q] at hp
              exact iT rfl ⟨Or.inl rfl, w_148 hm hp⟩
            · rw [if_neg q] at hp
              exact iF z10 ⟨Or.inr rfl, w_148 hm hp⟩
          refine jF z10 (jF mT (pk_le l 0 (fun q => g 0 (Or.inl ⟨rfl, by omega⟩)) (fun q => ?_)))
          show vp_in (nI l - 1) 64 ∧ (¬ (mRd (up2 (up2 ρ 0 15 (nI l)) 0 16 (nI l + 1)) l (l + 1) j) 5 (nI l - 1).toNatClampNeg = 1 → _) ∧ ((mRd (up2 (up2 ρ 0 15 (nI l)) 0 16 (nI l + 1)) l (l + 1) j) 5 (nI l - 1).toNatClampNeg = 1 → _)
          have e5 : (mRd (up2 (up2 ρ 0 15 (nI l)) 0 16 (nI l + 1)) l (l + 1) j) 5 = mk (ρ 5) l (l + 1) 4 := if_neg z
          have el : nI l - 1 = nI (l - 1) := by
            obtain ⟨l', rfl⟩ : ∃ l', l = l' + 1 := ⟨l - 1, by omega⟩
            exact nI_pred l'
          rw [e5, el, cl (by omega), mk_out (by omega), ← h7]
          refine ⟨pk_in (l - 1) 64 (by omega), fun w => g 0 (Or.inl ⟨rfl, ?_⟩), fun w => g 1 (Or.inr ⟨rfl, ?_⟩)⟩
          · by_cases q2 : a = l
            · exact q2
            · exact absurd (hones (l - 1) (by omega) (by omega)) w
          · intro q2
            subst q2
            exact absurd w (amin (a - 1) (by omega) (by omega))
        · show bz (if a = l then 0 else 1)
          by_cases q2 : a = l
          · rw [if_pos q2]; exact Or.inl rfl
          · rw [if_neg q2]; exact Or.inr rfl

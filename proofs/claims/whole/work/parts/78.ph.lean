theorem toNat0 : (0 : Int32).toInt.toNat = 0 := by decide
theorem ns1 {s : Nat} (h : s < 2 ^ 31) : ¬ nI s = -1 := fun q => nI_pos (n := s) h (by rw [q]; decide)
theorem ph_4 {n : Nat} {σ ρ : jS} (h : jG 4 n σ ρ) : Ph 4 n σ ρ := by
  obtain ⟨h0, hn, hB, hP, hc, hm⟩ := id h
  obtain ⟨hA, hS, h9, h9b, h61, h7, h74, h7t⟩ := id hB
  have hff := c_ff h61 hn 2 0
  have hfm := r_ff hA.2.1 hn 2 0
  rw [← h7] at hfm
  rw [toNat0] at hff hfm
  have n0 : ¬ ρ 0 8 = 0 := n8 hm (by decide)
  have n2 : ¬ ρ 0 8 = 2 := n8 hm (by decide)
  have n1 : ¬ ρ 0 8 = 1 := n8 hm (by decide)
  have n3 : ¬ ρ 0 8 = 3 := n8 hm (by decide)
  have e4 : ρ 0 8 = 4 := y8 hm rfl
  rcases fF_sp (σ 7) 2 (n - 0) 0 with ⟨e, -⟩ | ⟨s, s1, s2, s3, e, -⟩
  · rw [e] at hff hfm
    exact ⟨0, σ, fun post hp => rI_4 (hff _ (jT rfl ⟨Or.inl rfl, Or.inl rfl, hp⟩)), Or.inl ⟨rfl, up2 (up2 ρ 0 15 (-1)) 0 16 (-1 + 1), fun post hp => iF n0 (jF n2 (jF n1 (jF n3 (jT e4 (hfm _ (iT (by decide) ⟨Or.inl rfl, hp⟩)))))), hB, hm⟩⟩
  · rw [e] at hff hfm
    have hs : s < n := by omega
    have hrs := c_rs (b := s + 1) 3 hA.1 h61 hn (a := s) (by omega) (by omega)
    have ej : eB (ρ 2) 0 (s + 1 - s) s = eB (σ 3) 0 (s + 1 - s) s := by rw [hA.2.2.2.1]
    generalize eB (σ 3) 0 (s + 1 - s) s = j at hrs ej
    have hR := rB_wk (a := s) (b := s + 1) (j := j) (st := 3) hB hn (by omega) ⟨3, by decide, rfl⟩
    have hfi : ∀ i, ρ 2 i = -1 ∨ le9 9 (ρ 2 i) := hA.2.2.2.1 ▸ hA.2.2.2.2.2.2.2.2
    refine ⟨1, cRs σ s (s + 1) j 3, fun post hp => rI_4 (hff _ (jF (ns1 (by omega)) ?_)), Or.inr ⟨rfl, up2 (up2 ρ 0 15 (nI s)) 0 16 (nI s + 1), mWk (up2 (up2 ρ 0 15 (nI s)) 0 16 (nI s + 1)) s (s + 1) j 3, fun post hp => iF n0 (jF n2 (jF n1 (jF n3 (jT e4 (hfm _ (iF (nI_pos (by omega)) ⟨Or.inr rfl, hp⟩)))))), hm, fun post hp => ?_, ⟨h0, hn, hR, hP, hc, hm⟩⟩⟩
    · rw [nI_1]
      exact hrs _ ⟨Or.inr rfl, Or.inr rfl, hp⟩
    · refine w_mid (k := 4) (a := s) (b := s + 1) hm (by omega) (by omega) rfl (nI_1 s) hfi (by omega) (by omega) ?_
      show p_M_work_135 post (mRd _ s (s + 1) (eB (ρ 2) 0 (s + 1 - s) s)) (gd (eB (ρ 2) 0 (s + 1 - s) s) (s + 1))
      rw [ej]
      refine jF n3 (jT e4 ⟨fun q => ?_, fun q => ?_⟩)
      · have z : ¬ j < s + 1 := fun z => q (gd_0 z)
        rw [mWk_1 z] at hp
        exact jF (n8 (k := 4) hm (by decide)) hp
      · have z : j < s + 1 := by
          by_cases z : j < s + 1
          · exact z
          · rw [gd_1 z] at q; exact absurd q z10
        rw [mWk_0 z] at hp
        exact r_mk (σ := mRd (up2 (up2 ρ 0 15 (nI s)) 0 16 (nI s + 1)) s (s + 1) j) 3 rfl (nI_1 s) (by omega) (by omega) _ (jF (n8 (k := 4) hm (by decide)) hp)
/-! the search for the bad -/
theorem rem2 {t : Nat} (h : t < 2 ^ 31) : nI t - nI t / 2 * 2 = nI (t % 2) := pk_rem (d := 2) h (by decide) (by decide)
theorem up_0 {t : Nat} (h : t < 2 ^ 31) (q : t % 2 = 0) : nI t - nI t / 2 * 2 = 0 := by rw [rem2 h, q]; rfl
theorem up_1 {t : Nat} (h : t < 2 ^ 31) (q : ¬ t % 2 = 0) : ¬ nI t - nI t / 2 * 2 = 0 := by
  rw [rem2 h, show t % 2 = 1 from by omega]
  decide
theorem c_up {σ : jS} {t : Nat} (h : t < 2 ^ 31) : Rn (p_K_goesUp σ (nI t)) (if t % 2 = 0 then 1 else 0) σ := by
  intro post hp
  by_cases q : t % 2 = 0
  · rw [if_pos q] at hp
    exact jT (up_0 h q) ⟨Or.inr rfl, hp⟩
  · rw [if_neg q] at hp
    exact jF (up_1 h q) ⟨Or.inl rfl, hp⟩
theorem c_er {σ : jS} {t : Nat} (h : t < 2 ^ 31) : Rv (p_K_enterRound σ (nI t)) (up2 (up2 σ 8 5 (nI t)) 8 3 (if t % 2 = 0 then 0 else σ 6 1)) := by
  intro post hp
  refine c_up h _ ?_
  by_cases q : t % 2 = 0
  · rw [if_pos q] at hp ⊢
    exact iF z10 hp
  · rw [if_neg q] at hp ⊢
    exact iT rfl hp
theorem ps_ok {n t : Nat} {σ : jS} (hn : n ≤ 64) (h61 : σ 6 1 = nI n) : -64 ≤ (if t % 2 = 0 then (0 : Int32) else σ 6 1).toInt ∧ (if t % 2 = 0 then (0 : Int32) else σ 6 1).toInt ≤ 128 := by
  by_cases q : t % 2 = 0
  · rw [if_pos q]; decide
  · rw [if_neg q, h61, nI_toInt (by omega)]; omega
/-- what either side looks up in a round -/
def lk (f : Nat → Int32) (n t : Nat) (p : Int32) : Int32 := if t % 2 = 0 then fF f 3 (n - p.toInt.toNat) p.toInt.toNat else lB f 3 (bd n p)
theorem lk_sp (f : Nat → Int32) (n t : Nat) (p : Int32) : lk f n t p = -1 ∨ ∃ j, j < n ∧ f j = 3 ∧ lk f n t p = nI j := by
  unfold lk
  by_cases q : t % 2 = 0
  · rw [if_pos q]
    rcases fF_sp f 3 (n - p.toInt.toNat) p.toInt.toNat with ⟨e, -⟩ | ⟨s, s1, s2, s3, e, -⟩
    · exact Or.inl e
    · exact Or.inr ⟨s, by omega, s3, e⟩
  · rw [if_neg q]
    rcases lB_sp f 3 (bd n p) with ⟨e, -⟩ | ⟨l, l1, l2, e⟩
    · exact Or.inl e
    · exact Or.inr ⟨l, by unfold bd at l1; omega, l2, e⟩
theorem c_lk {σ : jS} {n t m : Nat} {post : Int32 → jS → Prop} (h61 : σ 6 1 = nI n) (hn : n ≤ 64) (ht : t < 2 ^ 31) (hp1 : -64 ≤ (σ 8 3).toInt) (hr : ¬ σ 8 6 ≤ nI t) (hp : p_K_nextBad_48 post (p_K_nextBad_5 post m) σ (nI t) (lk (σ 7) n t (σ 8 3))) : p_K_nextBad_5 post (m + 1) σ (nI t) := by
  refine iF hr (c_up ht _ ?_)
  unfold lk at hp
  by_cases q : t % 2 = 0
  · rw [if_pos q] at hp ⊢
    exact iF z10 (c_ff h61 hn 3 (σ 8 3) _ hp)
  · rw [if_neg q] at hp ⊢
    exact iT rfl (c_lb h61 hn 3 (σ 8 3) hp1 _ hp)
theorem r_lk {ρ : jS} {n t m : Nat} {post : Int32 → jS → Prop} (h1 : ρ 0 1 = nI n) (hn : n ≤ 64) (ht : t < 2 ^ 31) (h13 : ρ 0 13 = nI t) (hp1 : -64 ≤ (ρ 0 11).toInt) (hr : ¬ ρ 0 9 ≤ ρ 0 13) (hex : ∃ i, i < n ∧ ρ 5 i = 3) (hp : p_M_findBad_56 post (p_M_findBad_2 post m) ρ (lk (ρ 5) n t (ρ 0 11))) : p_M_findBad_2 post (m + 1) ρ (-1) := by
  refine iF hr (iF (by decide) (r_ff h1 hn 3 0 _ ?_))
  rw [toNat0]
  rcases fF_sp (ρ 5) 3 (n - 0) 0 with ⟨e, e2⟩ | ⟨s, s1, s2, s3, e, -⟩
  · obtain ⟨i, hi, hi2⟩ := hex
    exact absurd hi2 (e2 i (by omega) (by omega))
  · rw [e]
    refine iF (nI_pos (by omega)) ?_
    unfold lk at hp
    by_cases q : t % 2 = 0
    · rw [if_pos q] at hp
      refine jT (by rw [h13]; exact up_0 ht q) (r_ff h1 hn 3 (ρ 0 11) _ hp)
    · rw [if_neg q] at hp
      refine jF (by rw [h13]; exact up_1 ht q) (r_lb h1 hn 3 (ρ 0 11) hp1 _ hp)
theorem bad_no {n R : Nat} {ρ : jS} (hn : n ≤ 64) (hR : R ≤ 5) : ∀ d t σ, rB n σ ρ → -64 ≤ (σ 8 3).toInt → σ 8 6 = nI R → R ≤ t + d → t ≤ 5 → (∀ i, i < n → σ 7 i ≠ 3) → ∃ σ1, (∀ post : Int32 → jS → Prop, post (-1) σ1 → p_K_nextBad_5 post (d + 1) σ (nI t)) ∧ rB n σ1 ρ := by
  intro d
  induction d with
  | zero => exact fun t σ hB hp1 h86 ht ht5 hno => ⟨σ, fun post hp => pk_le R t (fun _ => hp) (fun h => by omega) h86, hB⟩
  | succ d ih =>
    intro t σ hB hp1 h86 ht ht5 hno
    by_cases hRt : R ≤ t
    · exact ⟨σ, fun post hp => pk_le R t (fun _ => hp) (fun h => by omega) h86, hB⟩
    · have h61 : σ 6 1 = nI n := hB.2.2.2.2.1
      obtain ⟨σ1, g1, g2⟩ := ih (t + 1) (up2 (up2 σ 8 5 (nI (t + 1))) 8 3 (if (t + 1) % 2 = 0 then 0 else σ 6 1)) hB (ps_ok hn h61).1 h86 (by omega) (by omega) hno
      refine ⟨σ1, fun post hp => c_lk h61 hn (by omega) hp1 (by rw [h86]; exact nI_ge (by omega) (by omega)) ?_, g2⟩
      rcases lk_sp (σ 7) n t (σ 8 3) with e | ⟨j, hj, hj3, -⟩
      · rw [e]
        refine iT rfl ?_
        rw [nI_1]
        exact c_er (by omega) _ (g1 post hp)
      · exact absurd hj3 (hno j hj)
theorem bad_yes {n R : Nat} (hR : R ≤ 5) : ∀ d t σ ρ, jG 5 n σ ρ → σ 8 5 = nI t → σ 8 6 = nI R → R ≤ t + d → t ≤ 5 → (∃ i, i < n ∧ σ 7 i = 3) → ∃ r σ1 ρ1, (∀ post : Int32 → jS → Prop, post r σ1 → p_K_nextBad_5 post (d + 1) σ (nI t)) ∧ (∀ post : Int32 → jS → Prop, post r ρ1 → p_M_findBad_2 post (d + 2) ρ (-1)) ∧ jG 5 n σ1 ρ1 ∧ (r = -1 ∨ ∃ j, j < n ∧ r = nI j ∧ σ1 7 j = 3) := by
  intro d
  induction d with
  | zero =>
    intro t σ ρ hG h85 h86 ht ht5 hex
    obtain ⟨h0, hn, hB, hP, hc, hm⟩ := id hG
    exact ⟨-1, σ, ρ, fun post hp => pk_le R t (fun _ => hp) (fun h => by omega) h86, fun post hp => pk_le R t (fun _ => hp) (fun h => by omega) (hB.2.2.1 ▸ h86) (hP.2.2.2.2.1 ▸ h85), hG, Or.inl rfl⟩
  | succ d ih =>
    intro t σ ρ hG h85 h86 ht ht5 hex
    obtain ⟨h0, hn, hB, hP, hc, hm⟩ := id hG
    obtain ⟨hA, hS, h9, h9b, h61, h7, h74, h7t⟩ := id hB
    obtain ⟨p1, p2, p3, p4, p5, p6, p7, p8⟩ := id hP
    have m13 : ρ 0 13 = nI t := p5 ▸ h85
    have m9 : ρ 0 9 = nI R := h9 ▸ h86
    by_cases hRt : R ≤ t
    · exact ⟨-1, σ, ρ, fun post hp => pk_le R t (fun _ => hp) (fun h => by omega) h86, fun post hp => pk_le R t (fun _ => hp) (fun h => by omega) m9 m13, hG, Or.inl rfl⟩
    · have hr : ¬ σ 8 6 ≤ nI t := by rw [h86]; exact nI_ge (by omega) (by omega)
      have hr2 : ¬ ρ 0 9 ≤ ρ 0 13 := by rw [m9, m13]; exact nI_ge (by omega) (by omega)
      have hex2 : ∃ i, i < n ∧ ρ 5 i = 3 := h7 ▸ hex
      have el : lk (ρ 5) n t (ρ 0 11) = lk (σ 7) n t (σ 8 3) := by rw [h7, p1]
      rcases lk_sp (σ 7) n t (σ 8 3) with e | ⟨j, hj, hj3, e⟩
      · rw [e] at el
        have hG' : jG 5 n (up2 (up2 σ 8 5 (nI (t + 1))) 8 3 (if (t + 1) % 2 = 0 then 0 else σ 6 1)) (up2 (up2 ρ 0 13 (nI (t + 1))) 0 11 (if (t + 1) % 2 = 0 then 0 else ρ 0 1)) := by
          refine ⟨h0, hn, hB, ⟨?_, ps_ok hn h61, p3, p4, rfl, ⟨t + 1, by omega, rfl⟩, p7, p8⟩, hc, hm⟩
          show (if (t + 1) % 2 = 0 then 0 else σ 6 1) = (if (t + 1) % 2 = 0 then 0 else ρ 0 1)
          rw [h61, hA.2.1]
        obtain ⟨r, σ1, ρ1, g1, g2, g3, g4⟩ := ih (t + 1) _ _ hG' rfl h86 (by omega) (by omega) hex
        refine ⟨r, σ1, ρ1, fun post hp => c_lk h61 hn (by omega) p2.1 hr ?_, fun post hp => r_lk hA.2.1 hn (by omega) m13 (p1 ▸ p2.1) hr2 hex2 ?_, g3, g4⟩
        · rw [e]
          refine iT rfl ?_
          rw [nI_1]
          exact c_er (by omega) _ (g1 post hp)
        · rw [el]
          have g := g2 post hp
          refine iT (by decide) ?_
          show (¬ (ρ 0 13 + 1) - (ρ 0 13 + 1) / 2 * 2 = 0 → p_M_findBad_2 post (d + 2) (up2 (up2 ρ 0 13 (ρ 0 13 + 1)) 0 11 (ρ 0 1)) (-1)) ∧ ((ρ 0 13 + 1) - (ρ 0 13 + 1) / 2 * 2 = 0 → p_M_findBad_2 post (d + 2) (up2 (up2 ρ 0 13 (ρ 0 13 + 1)) 0 11 0) (-1))
          rw [m13, nI_1]
          by_cases q : (t + 1) % 2 = 0
          · rw [if_pos q] at g
            exact jT (up_0 (by omega) q) g
          · rw [if_neg q] at g
            exact jF (up_1 (by omega) q) g
      · rw [e] at el
        refine ⟨nI j, σ, ρ, fun post hp => c_lk h61 hn (by omega) p2.1 hr ?_, fun post hp => r_lk hA.2.1 hn (by omega) m13 (p1 ▸ p2.1) hr2 hex2 ?_, hG, Or.inr ⟨j, hj, rfl, hj3⟩⟩
        · rw [e]
          exact iF (ns1 (by omega)) hp
        · rw [el]
          exact iF (nI_pos (by omega)) (iF hr2 (iT (nI_pos' (by omega)) hp))
theorem mk_same {f : Nat → Int32} {s : Nat} {v : Int32} (h : f s = v) : mk f s (s + 1) v = f := by
  funext k
  by_cases q : k = s
  · rw [mk_in (by omega) (by omega), q, h]
  · exact mk_out (by omega)
theorem ph_5 {n : Nat} {σ ρ : jS} (h : jG 5 n σ ρ) : Ph 5 n σ ρ := by
  obtain ⟨h0, hn, hB, hP, hc, hm⟩ := id h
  obtain ⟨R, hR, eR⟩ := hB.2.2.2.1
  obtain ⟨t, ht, et⟩ := hP.2.2.2.2.2.1
  have n0 : ¬ ρ 0 8 = 0 := n8 hm (by decide)
  have n2 : ¬ ρ 0 8 = 2 := n8 hm (by decide)
  have n1 : ¬ ρ 0 8 = 1 := n8 hm (by decide)
  have n3 : ¬ ρ 0 8 = 3 := n8 hm (by decide)
  have n4 : ¬ ρ 0 8 = 4 := n8 hm (by decide)
  by_cases hex : ∃ i, i < n ∧ σ 7 i = 3
  · obtain ⟨r, σ1, ρ1, g1, g2, g3, g4⟩ := bad_yes hR 5 t σ ρ h et eR (by omega) ht hex
    obtain ⟨k0, kn, kB, kP, kc, km⟩ := id g3
    obtain ⟨hA, hS, h9, h9b, h61, h7, h74, h7t⟩ := id kB
    rcases g4 with rfl | ⟨s, hs, rfl, s3⟩
    · refine ⟨0, σ1, fun post hp => rI_5 ⟨6, ?_⟩, Or.inl ⟨rfl, up2 (up2 ρ1 0 15 (-1)) 0 16 (-1 + 1), fun post hp => iF n0 (jF n2 (jF n1 (jF n3 (jF n4 ⟨7, g2 _ (iT (by decide) ⟨Or.inl rfl, hp⟩)⟩)))), kB, km⟩⟩
      rw [et]
      exact g1 _ (jT rfl ⟨Or.inl rfl, Or.inl rfl, hp⟩)
    · obtain ⟨t', ht', et'⟩ := kP.2.2.2.2.2.1
      have mt' : ρ1 0 13 = nI t' := kP.2.2.2.2.1 ▸ et'
      have hrs := c_rs (b := s + 1) 3 hA.1 h61 kn (a := s) (by omega) (by omega)
      have ej : eB (ρ1 2) 0 (s + 1 - s) s = eB (σ1 3) 0 (s + 1 - s) s := by rw [hA.2.2.2.1]
      generalize eB (σ1 3) 0 (s + 1 - s) s = j at hrs ej
      have hRB := rB_wk (a := s) (b := s + 1) (j := j) (st := 3) kB kn (by omega) ⟨3, by decide, rfl⟩
      have hfi : ∀ i, ρ1 2 i = -1 ∨ le9 9 (ρ1 2 i) := hA.2.2.2.1 ▸ hA.2.2.2.2.2.2.2.2
      have hmw : ∀ X : jS, X 5 s = 3 → mWk X s (s + 1) j 3 = mRd X s (s + 1) j := by
        intro X hX
        by_cases z : j < s + 1
        · rw [mWk_0 z, show (mRd X s (s + 1) j) 5 = X 5 from if_pos z, mk_same hX]
          rw [← show (mRd X s (s + 1) j) 5 = X 5 from if_pos z, stA_self]
        · exact mWk_1 z
      refine ⟨1, up2 (cRs σ1 s (s + 1) j 3) 8 3 (if t' % 2 = 0 then nI (s + 1) else nI s), fun post hp => rI_5 ⟨6, ?_⟩, Or.inr ⟨rfl, up2 (up2 ρ1 0 15 (nI s)) 0 16 (nI s + 1), up2 (mWk (up2 (up2 ρ1 0 15 (nI s)) 0 16 (nI s + 1)) s (s + 1) j 3) 0 11 (if t' % 2 = 0 then nI (s + 1) else nI s), fun post hp => iF n0 (jF n2 (jF n1 (jF n3 (jF n4 ⟨7, g2 _ (iF (nI_pos (by omega)) ⟨Or.inr rfl, hp⟩)⟩)))), km, fun post hp => ?_, ⟨k0, kn, hRB, ⟨rfl, ?_, kP.2.2⟩, kc, km⟩⟩⟩
      · rw [et]
        refine g1 _ (jF (ns1 (by omega)) ?_)
        rw [nI_1]
        refine hrs _ ?_
        show p_K_goesUp (cRs σ1 s (s + 1) j 3) (σ1 8 5) _
        rw [et']
        refine c_up (by omega) _ ?_
        by_cases q : t' % 2 = 0
        · rw [if_pos q] at hp ⊢
          exact iF z10 ⟨Or.inr rfl, Or.inr rfl, hp⟩
        · rw [if_neg q] at hp ⊢
          exact iT rfl ⟨Or.inr rfl, Or.inr rfl, hp⟩
      · refine w_mid (k := 5) (a := s) (b := s + 1) km (by omega) (by omega) rfl (nI_1 s) hfi (by omega) (by omega) ?_
        show p_M_work_135 post (mRd _ s (s + 1) (eB (ρ1 2) 0 (s + 1 - s) s)) (gd (eB (ρ1 2) 0 (s + 1 - s) s) (s + 1))
        rw [ej]
        rw [hmw (up2 (up2 ρ1 0 15 (nI s)) 0 16 (nI s + 1)) (show ρ1 5 s = 3 from h7 ▸ s3)] at hp
        refine jF (n8 (k := 5) km (by decide)) (jF (n8 (k := 5) km (by decide)) (jT (y8 (k := 5) km rfl) ?_))
        show (¬ ρ1 0 13 - ρ1 0 13 / 2 * 2 = 0 → post (up2 _ 0 11 (nI s))) ∧ (ρ1 0 13 - ρ1 0 13 / 2 * 2 = 0 → post (up2 _ 0 11 (nI s + 1)))
        rw [mt', nI_1]
        rw [nI_1] at hp
        by_cases q : t' % 2 = 0
        · rw [if_pos q] at hp
          exact jT (up_0 (by omega) q) hp
        · rw [if_neg q] at hp
          exact jF (up_1 (by omega) q) hp
      · show -64 ≤ (if t' % 2 = 0 then nI (s + 1) else nI s).toInt ∧ (if t' % 2 = 0 then nI (s + 1) else nI s).toInt ≤ 128
        by_cases q : t' % 2 = 0
        · rw [if_pos q, nI_toInt (by omega)]; omega
        · rw [if_neg q, nI_toInt (by omega)]; omega
  · obtain ⟨σ1, g1, g2⟩ := bad_no hn hR 5 t σ hB hP.2.1.1 eR (by omega) ht (fun i hi e => hex ⟨i, hi, e⟩)
    obtain ⟨hA, hS, h9, h9b, h61, h7, h74, h7t⟩ := id hB
    refine ⟨0, σ1, fun post hp => rI_5 ⟨6, ?_⟩, Or.inl ⟨rfl, up2 (up2 ρ 0 15 (-1)) 0 16 (-1 + 1), fun post hp => iF n0 (jF n2 (jF n1 (jF n3 (jF n4 ⟨1, ?_⟩)))), g2, hm⟩⟩
    · rw [et]
      exact g1 _ (jT rfl ⟨Or.inl rfl, Or.inl rfl, hp⟩)
    · have hq : p_M_find_262 post ρ (-1) := iT (by decide) ⟨Or.inl rfl, hp⟩
      refine ⟨fun _ => hq, fun _ => iF (by decide) (r_ff hA.2.1 hn 3 0 _ ?_)⟩
      rw [toNat0]
      rcases fF_sp (ρ 5) 3 (n - 0) 0 with ⟨e, e2⟩ | ⟨s, s1, s2, s3, e, -⟩
      · rw [e]
        exact iT (by decide) hq
      · exact absurd ⟨s, by omega, by rw [h7]; exact s3⟩ hex

theorem zA (f : Nat → Int32) (n : Nat) : (fun b => if b < n then (0 : Int32) else f b) = mk f 0 n 0 := by
  funext k
  show (if k < n then 0 else f k) = (if 0 ≤ k ∧ k < n then 0 else f k)
  by_cases q : k < n
  · rw [if_pos q, if_pos ⟨by omega, q⟩]
  · rw [if_neg q, if_neg (fun z => q z.2)]
theorem mk_0 {f : Nat → Int32} {a b : Nat} (h : a < b) : mk (fun k => if k = a then (0 : Int32) else f k) (a + 1) b 0 = mk f a b 0 := mk_step h
/-- the reference's arrays of 64, zeros from k on -/
def zS (σ : jS) (k : Nat) : jS := fun c => if c = 1 ∨ c = 2 ∨ c = 3 ∨ c = 4 ∨ c = 5 then mk (σ c) k 64 0 else σ c
theorem zS_end (σ : jS) : zS σ 64 = σ := by
  funext c
  unfold zS
  by_cases q : c = 1 ∨ c = 2 ∨ c = 3 ∨ c = 4 ∨ c = 5
  · rw [if_pos q, mk_nil (by omega)]
  · rw [if_neg q]
theorem zS_go (σ : jS) {k : Nat} (h : k < 64) : zS (up2 (up2 (up2 (up2 (up2 σ 1 k 0) 2 k 0) 3 k 0) 4 k 0) 5 k 0) (k + 1) = zS σ k := by
  funext c
  by_cases q : c = 1 ∨ c = 2 ∨ c = 3 ∨ c = 4 ∨ c = 5
  · rcases q with rfl | rfl | rfl | rfl | rfl <;> exact mk_step h
  · unfold zS
    rw [if_neg q, if_neg q]
    have h1 : c ≠ 1 := fun e => q (Or.inl e)
    have h2 : c ≠ 2 := fun e => q (Or.inr (Or.inl e))
    have h3 : c ≠ 3 := fun e => q (Or.inr (Or.inr (Or.inl e)))
    have h4 : c ≠ 4 := fun e => q (Or.inr (Or.inr (Or.inr (Or.inl e))))
    have h5 : c ≠ 5 := fun e => q (Or.inr (Or.inr (Or.inr (Or.inr e))))
    simp [up2, h1, h2, h3, h4, h5]
theorem m_s40 {post : jS → Prop} {v1 : Int32} : ∀ d k σ, k + d = 64 → (∃ n9, p_M_source_89 post v1 n9 (zS σ k) 0) → p_M_source_40 post v1 (d + 1) σ (nI k) := by
  intro d
  induction d with
  | zero =>
    intro k σ hk hp
    obtain rfl : k = 64 := by omega
    rw [zS_end] at hp
    exact iT (by decide) hp
  | succ d ih =>
    intro k σ hk hp
    refine pk_le 64 k (fun q => by omega) (fun _ => ⟨pk_in k 64 (by omega), pk_in k 64 (by omega), pk_in k 64 (by omega), pk_in k 64 (by omega), pk_in k 64 (by omega), ?_⟩)
    rw [nI_1, cl (by omega)]
    refine ih (k + 1) _ (by omega) ?_
    rw [zS_go σ (by omega)]
    exact hp
theorem m_s89 {post : jS → Prop} {v1 : Int32} : ∀ d k σ, k + d = 280 → post (up2 (up2 (up2 (stA σ 6 (mk (σ 6) k 280 0)) 0 6 0) 0 7 0) 0 17 0) → p_M_source_89 post v1 (d + 1) σ (nI k) := by
  intro d
  induction d with
  | zero =>
    intro k σ hk hp
    obtain rfl : k = 280 := by omega
    rw [mk_nil (by omega), stA_self] at hp
    exact iT (by decide) hp
  | succ d ih =>
    intro k σ hk hp
    refine pk_le 280 k (fun q => by omega) (fun _ => ⟨pk_in k 280 (by omega), ?_⟩)
    rw [nI_1, cl (by omega)]
    refine ih (k + 1) _ (by omega) ?_
    rw [stA_up2, show (up2 σ 6 k 0) 6 = (fun i => if i = k then 0 else σ 6 i) from rfl, mk_step (by omega)]
    exact hp
theorem m1n6 : ¬ le9 6 (-1) := by
  intro h
  obtain ⟨j, hj, e⟩ := h
  exact ns1 (s := j) (by omega) e.symm
theorem m_b52 {post : jS → Prop} {v1 : Int32} : ∀ d k σ, k + d = 64 → p_M_enter (stA σ 5 (mk (σ 5) k 64 0)) 0 (fun σ1 => post σ1) → p_M_begin_52 post v1 (d + 1) σ (nI k) := by
  intro d
  induction d with
  | zero =>
    intro k σ hk hp
    obtain rfl : k = 64 := by omega
    rw [mk_nil (by omega), stA_self] at hp
    exact iT (by decide) hp
  | succ d ih =>
    intro k σ hk hp
    refine pk_le 64 k (fun q => by omega) (fun _ => ⟨pk_in k 64 (by omega), ?_⟩)
    rw [nI_1, cl (by omega)]
    refine ih (k + 1) _ (by omega) ?_
    rw [stA_up2, show (up2 σ 5 k 0) 5 = (fun i => if i = k then 0 else σ 5 i) from rfl, mk_step (by omega)]
    exact hp
theorem clip {n : Nat} (hn : n ≤ 64) : (if 0 < (if 64 < nI n then 64 else nI n) then (if 64 < nI n then 64 else nI n) else (0 : Int32)) = nI n := by
  have g : ¬ (64 : Int32) < nI n := nI_nlt (a := 64) (b := n) hn (by decide)
  rw [if_neg g]
  by_cases q : (0 : Int32) < nI n
  · rw [if_pos q]
  · rw [if_neg q]
    by_cases q0 : n = 0
    · rw [q0]; rfl
    · exact absurd (nI_lt (a := 0) (b := n) (by omega) (by omega)) q
theorem clr_eq {σ ρ : jS} (h : ∀ k, 64 ≤ k → σ 7 k = 0 ∧ ρ 5 k = 0) : (fun b => if b < 64 then (0 : Int32) else σ 7 b) = mk (ρ 5) 0 64 0 := by
  rw [zA]
  funext k
  by_cases q : k < 64
  · rw [mk_in (by omega) q, mk_in (by omega) q]
  · rw [mk_out (by omega), mk_out (by omega), (h k (by omega)).1, (h k (by omega)).2]
theorem clr_0 {σ ρ : jS} (h : ∀ k, 64 ≤ k → σ 7 k = 0 ∧ ρ 5 k = 0) (k : Nat) : mk (ρ 5) 0 64 0 k = 0 := by
  by_cases q : k < 64
  · rw [mk_in (by omega) q]
  · rw [mk_out (by omega), (h k (by omega)).2]
/-- the map cleared on both sides -/
theorem rB_clr {n : Nat} {σ ρ : jS} (hn : n ≤ 64) (hA : rA n σ ρ) (hS : rS σ ρ) (h00 : ρ 0 0 = 0) (ht : ∀ k, 64 ≤ k → σ 7 k = 0 ∧ ρ 5 k = 0) (h9 : σ 8 6 = ρ 0 9) (h9b : le9 5 (σ 8 6)) : rB n (upA (up2 σ 6 1 (nI n)) 7 64 0) (stA ρ 5 (mk (ρ 5) 0 64 0)) := by
  have e : (fun b => if b < 64 then (0 : Int32) else σ 7 b) = mk (ρ 5) 0 64 0 := clr_eq ht
  refine ⟨hA, ⟨hS, h00⟩, h9, h9b, rfl, e, fun k => ?_, fun k hk => ⟨?_, clr_0 ht k⟩⟩
  · show le9 4 ((fun b => if b < 64 then (0 : Int32) else σ 7 b) k)
    rw [e, clr_0 ht]
    exact ⟨0, by decide, rfl⟩
  · show (fun b => if b < 64 then (0 : Int32) else σ 7 b) k = 0
    rw [e, clr_0 ht]
section
variable {L : Nat} {xs : Nat → Int32} {v4 : Int32} {σ ρ : jS} {fo : Nat → Int64}
theorem st_0 (h : jR σ ρ) (i1 : vp_in (v4 + 1) L) : p_law_0 L xs v4 σ fo ρ (fun σ _ ρ => jR σ ρ) := by
  obtain ⟨n, hn, hA, hK, hS⟩ := id h
  refine ⟨i1, ?_⟩
  unfold p_L_source p_R_source
  generalize xs (v4 + 1).toNatClampNeg = v1
  have g1 : p_M_thrown (up2 ρ 0 0 1) (fun r4 ρ5 => (r4 = 1 → jR σ ρ5) ∧ (¬ r4 = 1 → False)) := eqF rfl (jR_code 1 h)
  have no : ∀ post : jS → Prop, post (up2 ρ 0 0 1) → p_M_source_12 post v1 ρ := fun post hp => iF z10 hp
  by_cases q0 : v1 < 1
  · exact iT q0 ⟨rfl, i1, iT q0 (no _ g1)⟩
  · by_cases q1 : v1 ≤ 64
    · have qn : ¬ v1 < 0 := by
        rw [Int32.lt_iff_toInt_lt, show (1 : Int32).toInt = 1 from by decide] at q0
        rw [Int32.lt_iff_toInt_lt, show (0 : Int32).toInt = 0 from by decide]
        omega
      obtain ⟨w, hw, rfl⟩ := nI_of2 (n := 64) (by decide) qn q1
      refine iF q0 (iT q1 ?_)
      refine ⟨3, iF (by decide) ⟨pk_in 0 2 (by decide), iT rfl ?_⟩⟩
      refine iF (by decide) ⟨pk_in 1 2 (by decide), iF (by decide) ?_⟩
      refine iT (by decide) ⟨i1, iF q0 (iT q1 (iT rfl ⟨65, m_s40 64 0 _ (by omega) ⟨281, m_s89 280 0 _ (by omega) ?_⟩⟩))⟩
      refine eqF rfl ?_
      obtain ⟨a1, a2, a3, a4, a5, a6, a7, a8, a9⟩ := hA
      refine ⟨w, hw, ⟨rfl, rfl, ?_, ?_, ?_, ?_, rfl, rfl, fun k => ?_⟩, ⟨rfl, Or.inl rfl, hK.2.2.1, hK.2.2.2.1, fun q => absurd q m1n6, fun k hk => ⟨(hK.2.2.2.2.2 k hk).1, ?_⟩⟩, rfl, ⟨0, by decide, rfl⟩, fun k hk => ?_⟩
      · show (fun b => if b < 64 then (0 : Int32) else σ 2 b) = mk (ρ 1) 0 64 0
        rw [zA, a3]
      · show (fun b => if b < 64 then (0 : Int32) else σ 3 b) = mk (ρ 2) 0 64 0
        rw [zA, a4]
      · show (fun b => if b < 64 then (0 : Int32) else σ 4 b) = mk (ρ 3) 0 64 0
        rw [zA, a5]
      · show (fun b => if b < 64 then (0 : Int32) else σ 5 b) = mk (ρ 4) 0 64 0
        rw [zA, a6]
      · show (if k < 64 then (0 : Int32) else σ 3 k) = -1 ∨ le9 9 (if k < 64 then (0 : Int32) else σ 3 k)
        by_cases q : k < 64
        · rw [if_pos q]; exact Or.inr ⟨0, by decide, rfl⟩
        · rw [if_neg q]; exact a9 k
      · show mk (ρ 5) 0 64 0 k = 0
        exact clr_0 hK.2.2.2.2.2 k
      · show (if k < 140 then (0 : Int32) else σ 11 k) = mk (ρ 6) 0 280 0 k ∧ (if k < 140 then (0 : Int32) else σ 12 k) = mk (ρ 6) 0 280 0 (140 + k) ∧ le9 255 (if k < 140 then (0 : Int32) else σ 11 k) ∧ le9 255 (if k < 140 then (0 : Int32) else σ 12 k)
        rw [if_pos hk, if_pos hk, mk_in (by omega) (by omega), mk_in (by omega) (by omega)]
        exact ⟨rfl, rfl, ⟨0, by decide, rfl⟩, ⟨0, by decide, rfl⟩⟩
    · exact iF q0 (iF q1 ⟨rfl, i1, iF q0 (iF q1 (no _ g1))⟩)
theorem st_2 (h : jR σ ρ) (i1 : vp_in (v4 + 1) L) : p_law_2 L xs v4 σ fo ρ (fun σ _ ρ => jR σ ρ) := by
  obtain ⟨n, hn, hA, hK, hS⟩ := id h
  refine ⟨i1, ?_⟩
  unfold p_L_begin p_R_begin
  generalize xs (v4 + 1).toNatClampNeg = v1
  have g1 : p_M_thrown (up2 ρ 0 0 1) (fun r4 ρ5 => (r4 = 1 → jR σ ρ5) ∧ (¬ r4 = 1 → False)) := eqF rfl (jR_code 1 h)
  have no : ∀ post : jS → Prop, post (up2 ρ 0 0 1) → p_M_begin_10 post v1 ρ := fun post hp => iF z10 hp
  have g2 : p_M_thrown (up2 ρ 0 0 2) (fun r4 ρ5 => (r4 = 2 → jR σ ρ5) ∧ (¬ r4 = 2 → False)) := eqF rfl (jR_code 2 h)
  have no2 : ∀ post : jS → Prop, post (up2 ρ 0 0 2) → p_M_begin_29 post v1 ρ := fun post hp => iF z20 hp
  by_cases q0 : v1 < 0
  · exact iT q0 (iT rfl ⟨i1, iT q0 (no _ g1)⟩)
  · by_cases q1 : v1 ≤ 5
    · refine iF q0 (iT q1 ?_)
      obtain ⟨w, hw, rfl⟩ := nI_of2 (n := 5) (by decide) q0 q1
      have cs : σ 1 4 = ρ 0 1 := hA.1.trans hA.2.1.symm
      by_cases q2 : σ 1 4 = 0
      · exact iT q2 (iF (by decide) ⟨i1, iF q0 (iT q1 (iT (cs ▸ q2) (no2 _ g2)))⟩)
      · refine iF q2 ?_
        by_cases q3 : σ 8 2 = -1
        · refine iT q3 ?_
          have h0 : 0 < n := by
            rcases Nat.eq_zero_or_pos n with e | e
            · rw [hA.1, e] at q2
              exact absurd rfl q2
            · exact e
          have hB := rB_clr (σ := up2 σ 8 6 (nI w)) (ρ := up2 (up2 ρ 0 0 0) 0 9 (nI w)) hn hA hS rfl hK.2.2.2.2.2 rfl ⟨w, hw, rfl⟩
          have hG := jG_en (k := 0) h0 hn hB
          have e1 : upA (up2 σ 6 1 (nI n)) 7 64 0 = upA (up2 σ 6 1 (if 0 < (if 64 < σ 1 4 then 64 else σ 1 4) then (if 64 < σ 1 4 then 64 else σ 1 4) else 0)) 7 64 0 := by rw [hA.1, clip hn]
          have e2 : up2 (upA (up2 σ 6 1 (nI n)) 7 64 0) 8 6 (nI w) = upA (up2 (up2 σ 8 6 (nI w)) 6 1 (nI n)) 7 64 0 := by
            funext c
            by_cases h8 : c = 8
            · subst h8; rfl
            · by_cases h7 : c = 7
              · subst h7; rfl
              · by_cases h6 : c = 6
                · subst h6; rfl
                · simp [upA, up2, h6, h7, h8]
          rw [← e2, e1] at hG
          refine c_en (0 : Int32) _ ⟨i1, iF q0 (iT q1 (iF (cs ▸ q2) (iT (hK.1 ▸ q3) (iT rfl ⟨65, m_b52 64 0 _ (by omega) (r_en (0 : Int32) _ ?_)⟩))))⟩
          exact eqF rfl (jG_R (by omega) hG)
        · exact iF q3 (iF (by decide) ⟨i1, iF q0 (iT q1 (iF (cs ▸ q2) (iF (hK.1 ▸ q3) (no2 _ g2))))⟩)
    · exact iF q0 (iF q1 (iT rfl ⟨i1, iF q0 (iF q1 (no _ g1))⟩))
end

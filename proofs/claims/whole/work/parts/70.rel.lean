/-! the relation of the class's numbers and the reference's -/
/-- a number from 0 to m -/
def le9 (m : Nat) (x : Int32) : Prop := ∃ j : Nat, j ≤ m ∧ x = nI j
/-- the disk: sectors, words, failures, reads, target, counts -/
def rA (n : Nat) (σ ρ : jS) : Prop := σ 1 4 = nI n ∧ ρ 0 1 = nI n ∧ σ 2 = ρ 1 ∧ σ 3 = ρ 2 ∧ σ 4 = ρ 3 ∧ σ 5 = ρ 4 ∧ σ 1 5 = ρ 0 6 ∧ σ 1 6 = ρ 0 7 ∧ ∀ k, σ 3 k = -1 ∨ le9 9 (σ 3 k)
/-- the slots and the number -/
def rS (σ ρ : jS) : Prop := σ 9 2 = ρ 0 17 ∧ le9 199 (σ 9 2) ∧ ∀ k, k < 140 → σ 11 k = ρ 6 k ∧ σ 12 k = ρ 6 (140 + k) ∧ le9 255 (σ 11 k) ∧ le9 255 (σ 12 k)
/-- the copying that goes on -/
def rG (n : Nat) (σ ρ : jS) : Prop := σ 6 1 = nI n ∧ σ 7 = ρ 5 ∧ (∀ k, le9 4 (σ 7 k)) ∧ σ 8 3 = ρ 0 11 ∧ (-64 ≤ (σ 8 3).toInt ∧ (σ 8 3).toInt ≤ 128) ∧ σ 8 4 = ρ 0 12 ∧ (σ 8 4 = 8 ∨ σ 8 4 = 16 ∨ σ 8 4 = 32) ∧ σ 8 5 = ρ 0 13 ∧ le9 5 (σ 8 5) ∧ σ 8 7 = ρ 0 14 ∧ bz (σ 8 7)
/-- the phase and the retries -/
def rK (n : Nat) (σ ρ : jS) : Prop := σ 8 2 = ρ 0 8 ∧ (σ 8 2 = -1 ∨ (0 < n ∧ le9 7 (σ 8 2))) ∧ σ 8 6 = ρ 0 9 ∧ le9 5 (σ 8 6) ∧ (le9 6 (σ 8 2) → rG n σ ρ) ∧ ∀ k, 64 ≤ k → σ 7 k = 0 ∧ ρ 5 k = 0
def jR (σ ρ : jS) : Prop := ∃ n : Nat, n ≤ 64 ∧ rA n σ ρ ∧ rK n σ ρ ∧ rS σ ρ
theorem jR_code {σ ρ : jS} (x : Int32) (h : jR σ ρ) : jR σ (up2 ρ 0 0 x) := h
theorem jR_0 : jR sg0 rh0 := by
  refine ⟨0, by decide, ⟨rfl, rfl, rfl, rfl, rfl, rfl, rfl, rfl, fun k => Or.inr ⟨0, by decide, rfl⟩⟩, ⟨rfl, Or.inl rfl, rfl, ⟨0, by decide, rfl⟩, fun h => ?_, fun _ _ => ⟨rfl, rfl⟩⟩, ⟨rfl, ⟨0, by decide, rfl⟩, fun k hk => ⟨rfl, rfl, ⟨0, by decide, rfl⟩, ⟨0, by decide, rfl⟩⟩⟩⟩
  obtain ⟨j, hj, e⟩ := h
  have e : (-1 : Int32) = nI j := e
  have h1 : ¬ nI j < 0 := nI_pos (by omega)
  rw [← e] at h1
  exact absurd (by decide) h1
/-- the phase is one of these nine -/
theorem rK.cases {n : Nat} {σ ρ : jS} (h : rK n σ ρ) : σ 8 2 = -1 ∨ (∃ k, k ≤ 6 ∧ σ 8 2 = nI k ∧ 0 < n ∧ rG n σ ρ) ∨ (σ 8 2 = 7 ∧ 0 < n) := by
  obtain ⟨-, h2, -, -, h5, -⟩ := h
  rcases h2 with h2 | ⟨hn, k, hk, e⟩
  · exact Or.inl h2
  · by_cases h6 : k ≤ 6
    · exact Or.inr (Or.inl ⟨k, h6, e, hn, h5 ⟨k, h6, e⟩⟩)
    · have : k = 7 := by omega
      subst this
      exact Or.inr (Or.inr ⟨e, hn⟩)
theorem vin64 {v : Int32} {n : Nat} (hn : n ≤ 64) (h1 : ¬ v < 0) (h2 : ¬ nI n ≤ v) : vp_in v 64 := by
  obtain ⟨j, hj, rfl⟩ := nI_of h1
  have : ¬ n ≤ j := fun q => h2 (nI_le q hj)
  exact vp_in_nI (by omega) (by decide)
theorem goes_c {σ : jS} {k : Nat} (hk : k ≤ 6) (e : σ 8 2 = nI k) : (¬ σ 8 2 < 0) ∧ ¬ (6 : Int32) < σ 8 2 := by
  rw [e]
  refine ⟨nI_pos (by omega), ?_⟩
  rw [show (6 : Int32) = nI 6 from rfl, nI_ltI (by decide) (by omega)]
  omega
theorem goes_m {x : Int32} {k : Nat} (hk : k ≤ 6) (e : x = nI k) : (¬ x < 0) ∧ ¬ (7 : Int32) ≤ x := by
  rw [e]
  refine ⟨nI_pos (by omega), ?_⟩
  rw [show (7 : Int32) = nI 7 from rfl, nI_leI (by decide) (by omega)]
  omega
/-- does it go on? the class asks, the reference asks -/
theorem s_goesOn {σ : jS} {post : Int32 → jS → Prop} {n : Nat} {ρ : jS} (h : rK n σ ρ) (h1 : (∃ k, k ≤ 6 ∧ σ 8 2 = nI k) → 0 < n → rG n σ ρ → post 1 σ) (h0 : (σ 8 2 = -1 ∨ σ 8 2 = 7) → post 0 σ) : p_K_goesOn σ post := by
  unfold p_K_goesOn
  rcases h.cases with e | ⟨k, hk, e, hn, hG⟩ | ⟨e, hn⟩
  · have p0 := h0 (Or.inl e)
    rw [e]
    exact ⟨fun _ => ⟨Or.inl rfl, p0⟩, fun q => absurd (by decide) q⟩
  · have p1 := h1 ⟨k, hk, e⟩ hn hG
    have g := goes_c hk e
    exact ⟨fun q => absurd q g.1, fun _ => ⟨fun q => absurd q g.2, fun _ => ⟨Or.inr rfl, p1⟩⟩⟩
  · have p0 := h0 (Or.inr e)
    rw [e]
    exact ⟨fun q => absurd q (by decide), fun _ => ⟨fun _ => ⟨Or.inl rfl, p0⟩, fun q => absurd (by decide) q⟩⟩
theorem m_goesOn {ρ : jS} {post : Int32 → jS → Prop} {n : Nat} {σ : jS} (h : rK n σ ρ) (h1 : (∃ k, k ≤ 6 ∧ σ 8 2 = nI k) → 0 < n → rG n σ ρ → post 1 ρ) (h0 : (σ 8 2 = -1 ∨ σ 8 2 = 7) → post 0 ρ) : p_M_goesOn ρ post := by
  unfold p_M_goesOn
  rw [← h.1]
  rcases h.cases with e | ⟨k, hk, e, hn, hG⟩ | ⟨e, hn⟩
  · have p0 := h0 (Or.inl e)
    rw [e]
    exact ⟨fun _ => ⟨Or.inl rfl, p0⟩, fun q => absurd (by decide) q⟩
  · have p1 := h1 ⟨k, hk, e⟩ hn hG
    have g := goes_m hk e
    exact ⟨fun q => absurd q g.1, fun _ => ⟨fun q => absurd q g.2, fun _ => ⟨Or.inr rfl, p1⟩⟩⟩
  · have p0 := h0 (Or.inr e)
    rw [e]
    exact ⟨fun q => absurd q (by decide), fun _ => ⟨fun _ => ⟨Or.inl rfl, p0⟩, fun q => absurd (by decide) q⟩⟩
theorem goes_no {σ : jS} (h1 : ∃ k, k ≤ 6 ∧ σ 8 2 = nI k) (h0 : σ 8 2 = -1 ∨ σ 8 2 = 7) : False := by
  obtain ⟨k, hk, e⟩ := h1
  have g := goes_c hk e
  rcases h0 with h0 | h0
  · rw [h0] at g; exact g.1 (by decide)
  · rw [h0] at g; exact g.2 (by decide)
/-- a sector? -/
theorem s_has {n : Nat} {σ ρ : jS} (hA : rA n σ ρ) (hn : n ≤ 64) {v : Int32} {post : Int32 → jS → Prop} (h1 : ∀ j, j < n → v = nI j → post 1 σ) (h0 : (∀ j, j < n → v ≠ nI j) → post 0 σ) : p_D_has σ v post := by
  unfold p_D_has
  rw [hA.1]
  rcases pk_ix v (n := n) (by omega) with q | q | ⟨j, hj, e⟩
  · have p0 := h0 (fun j hj e => by rw [e] at q; exact nI_pos (by omega) q)
    exact ⟨fun _ => ⟨Or.inl rfl, p0⟩, fun z => absurd q z⟩
  · have p0 := h0 (fun j hj e => by rw [e] at q; exact nI_ge hj (by omega) q)
    refine ⟨fun _ => ⟨Or.inl rfl, p0⟩, fun z => ⟨fun _ => ⟨Or.inl rfl, p0⟩, fun z => absurd q z⟩⟩
  · have p1 := h1 j hj e
    subst e
    exact ⟨fun z => absurd z (nI_pos (by omega)), fun _ => ⟨fun z => absurd z (nI_ge hj (by omega)), fun _ => ⟨Or.inr rfl, p1⟩⟩⟩
theorem m_isSector {n : Nat} {σ ρ : jS} (hA : rA n σ ρ) (hn : n ≤ 64) {v : Int32} {post : Int32 → jS → Prop} (h1 : ∀ j, j < n → v = nI j → post 1 ρ) (h0 : (∀ j, j < n → v ≠ nI j) → post 0 ρ) : p_M_isSector ρ v post := by
  unfold p_M_isSector
  rw [hA.2.1]
  rcases pk_ix v (n := n) (by omega) with q | q | ⟨j, hj, e⟩
  · have p0 := h0 (fun j hj e => by rw [e] at q; exact nI_pos (by omega) q)
    exact ⟨fun _ => ⟨Or.inl rfl, p0⟩, fun z => absurd q z⟩
  · have p0 := h0 (fun j hj e => by rw [e] at q; exact nI_ge hj (by omega) q)
    refine ⟨fun _ => ⟨Or.inl rfl, p0⟩, fun z => ⟨fun _ => ⟨Or.inl rfl, p0⟩, fun z => absurd q z⟩⟩
  · have p1 := h1 j hj e
    subst e
    exact ⟨fun z => absurd z (nI_pos (by omega)), fun _ => ⟨fun z => absurd z (nI_ge hj (by omega)), fun _ => ⟨Or.inr rfl, p1⟩⟩⟩
theorem i64 {n j : Nat} (hn : n ≤ 64) (hj : j < n) : vp_in (nI j) 64 := vp_in_nI (by omega) (by decide)
theorem cl {j : Nat} (h : j < 2 ^ 31) : (nI j).toNatClampNeg = j := nI_clamp h
/-- the way out of a comparison in the law -/
theorem eqF {r r' : Int32} {P : Prop} (h : r = r') (hp : P) : (r = r' → P) ∧ (¬ r = r' → False) := ⟨fun _ => hp, fun q => q h⟩
theorem z10 : ¬ (1 : Int32) = 0 := by decide

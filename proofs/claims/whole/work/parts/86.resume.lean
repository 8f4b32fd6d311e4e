/-! resuming: the bytes of a slot as numbers -/
def hbC (σ : jS) (p : Nat) (b : Nat → Nat) : Prop := p < 2 ∧ ∀ k, k < 140 → sl σ p k = nI (b k) ∧ b k ≤ 255
def hbM (ρ : jS) (p : Nat) (b : Nat → Nat) : Prop := p < 2 ∧ ∀ k, k < 140 → ρ 6 (140 * p + k) = nI (b k) ∧ b k ≤ 255
theorem c_by {σ : jS} {p k : Nat} {b : Nat → Nat} (h : hbC σ p b) (hk : k < 140) : Rn (p_V_byteAt σ (nI p) (nI k)) (nI (b k)) σ := fun post hp => c_at h.1 hk post (by rw [(h.2 k hk).1]; exact hp)
theorem r_by {ρ : jS} {p k : Nat} {b : Nat → Nat} (h : hbM ρ p b) (hk : k < 140) : Rn (p_M_at ρ (nI p) (nI k)) (nI (b k)) ρ := fun post hp => r_at h.1 hk post (by rw [(h.2 k hk).1]; exact hp)
def okR (b : Nat → Nat) (i : Nat) : Prop := b (2 + 2 * i) ≠ 0 ∧ b (3 + 2 * i) ≤ 4 ∧ (i = 0 ∨ b (3 + 2 * i) ≠ b (1 + 2 * i))
def cov (b : Nat → Nat) : Nat → Nat
  | 0 => 0
  | i + 1 => cov b i + b (2 + 2 * i)
theorem cov_le {b : Nat → Nat} (h : ∀ k, k < 140 → b k ≤ 255) : ∀ i, i ≤ 64 → cov b i ≤ i * 255 := by
  intro i
  induction i with
  | zero => exact fun _ => Nat.le_refl 0
  | succ i ih =>
    intro hi
    have h1 := ih (by omega)
    have h2 := h (2 + 2 * i) (by omega)
    show cov b i + b (2 + 2 * i) ≤ (i + 1) * 255
    omega
theorem cov_mono {b : Nat → Nat} : ∀ d i, cov b i ≤ cov b (i + d) := by
  intro d
  induction d with
  | zero => exact fun i => Nat.le_refl _
  | succ d ih =>
    intro i
    exact Nat.le_trans (ih i) (Nat.le_add_right _ _)
/-- a whole image -/
def wH (b : Nat → Nat) (n S : Nat) : Prop := b 0 ≤ 199 ∧ 1 ≤ b 1 ∧ b 1 ≤ n ∧ (∀ i, i < b 1 → okR b i) ∧ cov b (b 1) = n ∧ S = b (2 + 2 * b 1)
theorem pl3 {r : Nat} : (3 : Int32) + 2 * nI r = nI (3 + 2 * r) := by
  rw [show (2 : Int32) = nI 2 from rfl, pk_mul, show (3 : Int32) = nI 3 from rfl, nI_add]
theorem pl1 {r : Nat} : (1 : Int32) + 2 * nI r = nI (1 + 2 * r) := by
  rw [show (2 : Int32) = nI 2 from rfl, pk_mul, show (1 : Int32) = nI 1 from rfl, nI_add]
def sbf (b : Nat → Nat) (i : Nat) : Int32 := if i = 0 then -1 else nI (b (1 + 2 * i))
theorem s_hr {post : Int32 → jS → Prop} {σ : jS} {p n m : Nat} {b : Nat → Nat} (h : hbC σ p b) (hm : m ≤ 64) (hn : n ≤ 64) : ∀ d i, i + d = m → ((∀ j, i ≤ j → j < m → okR b j) → cov b m = n → post 1 σ) → (¬ ((∀ j, i ≤ j → j < m → okR b j) ∧ cov b m = n) → post 0 σ) → p_V_hasRuns_9 post (nI p) (nI m) (nI n) (d + 1) σ (nI (cov b i)) (sbf b i) (nI i) := by
  have hb : ∀ k, k < 140 → b k ≤ 255 := fun k hk => (h.2 k hk).2
  intro d
  induction d with
  | zero =>
    intro i hi h1 h0
    obtain rfl : i = m := by omega
    have := cov_le hb i hm
    have g := pk_eq (x := nI (cov b i)) (y := nI n) (A := bz 1 ∧ post 1 σ) (B := bz 0 ∧ post 0 σ) (cov b i) n (fun q => ⟨Or.inr rfl, h1 (fun j q1 q2 => by omega) q⟩) (fun q => ⟨Or.inl rfl, h0 (fun w => q w.2)⟩)
    exact pk_le i i (fun _ => ⟨g.2, g.1⟩) (fun q => by omega)
  | succ d ih =>
    intro i hi h1 h0
    refine pk_le m i (fun q => by omega) (fun _ => ?_)
    unfold p_V_placeOfRun
    rw [pl]
    refine c_by h (by omega) _ ?_
    show p_V_byteAt σ (nI p) (nI (2 + 2 * i) + 1) _
    rw [nI_1 (2 + 2 * i), show 2 + 2 * i + 1 = 3 + 2 * i from by omega]
    refine c_by (k := 3 + 2 * i) h (by omega) _ ?_
    have nok : ¬ okR b i → bz 0 ∧ post 0 σ := fun q => ⟨Or.inl rfl, h0 (fun w => q (w.1 i (by omega) (by omega)))⟩
    have hb2 := hb (2 + 2 * i) (by omega)
    have hb3 := hb (3 + 2 * i) (by omega)
    refine pk_eq (b (2 + 2 * i)) 0 (fun q => nok (fun w => w.1 q)) (fun q => pk_lt 4 (b (3 + 2 * i)) (fun q2 => nok (fun w => by have := w.2.1; omega)) (fun q2 => ?_))
    have good : (i = 0 ∨ b (3 + 2 * i) ≠ b (1 + 2 * i)) → p_V_hasRuns_9 post (nI p) (nI m) (nI n) (d + 1) σ (nI (cov b i) + nI (b (2 + 2 * i))) (nI (b (3 + 2 * i))) (nI i + 1) := by
      intro q3
      have ok : okR b i := ⟨q, q2, q3⟩
      rw [nI_1, nI_add]
      have e : nI (b (3 + 2 * i)) = sbf b (i + 1) := by
        unfold sbf
        rw [if_neg (by omega), show 1 + 2 * (i + 1) = 3 + 2 * i from by omega]
      rw [e]
      refine ih (i + 1) (by omega) (fun w1 w2 => h1 (fun j j1 j2 => ?_) w2) (fun w => h0 (fun w1 => w ⟨fun j j1 j2 => w1.1 j (by omega) j2, w1.2⟩))
      by_cases qj : j = i
      · exact qj ▸ ok
      · exact w1 j (by omega) j2
    unfold sbf
    by_cases q0 : i = 0
    · rw [if_pos q0]
      exact jF (ns1 (by omega)) (good (Or.inl q0))
    · rw [if_neg q0]
      have hb1 := hb (1 + 2 * i) (by omega)
      have g := pk_eq (x := nI (b (3 + 2 * i))) (y := nI (b (1 + 2 * i))) (A := bz 0 ∧ post 0 σ) (b (3 + 2 * i)) (b (1 + 2 * i)) (fun w => nok (fun u => u.2.2.elim q0 (fun z => z w))) (fun w => good (Or.inr w))
      exact ⟨g.2, g.1⟩
theorem hb_le {σ : jS} {p : Nat} {b : Nat → Nat} (h : hbC σ p b) : ∀ k, k < 140 → le9 255 (sl σ p k) := fun k hk => ⟨b k, (h.2 k hk).2, (h.2 k hk).1⟩
theorem c_iw {post : Int32 → jS → Prop} {σ : jS} {p n : Nat} {b : Nat → Nat} (h : hbC σ p b) (hn : n ≤ 64) (hn0 : 0 < n) (h1 : wH b n (sB (sl σ p) (2 + 2 * b 1) % 251) → post 1 σ) (h0 : ¬ wH b n (sB (sl σ p) (2 + 2 * b 1) % 251) → post 0 σ) : p_V_isWhole σ (nI p) (nI n) post := by
  have hb : ∀ k, k < 140 → b k ≤ 255 := fun k hk => (h.2 k hk).2
  have b0 := hb 0 (by omega)
  have b1 := hb 1 (by omega)
  refine c_by (k := 1) h (by omega) _ (vhas1 (k := 1) h.1 (by omega) _ (iF z10 (c_by (k := 0) h (by omega) _ ?_)))
  refine pk_le 200 (b 0) (fun q => ⟨Or.inl rfl, h0 (fun w => by have := w.1; omega)⟩) (fun q => ?_)
  refine pk_le (b 1) n (fun q1 => ?_) (fun q1 => ⟨Or.inl rfl, h0 (fun w => by have := w.2.2.1; omega)⟩)
  unfold p_V_placeOfRun
  rw [pl]
  refine ⟨b 1 + 1, s_hr h (by omega) hn (b 1) 0 (by omega) (fun w1 w2 => ?_) (fun w => ?_)⟩
  · refine iF z10 (c_by (k := 2 + 2 * b 1) h (by omega) _ ⟨pk_in p 2 h.1, ?_⟩)
    have hb2 := hb (2 + 2 * b 1) (by omega)
    have hb11 : 1 ≤ b 1 := by
      rcases Nat.eq_zero_or_pos (b 1) with e | e
      · rw [e] at w2
        have : cov b 0 = 0 := rfl
        omega
      · exact e
    have fin : ∀ S, (S = sB (sl σ p) (2 + 2 * b 1)) → ((¬ nI (b (2 + 2 * b 1)) = nI (S % 251) → bz 0 ∧ post 0 σ) ∧ (nI (b (2 + 2 * b 1)) = nI (S % 251) → bz 1 ∧ post 1 σ)) := by
      intro S hS
      have g := pk_eq (x := nI (b (2 + 2 * b 1))) (y := nI (S % 251)) (A := bz 1 ∧ post 1 σ) (B := bz 0 ∧ post 0 σ) (b (2 + 2 * b 1)) (S % 251) (fun e => ⟨Or.inr rfl, h1 ⟨by omega, hb11, q1, fun i hi => w1 i (by omega) hi, w2, by rw [← hS]; exact e.symm⟩⟩) (fun e => ⟨Or.inl rfl, h0 (fun w => e (by rw [hS]; exact w.2.2.2.2.2.symm))⟩)
      exact ⟨g.2, g.1⟩
    have hp2 : p < 2 := h.1
    refine pk_eq p 0 (fun qp => ?_) (fun qp => ?_)
    · have e : sl σ p = σ 11 := funext (fun k => if_pos qp)
      have hl := hb_le h
      rw [e] at hl fin
      exact c_sum (by omega) (fun k hk => hl k (by omega)) _ (fin _ rfl)
    · have e : sl σ p = σ 12 := funext (fun k => if_neg qp)
      have hl := hb_le h
      rw [e] at hl fin
      exact c_sum (by omega) (fun k hk => hl k (by omega)) _ (fin _ rfl)
  · exact iT rfl ⟨Or.inl rfl, h0 (fun u => w ⟨fun j _ hj => u.2.2.2.1 j hj, u.2.2.2.2.1⟩)⟩
/-! the reference's question -/
theorem m_135 {post : Int32 → jS → Prop} {ρ : jS} {p n m c : Nat} {is : Int32} {b : Nat → Nat} (g : Nat → Int32) (hg : ∀ k, k < 140 → g k = nI (b k)) (h : hbM ρ p b) (hm : m ≤ 64) (hn1 : ρ 0 1 = nI n) (hn : n ≤ 64) (hc : c < 2 ^ 31) (h1 : ¬ is = 0 → c = n → sB g (2 + 2 * m) % 251 = b (2 + 2 * m) → post 1 ρ) (h0 : ¬ (¬ is = 0 ∧ c = n ∧ sB g (2 + 2 * m) % 251 = b (2 + 2 * m)) → post 0 ρ) : ∀ d k, k + d = 2 + 2 * m → p_M_isWhole_135 post (nI p) (d + 1) ρ (nI m) (nI c) is (nI (sB g k % 251)) (nI k) := by
  have hl : ∀ k, k < 140 → le9 255 (g k) := fun k hk => ⟨b k, (h.2 k hk).2, hg k hk⟩
  intro d
  induction d with
  | zero =>
    intro k hk
    obtain rfl : k = 2 + 2 * m := by omega
    refine pk_le (2 + 2 * m) (2 + 2 * m) (fun _ => ⟨fun q => ⟨Or.inl rfl, h0 (fun w => w.1 q)⟩, fun q => ?_⟩) (fun q => by omega) pl
    have e1 := pk_eq (x := nI c) (y := ρ 0 1) (A := p_M_at ρ (nI p) (2 + 2 * nI m) (fun r6 σ5 => (¬ nI (sB g (2 + 2 * m) % 251) = r6 → bz 0 ∧ post 0 σ5) ∧ (nI (sB g (2 + 2 * m) % 251) = r6 → bz 1 ∧ post 1 σ5))) (B := bz 0 ∧ post 0 ρ) c n (fun qc => ?_) (fun qc => ⟨Or.inl rfl, h0 (fun w => qc w.2.1)⟩) rfl hn1
    · exact ⟨e1.2, e1.1⟩
    · rw [pl]
      refine r_by h (by omega) _ ?_
      have := (h.2 (2 + 2 * m) (by omega)).2
      have e2 := pk_eq (x := nI (sB g (2 + 2 * m) % 251)) (y := nI (b (2 + 2 * m))) (A := bz 1 ∧ post 1 ρ) (B := bz 0 ∧ post 0 ρ) (sB g (2 + 2 * m) % 251) (b (2 + 2 * m)) (fun e => ⟨Or.inr rfl, h1 q qc e⟩) (fun e => ⟨Or.inl rfl, h0 (fun w => e w.2.2)⟩)
      exact ⟨e2.2, e2.1⟩
  | succ d ih =>
    intro k hk
    refine pk_le (2 + 2 * m) k (fun q => by omega) (fun _ => r_by h (by omega) _ ?_) pl
    have hb := (h.2 k (by omega)).2
    have bs := sB_le (g := g) k (by omega) (fun i hi => hl i (by omega))
    have b2 : b k * (k + 1) ≤ 255 * 140 := Nat.mul_le_mul hb (by omega)
    rw [nI_1, pk_mul, sum_go (by omega) (by omega)]
    have e : sB g k + b k * (k + 1) = sB g (k + 1) := by
      show _ = sB g k + (g k).toNatClampNeg * (k + 1)
      rw [hg k (by omega), cl (by omega)]
    rw [e]
    exact ih (k + 1) (by omega)
theorem m_42 {post : Int32 → jS → Prop} {ρ : jS} {p n m : Nat} {b : Nat → Nat} (g : Nat → Int32) (hg : ∀ k, k < 140 → g k = nI (b k)) (h : hbM ρ p b) (hm : m ≤ 64) (hn1 : ρ 0 1 = nI n) (hn : n ≤ 64) (h1 : (∀ i, i < m → okR b i) → cov b m = n → sB g (2 + 2 * m) % 251 = b (2 + 2 * m) → post 1 ρ) (h0 : ¬ ((∀ i, i < m → okR b i) ∧ cov b m = n ∧ sB g (2 + 2 * m) % 251 = b (2 + 2 * m)) → post 0 ρ) : ∀ d i is, i + d = m → ((is = 1 ∧ ∀ j, j < i → okR b j) ∨ (is = 0 ∧ ∃ j, j < i ∧ ¬ okR b j)) → p_M_isWhole_42 post (nI p) (d + 1) ρ (nI m) (nI (cov b i)) is (nI i) := by
  have hb : ∀ k, k < 140 → b k ≤ 255 := fun k hk => (h.2 k hk).2
  intro d
  induction d with
  | zero =>
    intro i is hi his
    obtain rfl : i = m := by omega
    have := cov_le hb i hm
    refine pk_le i i (fun _ => ⟨2 + 2 * i + 1, m_135 g hg h hm hn1 hn (by omega) (fun q1 q2 q3 => ?_) (fun q => ?_) (2 + 2 * i) 0 (by omega)⟩) (fun q => by omega)
    · rcases his with ⟨rfl, w⟩ | ⟨rfl, w⟩
      · exact h1 w q2 q3
      · exact absurd rfl q1
    · rcases his with ⟨rfl, w⟩ | ⟨rfl, j, hj, w⟩
      · exact h0 (fun u => q ⟨z10, u.2⟩)
      · exact h0 (fun u => w (u.1 j hj))
  | succ d ih =>
    intro i is hi his
    refine pk_le m i (fun q => by omega) (fun _ => ?_)
    rw [pl, pl3]
    refine r_by h (by omega) _ (r_by h (by omega) _ ?_)
    have hb2 := hb (2 + 2 * i) (by omega)
    have hb3 := hb (3 + 2 * i) (by omega)
    have bad : (∃ j, j < i + 1 ∧ ¬ okR b j) → p_M_isWhole_115 post (p_M_isWhole_42 post (nI p) (d + 1)) (nI p) ρ (nI m) (nI (cov b i)) (nI i) (nI (b (2 + 2 * i))) := by
      intro w
      show p_M_isWhole_42 post (nI p) (d + 1) ρ (nI m) (nI (cov b i) + nI (b (2 + 2 * i))) 0 (nI i + 1)
      rw [nI_1, nI_add]
      exact ih (i + 1) 0 (by omega) (Or.inr ⟨rfl, w⟩)
    have nok : ¬ okR b i → ∃ j, j < i + 1 ∧ ¬ okR b j := fun w => ⟨i, by omega, w⟩
    rcases his with ⟨rfl, hw⟩ | ⟨rfl, j, hj, hw⟩
    · have good : okR b i → p_M_isWhole_111 post (p_M_isWhole_42 post (nI p) (d + 1)) (nI p) ρ (nI m) (nI (cov b i)) (nI i) (nI (b (2 + 2 * i))) := by
        intro w
        show p_M_isWhole_42 post (nI p) (d + 1) ρ (nI m) (nI (cov b i) + nI (b (2 + 2 * i))) 1 (nI i + 1)
        rw [nI_1, nI_add]
        refine ih (i + 1) 1 (by omega) (Or.inl ⟨rfl, fun j hj => ?_⟩)
        by_cases qj : j = i
        · exact qj ▸ w
        · exact hw j (by omega)
      refine iF z10 (pk_le (b (2 + 2 * i)) 0 (fun q => bad (nok (fun w => w.1 (by omega)))) (fun q => pk_lt 4 (b (3 + 2 * i)) (fun q2 => bad (nok (fun w => by have := w.2.1; omega))) (fun q2 => ?_)))
      refine pk_eq i 0 (fun q3 => good ⟨by omega, q2, Or.inl q3⟩) (fun q3 => ?_)
      rw [pl1]
      have hb1 := hb (1 + 2 * i) (by omega)
      refine r_by h (by omega) _ (pk_eq (b (3 + 2 * i)) (b (1 + 2 * i)) (fun w => bad (nok (fun u => u.2.2.elim q3 (fun z => z w)))) (fun w => good ⟨by omega, q2, Or.inr w⟩))
    · exact iT rfl (bad ⟨j, by omega, hw⟩)
theorem r_iw {post : Int32 → jS → Prop} {ρ : jS} {p n : Nat} {b : Nat → Nat} (g : Nat → Int32) (hg : ∀ k, k < 140 → g k = nI (b k)) (h : hbM ρ p b) (hn1 : ρ 0 1 = nI n) (hn : n ≤ 64) (h1 : wH b n (sB g (2 + 2 * b 1) % 251) → post 1 ρ) (h0 : ¬ wH b n (sB g (2 + 2 * b 1) % 251) → post 0 ρ) : p_M_isWhole ρ (nI p) post := by
  have hb : ∀ k, k < 140 → b k ≤ 255 := fun k hk => (h.2 k hk).2
  have b0 := hb 0 (by omega)
  have b1 := hb 1 (by omega)
  refine r_by (k := 1) h (by omega) _ (r_by (k := 0) h (by omega) _ ?_)
  refine pk_lt 199 (b 0) (fun q => ⟨Or.inl rfl, h0 (fun w => by have := w.1; omega)⟩) (fun q => ?_)
  refine pk_lt (b 1) 1 (fun q1 => ⟨Or.inl rfl, h0 (fun w => by have := w.2.1; omega)⟩) (fun q1 => ?_)
  refine pk_le (b 1) n (fun q2 => ⟨b 1 + 1, ?_⟩) (fun q2 => ⟨Or.inl rfl, h0 (fun w => by have := w.2.2.1; omega)⟩) rfl hn1
  exact m_42 g hg h (by omega) hn1 hn (fun u1 u2 u3 => h1 ⟨q, q1, q2, u1, u2, u3⟩) (fun u => h0 (fun w => u ⟨w.2.2.2.1, w.2.2.2.2.1, w.2.2.2.2.2⟩)) (b 1) 0 1 (by omega) (Or.inl ⟨rfl, fun j hj => by omega⟩)

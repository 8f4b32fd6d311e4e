/-! ways through, and the numbers of both sides told by functions of Nat -/
theorem iT {c A B : Prop} (h : c) (a : A) : (c → A) ∧ (¬ c → B) := ⟨fun _ => a, fun q => absurd h q⟩
theorem iF {c A B : Prop} (h : ¬ c) (b : B) : (c → A) ∧ (¬ c → B) := ⟨fun q => absurd q h, fun _ => b⟩
theorem jT {c A B : Prop} (h : c) (a : A) : (¬ c → B) ∧ (c → A) := ⟨fun q => absurd h q, fun _ => a⟩
theorem jF {c A B : Prop} (h : ¬ c) (b : B) : (¬ c → B) ∧ (c → A) := ⟨fun _ => b, fun q => absurd q h⟩
abbrev Rn (P : (Int32 → jS → Prop) → Prop) (r : Int32) (σ : jS) : Prop := ∀ post : Int32 → jS → Prop, post r σ → P post
abbrev Rv (P : (jS → Prop) → Prop) (σ : jS) : Prop := ∀ post : jS → Prop, post σ → P post
/-- an array laid anew -/
def stA (σ : jS) (i : Nat) (g : Nat → Int32) : jS := fun a => if a = i then g else σ a
theorem stA_up2 (σ : jS) (i j : Nat) (v : Int32) (g : Nat → Int32) : stA (up2 σ i j v) i g = stA σ i g := by
  funext a
  by_cases h : a = i <;> simp [stA, up2, h]
theorem stA_self (σ : jS) (i : Nat) : stA σ i (σ i) = σ := by
  funext a
  by_cases h : a = i <;> simp [stA, h]
theorem up2_up2 (σ : jS) (i j : Nat) (v w : Int32) : up2 (up2 σ i j v) i j w = up2 σ i j w := by
  funext a b
  by_cases h : a = i
  · by_cases h2 : b = j <;> simp [up2, h, h2]
  · simp [up2, h]
theorem up2_id {σ : jS} {i j : Nat} {v : Int32} (h : σ i j = v) : up2 σ i j v = σ := by
  funext a b
  by_cases q : a = i
  · subst q
    by_cases h2 : b = j
    · subst h2; simp [up2, h]
    · simp [up2, h2]
  · simp [up2, q]
/-- places a to b marked; places a to b copied -/
def mk (f : Nat → Int32) (a b : Nat) (v : Int32) : Nat → Int32 := fun k => if a ≤ k ∧ k < b then v else f k
def cpw (w t : Nat → Int32) (a b : Nat) : Nat → Int32 := fun k => if a ≤ k ∧ k < b then w k else t k
theorem mk_nil {f : Nat → Int32} {a b : Nat} {v : Int32} (h : b ≤ a) : mk f a b v = f := by
  funext k
  exact if_neg (by omega)
theorem cpw_nil {w f : Nat → Int32} {a b : Nat} (h : b ≤ a) : cpw w f a b = f := by
  funext k
  exact if_neg (by omega)
theorem mk_in {f : Nat → Int32} {a b k : Nat} {v : Int32} (h : a ≤ k) (h2 : k < b) : mk f a b v k = v := if_pos ⟨h, h2⟩
theorem mk_out {f : Nat → Int32} {a b k : Nat} {v : Int32} (h : k < a ∨ b ≤ k) : mk f a b v k = f k := if_neg (by omega)
theorem mk_step {f : Nat → Int32} {a b : Nat} {v : Int32} (h : a < b) : mk (fun k => if k = a then v else f k) (a + 1) b v = mk f a b v := by
  funext k
  by_cases h1 : k = a
  · rw [mk_out (by omega), mk_in (by omega) (by omega)]; exact if_pos h1
  · by_cases h2 : a + 1 ≤ k ∧ k < b
    · rw [mk_in h2.1 h2.2, mk_in (by omega) h2.2]
    · rw [mk_out (by omega), mk_out (by omega)]; exact if_neg h1
theorem cpw_step {w f : Nat → Int32} {a b : Nat} (h : a < b) : cpw w (fun k => if k = a then w a else f k) (a + 1) b = cpw w f a b := by
  funext k
  unfold cpw
  by_cases h1 : k = a
  · subst h1
    rw [if_neg (by omega), if_pos (by omega)]
    exact if_pos rfl
  · by_cases h2 : a + 1 ≤ k ∧ k < b
    · rw [if_pos h2, if_pos (by omega)]
    · rw [if_neg h2, if_neg (by omega)]
      exact if_neg h1
/-- the first of d places from k on where f is v -/
def fF (f : Nat → Int32) (v : Int32) : Nat → Nat → Int32
  | 0, _ => -1
  | d + 1, k => if f k = v then nI k else fF f v d (k + 1)
theorem fF_sp (f : Nat → Int32) (v : Int32) : ∀ d k, (fF f v d k = -1 ∧ ∀ i, k ≤ i → i < k + d → f i ≠ v) ∨ ∃ j, k ≤ j ∧ j < k + d ∧ f j = v ∧ fF f v d k = nI j ∧ ∀ i, k ≤ i → i < j → f i ≠ v := by
  intro d
  induction d with
  | zero => exact fun k => Or.inl ⟨rfl, fun i h1 h2 => by omega⟩
  | succ d ih =>
    intro k
    by_cases h : f k = v
    · exact Or.inr ⟨k, by omega, by omega, h, if_pos h, fun i h1 h2 => by omega⟩
    · have e : fF f v (d + 1) k = fF f v d (k + 1) := if_neg h
      rcases ih (k + 1) with ⟨h1, h2⟩ | ⟨j, h1, h2, h3, h4, h5⟩
      · refine Or.inl ⟨e.trans h1, fun i q1 q2 => ?_⟩
        by_cases q : i = k
        · exact q ▸ h
        · exact h2 i (by omega) (by omega)
      · refine Or.inr ⟨j, by omega, by omega, h3, e.trans h4, fun i q1 q2 => ?_⟩
        by_cases q : i = k
        · exact q ▸ h
        · exact h5 i (by omega) q2
/-- the last below k -/
def lB (f : Nat → Int32) (v : Int32) : Nat → Int32
  | 0 => -1
  | k + 1 => if f k = v then nI k else lB f v k
theorem lB_sp (f : Nat → Int32) (v : Int32) : ∀ k, (lB f v k = -1 ∧ ∀ i, i < k → f i ≠ v) ∨ ∃ j, j < k ∧ f j = v ∧ lB f v k = nI j := by
  intro k
  induction k with
  | zero => exact Or.inl ⟨rfl, fun i h => by omega⟩
  | succ k ih =>
    by_cases h : f k = v
    · exact Or.inr ⟨k, by omega, h, if_pos h⟩
    · have e : lB f v (k + 1) = lB f v k := if_neg h
      rcases ih with ⟨h1, h2⟩ | ⟨j, h1, h2, h3⟩
      · refine Or.inl ⟨e.trans h1, fun i q => ?_⟩
        by_cases q1 : i = k
        · exact q1 ▸ h
        · exact h2 i (by omega)
      · exact Or.inr ⟨j, by omega, h2, e.trans h3⟩
/-- behind the places from k on, d at most, where f is v -/
def eB (f : Nat → Int32) (v : Int32) : Nat → Nat → Nat
  | 0, k => k
  | d + 1, k => if f k = v then eB f v d (k + 1) else k
theorem eB_sp (f : Nat → Int32) (v : Int32) : ∀ d k, k ≤ eB f v d k ∧ eB f v d k ≤ k + d ∧ (∀ i, k ≤ i → i < eB f v d k → f i = v) ∧ (eB f v d k < k + d → f (eB f v d k) ≠ v) := by
  intro d
  induction d with
  | zero => exact fun k => ⟨Nat.le_refl k, Nat.le_refl k, fun i h1 h2 => absurd h2 (Nat.not_lt.mpr h1), fun h => absurd h (Nat.lt_irrefl k)⟩
  | succ d ih =>
    intro k
    by_cases h : f k = v
    · have e : eB f v (d + 1) k = eB f v d (k + 1) := if_pos h
      obtain ⟨h1, h2, h3, h4⟩ := ih (k + 1)
      rw [e]
      refine ⟨by omega, by omega, fun i q1 q2 => ?_, fun q => h4 (by omega)⟩
      by_cases q : i = k
      · exact q ▸ h
      · exact h3 i (by omega) q2
    · have e : eB f v (d + 1) k = k := if_neg h
      rw [e]
      exact ⟨by omega, by omega, fun i q1 q2 => by omega, fun _ => h⟩
/-- the first of the places down to k, d steps at most, where f is v -/
def fS (f : Nat → Int32) (v : Int32) : Nat → Nat → Nat
  | 0, k => k
  | _ + 1, 0 => 0
  | d + 1, k + 1 => if f k = v then fS f v d k else k + 1
theorem fS_sp (f : Nat → Int32) (v : Int32) : ∀ d k, fS f v d k ≤ k ∧ k ≤ fS f v d k + d := by
  intro d
  induction d with
  | zero => exact fun k => ⟨Nat.le_refl k, Nat.le_refl k⟩
  | succ d ih =>
    intro k
    cases k with
    | zero => exact ⟨Nat.le_refl 0, Nat.zero_le _⟩
    | succ k =>
      by_cases h : f k = v
      · have e : fS f v (d + 1) (k + 1) = fS f v d k := if_pos h
        have := ih k
        rw [e]
        omega
      · have e : fS f v (d + 1) (k + 1) = k + 1 := if_neg h
        rw [e]
        omega
/-- what a reading leaves of the failures and of the reads -/
def fL (f : Nat → Int32) (j b : Nat) : Nat → Int32 := fun k => if k = j ∧ j < b then (if f k = -1 then -1 else f k - 1) else f k
def rds (f : Nat → Int32) (a j b : Nat) : Nat → Int32 := fun k => if a ≤ k ∧ k ≤ j ∧ k < b then f k + 1 else f k
theorem rds_nil {f : Nat → Int32} {a j b : Nat} (h : b ≤ a) : rds f a j b = f := by
  funext k
  exact if_neg (by omega)
theorem rds_step {f : Nat → Int32} {a j b : Nat} (h : a < b) (h2 : a < j) : rds (fun k => if k = a then f a + 1 else f k) (a + 1) j b = rds f a j b := by
  funext k
  unfold rds
  by_cases h1 : k = a
  · subst h1
    rw [if_neg (by omega), if_pos (by omega)]
    exact if_pos rfl
  · by_cases h2 : a + 1 ≤ k ∧ k ≤ j ∧ k < b
    · rw [if_pos h2, if_pos (by omega)]
      exact congrArg (· + 1) (if_neg h1)
    · rw [if_neg h2, if_neg (by omega)]
      exact if_neg h1
theorem rds_one {f : Nat → Int32} {a b : Nat} (h : a < b) : rds f a a b = fun k => if k = a then f a + 1 else f k := by
  funext k
  unfold rds
  by_cases h1 : k = a
  · subst h1
    rw [if_pos (by omega), if_pos rfl]
  · rw [if_neg (by omega), if_neg h1]
/-- where a count of places starts, whatever the position -/
theorem ps0 (x : Int32) : (if 0 < x then x else 0) = nI x.toInt.toNat := by
  by_cases h : (0 : Int32) < x
  · rw [if_pos h]
    obtain ⟨j, hj, rfl⟩ := nI_of (x := x) (fun q => (Int32.lt_irrefl (Int32.lt_trans h q)).elim)
    rw [nI_toInt hj]
    rfl
  · rw [if_neg h]
    have : x.toInt ≤ 0 := by
      rw [Int32.lt_iff_toInt_lt, show (0 : Int32).toInt = 0 from by decide] at h
      omega
    rw [show x.toInt.toNat = 0 from by omega]
    rfl

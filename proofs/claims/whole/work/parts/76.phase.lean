/-! the phases, one by one: the class's readIn beside the reference's find and work -/
theorem n8 {x c : Int32} {k : Nat} (h : x = nI k) (hc : nI k ≠ c) : ¬ x = c := fun e => hc (h ▸ e)
theorem y8 {x c : Int32} {k : Nat} (h : x = nI k) (hc : nI k = c) : x = c := h.trans hc
/-- the reference's state behind a reading and its marks -/
def mWk (σ : jS) (a b j : Nat) (st : Int32) : jS := stA (mRd σ a b j) 5 (mk (σ 5) a b (if j < b then st else 4))
theorem mWk_0 {σ : jS} {a b j : Nat} {st : Int32} (z : j < b) : mWk σ a b j st = stA (mRd σ a b j) 5 (mk ((mRd σ a b j) 5) a b st) := by
  unfold mWk
  rw [if_pos z, show (mRd σ a b j) 5 = σ 5 from if_pos z]
theorem mWk_1 {σ : jS} {a b j : Nat} {st : Int32} (z : ¬ j < b) : mWk σ a b j st = mRd σ a b j := by
  unfold mWk
  rw [if_neg z]
  have e : (mRd σ a b j) 5 = mk (σ 5) a b 4 := if_neg z
  rw [← e, stA_self]
theorem fL_ok {f : Nat → Int32} (h : ∀ k, f k = -1 ∨ le9 9 (f k)) (j b : Nat) : ∀ k, fL f j b k = -1 ∨ le9 9 (fL f j b k) := by
  intro k
  unfold fL
  by_cases q : k = j ∧ j < b
  · rw [if_pos q]
    by_cases q1 : f k = -1
    · rw [if_pos q1]; exact Or.inl rfl
    · rw [if_neg q1]
      obtain ⟨i, hi, e⟩ := (h k).resolve_left q1
      rw [e]
      cases i with
      | zero => exact Or.inl (by decide)
      | succ i => rw [nI_pred]; exact Or.inr ⟨i, by omega, rfl⟩
  · rw [if_neg q]
    exact h k
theorem mk_ok {f : Nat → Int32} {m : Nat} {v : Int32} (h : ∀ k, le9 m (f k)) (hv : le9 m v) (a b : Nat) : ∀ k, le9 m (mk f a b v k) := by
  intro k
  unfold mk
  by_cases q : a ≤ k ∧ k < b
  · rw [if_pos q]; exact hv
  · rw [if_neg q]; exact h k
theorem rB_wk {n a b j : Nat} {σ ρ : jS} {st : Int32} (h : rB n σ ρ) (hn : n ≤ 64) (hb : b ≤ n) (hst : le9 4 st) : rB n (cRs σ a b j st) (mWk ρ a b j st) := by
  obtain ⟨⟨a1, a2, a3, a4, a5, a6, a7, a8, a9⟩, hS, h9, h9b, h61, h7, h74, h7t⟩ := h
  have hv : le9 4 (if j < b then st else 4) := by
    by_cases z : j < b
    · rw [if_pos z]; exact hst
    · rw [if_neg z]; exact ⟨4, by decide, rfl⟩
  refine ⟨⟨a1, a2, a3, ?_, ?_, ?_, ?_, ?_, fL_ok a9 j b⟩, hS, h9, h9b, h61, ?_, mk_ok h74 hv a b, fun k hk => ⟨?_, ?_⟩⟩
  · show fL (σ 3) j b = fL (ρ 2) j b
    rw [a4]
  · show rds (σ 4) a j b = rds (ρ 3) a j b
    rw [a5]
  · show (if j < b then σ 5 else cpw (σ 2) (σ 5) a b) = (if j < b then ρ 4 else cpw (ρ 1) (ρ 4) a b)
    rw [a6, a3]
  · show σ 1 5 + 1 = ρ 0 6 + 1
    rw [a7]
  · show (if 6 = 6 ∧ j < b then σ 1 6 + 1 else σ 1 6) = (if 7 = 7 ∧ j < b then ρ 0 7 + 1 else ρ 0 7)
    by_cases z : j < b
    · rw [if_pos ⟨rfl, z⟩, if_pos ⟨rfl, z⟩, a8]
    · rw [if_neg (fun q => z q.2), if_neg (fun q => z q.2), a8]
  · show mk (σ 7) a b (if j < b then st else 4) = mk (ρ 5) a b (if j < b then st else 4)
    rw [h7]
  · show mk (σ 7) a b (if j < b then st else 4) k = 0
    rw [mk_out (by omega)]
    exact (h7t k hk).1
  · show mk (ρ 5) a b (if j < b then st else 4) k = 0
    rw [mk_out (by omega)]
    exact (h7t k hk).2
theorem rI_0 {σ : jS} {post : Int32 → jS → Prop} (h : p_K_readForward σ 1 (fun r σ => bz r ∧ post r σ)) : p_K_readIn σ (nI 0) post := ⟨fun _ => h, fun q => absurd q (by decide), fun q => absurd q (by decide), fun q => absurd q (by decide), fun q => absurd q (by decide), fun q => absurd q (by decide), fun q => absurd q (by decide)⟩
theorem rI_1 {σ : jS} {post : Int32 → jS → Prop} (h : p_K_readBackward σ (fun r σ => bz r ∧ post r σ)) : p_K_readIn σ (nI 1) post := ⟨fun q => absurd q (by decide), fun _ => h, fun q => absurd q (by decide), fun q => absurd q (by decide), fun q => absurd q (by decide), fun q => absurd q (by decide), fun q => absurd q (by decide)⟩
theorem rI_2 {σ : jS} {post : Int32 → jS → Prop} (h : p_K_readForward σ 0 (fun r σ => bz r ∧ post r σ)) : p_K_readIn σ (nI 2) post := ⟨fun q => absurd q (by decide), fun q => absurd q (by decide), fun _ => h, fun q => absurd q (by decide), fun q => absurd q (by decide), fun q => absurd q (by decide), fun q => absurd q (by decide)⟩
theorem rI_3 {σ : jS} {post : Int32 → jS → Prop} (h : p_K_trim σ (fun r σ => bz r ∧ post r σ)) : p_K_readIn σ (nI 3) post := ⟨fun q => absurd q (by decide), fun q => absurd q (by decide), fun q => absurd q (by decide), fun _ => h, fun q => absurd q (by decide), fun q => absurd q (by decide), fun q => absurd q (by decide)⟩
theorem rI_4 {σ : jS} {post : Int32 → jS → Prop} (h : p_K_scrape σ (fun r σ => bz r ∧ post r σ)) : p_K_readIn σ (nI 4) post := ⟨fun q => absurd q (by decide), fun q => absurd q (by decide), fun q => absurd q (by decide), fun q => absurd q (by decide), fun _ => h, fun q => absurd q (by decide), fun q => absurd q (by decide)⟩
theorem rI_5 {σ : jS} {post : Int32 → jS → Prop} (h : p_K_retry σ (fun r σ => bz r ∧ post r σ)) : p_K_readIn σ (nI 5) post := ⟨fun q => absurd q (by decide), fun q => absurd q (by decide), fun q => absurd q (by decide), fun q => absurd q (by decide), fun q => absurd q (by decide), fun _ => h, fun q => absurd q (by decide)⟩
/-- the reference's work, phase by phase, behind its reading -/
def nl (l : Int32) : Int32 := if l = 32 then 32 else 2 * l
theorem nl_c {l : Int32} (h : l = 8 ∨ l = 16 ∨ l = 32) : (if 32 < 2 * l then 32 else 2 * l) = nl l := by
  rcases h with rfl | rfl | rfl <;> decide
theorem nl_ok {l : Int32} (h : l = 8 ∨ l = 16 ∨ l = 32) : nl l = 8 ∨ nl l = 16 ∨ nl l = 32 := by
  rcases h with rfl | rfl | rfl <;> decide
theorem w_94 {post : jS → Prop} {X : jS} {r : Int32} {k : Nat} (h8 : X 0 8 = nI k) (hk : k < 2) (hp : post (up2 X 0 12 (if r = 0 then nl (X 0 12) else 8))) : p_M_work_94 post X r := by
  have t : ∀ y, post (up2 X 0 12 y) → p_M_work_132 post X r y := by
    intro y hy
    have d : ∀ c, c < 6 → 2 ≤ c → nI k ≠ nI c := fun c hc h2 e => by
      rw [nI_eq (by omega) (by omega)] at e
      omega
    exact jF (n8 h8 (d 3 (by omega) (by omega))) (jF (n8 h8 (d 4 (by omega) (by omega))) (jF (n8 h8 (d 5 (by omega) (by omega))) hy))
  refine pk_le 2 k (fun h => by omega) (fun _ => ⟨fun q => ⟨fun q1 => ?_, fun q1 => ?_⟩, fun q => ?_⟩) rfl h8
  · rw [if_pos q, show nl (X 0 12) = 2 * X 0 12 from if_neg q1] at hp
    exact t _ hp
  · rw [if_pos q, show nl (X 0 12) = 32 from if_pos q1] at hp
    exact t _ hp
  · rw [if_neg q] at hp
    exact t _ hp
theorem w_0 {post : jS → Prop} {X : jS} {r : Int32} (h8 : X 0 8 = nI 0) (hp : post (up2 (up2 X 0 11 (X 0 16 + (if r = 0 then X 0 12 else 0))) 0 12 (if r = 0 then nl (X 0 12) else 8))) : p_M_work_22 post X r := by
  refine iT (y8 h8 rfl) (jT (y8 h8 rfl) ⟨fun q => ?_, fun q => ?_⟩)
  · rw [if_neg q, if_neg q] at hp
    refine jF (n8 (k := 0) h8 (by decide)) (w_94 (k := 0) h8 (by omega) ?_)
    rw [if_neg q]
    exact hp
  · rw [if_pos q, if_pos q] at hp
    refine jF (n8 (k := 0) h8 (by decide)) (w_94 (k := 0) h8 (by omega) ?_)
    rw [if_pos q]
    exact hp
theorem w_2 {post : jS → Prop} {X : jS} {r : Int32} (h8 : X 0 8 = nI 2) (hp : post (up2 X 0 11 (X 0 16 + 0))) : p_M_work_22 post X r := by
  refine iF (n8 h8 (by decide)) (jT (y8 h8 rfl) (jF (n8 h8 (by decide)) ?_))
  refine jF (n8 (k := 2) h8 (by decide)) (iT ?_ (jF (n8 (k := 2) h8 (by decide)) (jF (n8 (k := 2) h8 (by decide)) (jF (n8 (k := 2) h8 (by decide)) hp))))
  show 2 ≤ X 0 8
  rw [h8]
  decide
theorem w_1 {post : jS → Prop} {X : jS} {r : Int32} (h8 : X 0 8 = nI 1) (hp : post (up2 (up2 X 0 11 (X 0 15 - (if r = 0 then X 0 12 else 0))) 0 12 (if r = 0 then nl (X 0 12) else 8))) : p_M_work_22 post X r := by
  refine iF (n8 h8 (by decide)) (jF (n8 h8 (by decide)) (jT (y8 h8 rfl) ⟨fun q => ?_, fun q => ?_⟩))
  · rw [if_pos q, if_pos q] at hp
    refine w_94 (k := 1) h8 (by omega) ?_
    rw [if_pos q]
    exact hp
  · rw [if_neg q, if_neg q] at hp
    refine w_94 (k := 1) h8 (by omega) ?_
    rw [if_neg q]
    exact hp
/-- phases from 3 on pass to the last three questions -/
theorem w_hi {post : jS → Prop} {X : jS} {r : Int32} {k : Nat} (h8 : X 0 8 = nI k) (h3 : 3 ≤ k) (h5 : k ≤ 5) (hp : p_M_work_135 post X r) : p_M_work_22 post X r := by
  have d : ∀ c, c < 3 → nI k ≠ nI c := fun c hc e => by
    rw [nI_eq (by omega) (by omega)] at e
    omega
  refine iF (n8 h8 (d 0 (by omega))) (jF (n8 h8 (d 2 (by omega))) (jF (n8 h8 (d 1 (by omega))) (iT ?_ hp)))
  show 2 ≤ X 0 8
  rw [h8]
  exact nI_le (a := 2) (by omega) (by omega)
/-- reading and marking for phases below 3 -/
theorem w_lo {post : jS → Prop} {σ : jS} {a b k : Nat} (h8 : σ 0 8 = nI k) (hk : k < 3) (h15 : σ 0 15 = nI a) (h16 : σ 0 16 = nI b) (hf : ∀ i, σ 2 i = -1 ∨ le9 9 (σ 2 i)) (hab : a < b) (hb : b ≤ 64) (hp : p_M_work_22 post (mWk σ a b (eB (σ 2) 0 (b - a) a) 1) (gd (eB (σ 2) 0 (b - a) a) b)) : p_M_work σ post := by
  refine r_rd h15 h16 hf hab hb _ ?_
  generalize eB (σ 2) 0 (b - a) a = j at hp ⊢
  refine pk_le 3 k (fun h => by omega) (fun _ => ?_) rfl h8
  by_cases z : j < b
  · rw [gd_0 z] at hp ⊢
    refine jT rfl ?_
    rw [mWk_0 z] at hp
    exact r_mk (σ := mRd σ a b j) 1 h15 h16 hb (by omega) _ hp
  · rw [gd_1 z] at hp ⊢
    refine jF z10 ?_
    rw [mWk_1 z] at hp
    exact hp
theorem w_mid {post : jS → Prop} {σ : jS} {a b k : Nat} (h8 : σ 0 8 = nI k) (hk : 3 ≤ k) (hk5 : k ≤ 5) (h15 : σ 0 15 = nI a) (h16 : σ 0 16 = nI b) (hf : ∀ i, σ 2 i = -1 ∨ le9 9 (σ 2 i)) (hab : a < b) (hb : b ≤ 64) (hp : p_M_work_135 post (mRd σ a b (eB (σ 2) 0 (b - a) a)) (gd (eB (σ 2) 0 (b - a) a) b)) : p_M_work σ post := by
  refine r_rd h15 h16 hf hab hb _ ?_
  generalize eB (σ 2) 0 (b - a) a = j at hp ⊢
  exact pk_le 3 k (fun _ => w_hi (k := k) h8 hk hk5 hp) (fun h => by omega) rfl h8
/-- the question of a phase: found nothing, or found and worked -/
def Ph (k n : Nat) (σ ρ : jS) : Prop := ∃ r σ1, Rn (p_K_readIn σ (nI k)) r σ1 ∧ ((r = 0 ∧ ∃ ρ1, Rn (p_M_find ρ) 0 ρ1 ∧ rB n σ1 ρ1 ∧ ρ1 0 8 = nI k) ∨ (r = 1 ∧ ∃ ρ1 ρ2, Rn (p_M_find ρ) 1 ρ1 ∧ ρ1 0 8 = nI k ∧ Rv (p_M_work ρ1) ρ2 ∧ jG k n σ1 ρ2))
theorem tl_0 {σ : jS} {r : Int32} (h : r = 0) (hl : σ 8 4 = 8 ∨ σ 8 4 = 16 ∨ σ 8 4 = 32) : Rn (p_K_takeLeap σ r) (σ 8 4) (up2 σ 8 4 (nl (σ 8 4))) := by
  intro post hp
  refine iT h (iT h ?_)
  rw [nl_c hl]
  exact hp
theorem tl_1 {σ : jS} {r : Int32} (h : ¬ r = 0) : Rn (p_K_takeLeap σ r) 0 (up2 σ 8 4 8) := fun _ hp => iF h (iF h hp)
theorem lp_le {l : Int32} (h : l = 8 ∨ l = 16 ∨ l = 32) : ∃ i, i ≤ 32 ∧ l = nI i := by
  rcases h with rfl | rfl | rfl
  · exact ⟨8, by decide, rfl⟩
  · exact ⟨16, by decide, rfl⟩
  · exact ⟨32, by decide, rfl⟩
/-- what the search forward finds, in the reference -/
theorem f15_no {ρ : jS} {n : Nat} (h1 : ρ 0 1 = nI n) (hn : n ≤ 64) (hf : fF (ρ 5) 0 (n - (ρ 0 11).toInt.toNat) (ρ 0 11).toInt.toNat = -1) : Rn (p_M_find_15 · ρ) 0 (up2 (up2 ρ 0 15 (-1)) 0 16 (-1)) := by
  intro post hp
  refine r_ff h1 hn 0 (ρ 0 11) _ ⟨1, ?_⟩
  rw [hf]
  exact iT (by decide) (iT (by decide) ⟨Or.inl rfl, hp⟩)
theorem f15_yes {ρ : jS} {n s : Nat} (h1 : ρ 0 1 = nI n) (hn : n ≤ 64) (hf : fF (ρ 5) 0 (n - (ρ 0 11).toInt.toNat) (ρ 0 11).toInt.toNat = nI s) (hs : s < n) (h5 : ρ 5 s = 0) : Rn (p_M_find_15 · ρ) 1 (up2 (up2 ρ 0 15 (nI s)) 0 16 (nI (eB (ρ 5) 0 (min n (s + 8) - (s + 1)) (s + 1)))) := by
  intro post hp
  refine r_ff h1 hn 0 (ρ 0 11) _ ⟨min n (s + 8) - s + 1, ?_⟩
  rw [hf]
  refine m_f35 hn hs _ s _ h1 rfl (by omega) rfl ?_
  rw [up2_up2, show min n (s + 8) - s = min n (s + 8) - (s + 1) + 1 from by omega]
  show post 1 (up2 (up2 ρ 0 15 (nI s)) 0 16 (nI (eB (ρ 5) 0 (min n (s + 8) - (s + 1) + 1) s)))
  rw [show eB (ρ 5) 0 (min n (s + 8) - (s + 1) + 1) s = eB (ρ 5) 0 (min n (s + 8) - (s + 1)) (s + 1) from if_pos h5]
  exact hp

/-! one reading, on both sides -/
def gd (j b : Nat) : Int32 := if j < b then 0 else 1
theorem gd_bz (j b : Nat) : bz (gd j b) := by
  unfold gd
  by_cases h : j < b
  · rw [if_pos h]; exact Or.inl rfl
  · rw [if_neg h]; exact Or.inr rfl
theorem gd_0 {j b : Nat} (h : j < b) : gd j b = 0 := if_pos h
theorem gd_1 {j b : Nat} (h : ¬ j < b) : gd j b = 1 := if_neg h
theorem fL_nil {f : Nat → Int32} {j b : Nat} (h : b ≤ j) : fL f j b = f := by
  funext k
  exact if_neg (by omega)
theorem fL_m1 {f : Nat → Int32} {j b : Nat} (h : f j = -1) : fL f j b = f := by
  funext k
  unfold fL
  by_cases q : k = j ∧ j < b
  · rw [if_pos q, q.1, h]
    rfl
  · rw [if_neg q]
theorem fL_dec {f : Nat → Int32} {j b : Nat} (hj : j < b) (h : f j ≠ -1) : fL f j b = fun k => if k = j then f j - 1 else f k := by
  funext k
  unfold fL
  by_cases q : k = j
  · rw [if_pos ⟨q, hj⟩, if_pos q, q, if_neg h]
  · rw [if_neg (fun z => q z.1), if_neg q]
/-- the class's state behind the places read from k on -/
def cRd (σ : jS) (a k b j : Nat) : jS := fun c =>
  if c = 1 then (fun i => if i = 6 ∧ j < b then σ 1 6 + 1 else σ 1 i)
  else if c = 3 then fL (σ 3) j b
  else if c = 4 then rds (σ 4) k j b
  else if c = 5 then (if j < b then σ 5 else cpw (σ 2) (σ 5) a b)
  else σ c
theorem upC_cpw (σ : jS) (a b : Nat) (h : a ≤ b) : va_cpy (σ 2) (σ 5) a a (b - a) = cpw (σ 2) (σ 5) a b := by
  funext k
  unfold cpw
  by_cases q : a ≤ k ∧ k < b
  · rw [if_pos q, pk_cpy_in q.1 (by omega), show a + (k - a) = k from by omega]
  · rw [if_neg q, pk_cpy_out (by omega)]
theorem cRd_end (σ : jS) (a b : Nat) (h : a ≤ b) : upC σ 5 2 a a (b - a) = cRd σ a b b b := by
  funext c
  by_cases h5 : c = 5
  · subst h5
    show va_cpy (σ 2) (σ 5) a a (b - a) = if b < b then σ 5 else cpw (σ 2) (σ 5) a b
    rw [if_neg (by omega), upC_cpw σ a b h]
  · by_cases h1 : c = 1
    · subst h1
      show σ 1 = fun i => if i = 6 ∧ b < b then σ 1 6 + 1 else σ 1 i
      funext i
      rw [if_neg (by omega)]
    · by_cases h3 : c = 3
      · subst h3
        show σ 3 = fL (σ 3) b b
        rw [fL_nil (by omega)]
      · by_cases h4 : c = 4
        · subst h4
          show σ 4 = rds (σ 4) b b b
          rw [rds_nil (by omega)]
        · simp [upC, cRd, h1, h3, h4, h5]
theorem cRd_go (σ : jS) {a k b j : Nat} (h : k < b) (hj : k < j) : cRd (up2 σ 4 k (σ 4 k + 1)) a (k + 1) b j = cRd σ a k b j := by
  funext c
  by_cases h4 : c = 4
  · subst h4
    show rds (fun i => if i = k then σ 4 k + 1 else σ 4 i) (k + 1) j b = rds (σ 4) k j b
    exact rds_step h hj
  · by_cases h1 : c = 1
    · subst h1; rfl
    · by_cases h3 : c = 3
      · subst h3; rfl
      · by_cases h5 : c = 5
        · subst h5; rfl
        · simp [up2, cRd, h1, h3, h4, h5]
theorem cRd_m1 (σ : jS) {a k b : Nat} (h : k < b) (hf : σ 3 k = -1) : up2 (up2 σ 4 k (σ 4 k + 1)) 1 6 (σ 1 6 + 1) = cRd σ a k b k := by
  funext c
  by_cases h4 : c = 4
  · subst h4
    exact (rds_one h).symm
  · by_cases h1 : c = 1
    · subst h1
      funext i
      show (if i = 6 then σ 1 6 + 1 else σ 1 i) = if i = 6 ∧ k < b then σ 1 6 + 1 else σ 1 i
      by_cases h6 : i = 6
      · rw [if_pos h6, if_pos ⟨h6, h⟩]
      · rw [if_neg h6, if_neg (fun z => h6 z.1)]
    · by_cases h3 : c = 3
      · subst h3
        exact (fL_m1 hf).symm
      · by_cases h5 : c = 5
        · subst h5
          exact (if_pos h).symm
        · simp [up2, cRd, h1, h3, h4, h5]
theorem cRd_dec (σ : jS) {a k b : Nat} (h : k < b) (hf : σ 3 k ≠ -1) : up2 (up2 (up2 σ 4 k (σ 4 k + 1)) 3 k (σ 3 k - 1)) 1 6 (σ 1 6 + 1) = cRd σ a k b k := by
  funext c
  by_cases h4 : c = 4
  · subst h4
    exact (rds_one h).symm
  · by_cases h1 : c = 1
    · subst h1
      funext i
      show (if i = 6 then σ 1 6 + 1 else σ 1 i) = if i = 6 ∧ k < b then σ 1 6 + 1 else σ 1 i
      by_cases h6 : i = 6
      · rw [if_pos h6, if_pos ⟨h6, h⟩]
      · rw [if_neg h6, if_neg (fun z => h6 z.1)]
    · by_cases h3 : c = 3
      · subst h3
        exact (fL_dec h hf).symm
      · by_cases h5 : c = 5
        · subst h5
          exact (if_pos h).symm
        · simp [up2, cRd, h1, h3, h4, h5]
theorem s_rd {post : Int32 → jS → Prop} {a b j : Nat} (hb : b ≤ 64) (hab : a ≤ b) : ∀ d k σ, k + d = b → eB (σ 3) 0 d k = j → post (gd j b) (cRd σ a k b j) → p_D_readStretch_31 post (nI a) (nI b) (d + 1) σ (nI k) := by
  intro d
  induction d with
  | zero =>
    intro k σ h hj hp
    have e1 : k = b := by omega
    have e2 : j = b := by rw [← hj]; exact e1
    subst e1
    subst e2
    rw [gd_1 (by omega), ← cRd_end σ a _ hab] at hp
    refine pk_le j j (fun _ => ⟨⟨nI_pos (by omega), nI_pos (by omega), ?_, ?_, ?_⟩, Or.inr rfl, ?_⟩) (fun h => by omega)
    · rw [pk_sub hab]; exact nI_pos (by omega)
    · rw [pk_sub hab, cl (by omega), cl (by omega)]; omega
    · rw [pk_sub hab, cl (by omega), cl (by omega)]; omega
    · rw [pk_sub hab, cl (by omega), cl (by omega)]; exact hp
  | succ d ih =>
    intro k σ h hj hp
    refine pk_le b k (fun h => by omega) (fun _ => ⟨pk_in k 64 (by omega), pk_in k 64 (by omega), pk_in k 64 (by omega), ?_⟩)
    rw [cl (by omega)]
    show (σ 3 k = 0 → _) ∧ (¬ σ 3 k = 0 → _ ∧ (σ 3 k = -1 → _) ∧ (¬ σ 3 k = -1 → _))
    refine ⟨fun q => ?_, fun q => ⟨pk_in k 64 (by omega), fun q1 => ⟨Or.inl rfl, ?_⟩, fun q1 => ⟨pk_in k 64 (by omega), pk_in k 64 (by omega), Or.inl rfl, ?_⟩⟩⟩
    · have e : eB (σ 3) 0 (d + 1) k = eB (σ 3) 0 d (k + 1) := if_pos q
      rw [e] at hj
      have hk := (eB_sp (σ 3) 0 d (k + 1)).1
      rw [nI_1]
      refine ih (k + 1) _ (by omega) hj ?_
      rw [cRd_go σ (by omega) (by omega)]
      exact hp
    · have e : eB (σ 3) 0 (d + 1) k = k := if_neg q
      rw [e] at hj
      subst hj
      rw [gd_0 (by omega), ← cRd_m1 σ (by omega) q1] at hp
      exact hp
    · have e : eB (σ 3) 0 (d + 1) k = k := if_neg q
      rw [e] at hj
      subst hj
      rw [gd_0 (by omega), ← cRd_dec σ (by omega) q1] at hp
      exact hp
/-- the class's state behind a rescue -/
def cRs (σ : jS) (a b j : Nat) (st : Int32) : jS := fun c =>
  if c = 1 then (fun i => if i = 6 ∧ j < b then σ 1 6 + 1 else if i = 5 then σ 1 5 + 1 else σ 1 i)
  else if c = 3 then fL (σ 3) j b
  else if c = 4 then rds (σ 4) a j b
  else if c = 5 then (if j < b then σ 5 else cpw (σ 2) (σ 5) a b)
  else if c = 7 then mk (σ 7) a b (if j < b then st else 4)
  else σ c
theorem cRs_eq (σ : jS) (a b j : Nat) (st : Int32) : stA (cRd (up2 σ 1 5 (σ 1 5 + 1)) a a b j) 7 (mk (σ 7) a b (if j < b then st else 4)) = cRs σ a b j st := by
  funext c
  by_cases h7 : c = 7
  · subst h7; rfl
  · by_cases h1 : c = 1
    · subst h1; rfl
    · by_cases h3 : c = 3
      · subst h3; rfl
      · by_cases h4 : c = 4
        · subst h4; rfl
        · by_cases h5 : c = 5
          · subst h5; rfl
          · simp [stA, up2, cRd, cRs, h1, h3, h4, h5, h7]
theorem c_rs {σ : jS} {n a b : Nat} (st : Int32) (h4 : σ 1 4 = nI n) (h6 : σ 6 1 = nI n) (hn : n ≤ 64) (hab : a < b) (hb : b ≤ n) : Rn (p_K_rescue σ (nI a) (nI b) st) (gd (eB (σ 3) 0 (b - a) a) b) (cRs σ a b (eB (σ 3) 0 (b - a) a) st) := by
  intro post hp
  refine iF (nI_pos (by omega)) (pk_le b a (fun h => by omega) (fun _ => pk_le b n (fun _ => ⟨b - a + 1, ?_⟩) (fun h => by omega) rfl h4))
  refine s_rd (j := eB (σ 3) 0 (b - a) a) (by omega) (by omega) (b - a) a _ (by omega) rfl ?_
  rw [← cRs_eq] at hp
  refine ⟨fun q => ?_, fun q => ?_⟩
  · have hj : eB (σ 3) 0 (b - a) a < b := by
      by_cases z : eB (σ 3) 0 (b - a) a < b
      · exact z
      · rw [gd_1 z] at q; exact absurd q z10
    rw [if_pos hj] at hp
    unfold p_K_rescue_27
    exact c_mk (σ := cRd (up2 σ 1 5 (σ 1 5 + 1)) a a b (eB (σ 3) 0 (b - a) a)) st h6 hn hb (by omega) _ ⟨gd_bz _ _, hp⟩
  · have hj : ¬ eB (σ 3) 0 (b - a) a < b := fun z => q (gd_0 z)
    rw [if_neg hj] at hp
    unfold p_K_rescue_27
    exact c_mk (σ := cRd (up2 σ 1 5 (σ 1 5 + 1)) a a b (eB (σ 3) 0 (b - a) a)) 4 h6 hn hb (by omega) _ ⟨gd_bz _ _, hp⟩
/-- the reference's state behind a reading -/
def mRd (σ : jS) (a b j : Nat) : jS := fun c =>
  if c = 0 then (fun i => if i = 7 ∧ j < b then σ 0 7 + 1 else if i = 6 then σ 0 6 + 1 else σ 0 i)
  else if c = 2 then fL (σ 2) j b
  else if c = 3 then rds (σ 3) a j b
  else if c = 4 then (if j < b then σ 4 else cpw (σ 1) (σ 4) a b)
  else if c = 5 then (if j < b then σ 5 else mk (σ 5) a b 4)
  else σ c
theorem m_cp {post : Int32 → jS → Prop} {b : Nat} (hb : b ≤ 64) : ∀ d k σ, σ 0 16 = nI b → k + d = b → post 1 (stA (stA σ 4 (cpw (σ 1) (σ 4) k b)) 5 (mk (σ 5) k b 4)) → p_M_reading_84 post (d + 1) σ 1 (nI k) := by
  intro d
  induction d with
  | zero =>
    intro k σ h16 h hp
    rw [cpw_nil (by omega), mk_nil (by omega), stA_self, show stA σ 5 (σ 5) = σ from stA_self σ 5] at hp
    exact pk_le b k (fun _ => jF z10 ⟨Or.inr rfl, hp⟩ ) (fun h => by omega) h16
  | succ d ih =>
    intro k σ h16 h hp
    refine pk_le b k (fun h => by omega) (fun _ => iF z10 ⟨pk_in k 64 (by omega), pk_in k 64 (by omega), pk_in k 64 (by omega), ?_⟩) h16
    rw [nI_1, cl (by omega)]
    refine ih (k + 1) _ h16 (by omega) ?_
    have e : stA (stA (up2 (up2 σ 4 k (σ 1 k)) 5 k 4) 4 (cpw (σ 1) (fun i => if i = k then σ 1 k else σ 4 i) (k + 1) b)) 5 (mk (fun i => if i = k then 4 else σ 5 i) (k + 1) b 4) = stA (stA σ 4 (cpw (σ 1) (σ 4) k b)) 5 (mk (σ 5) k b 4) := by
      rw [cpw_step (by omega), mk_step (by omega)]
      funext c
      by_cases h5 : c = 5
      · simp [stA, h5]
      · by_cases h4 : c = 4
        · simp [stA, h4]
        · simp [stA, up2, h4, h5]
    rw [← e] at hp
    exact hp
theorem dec_eq {x : Int32} (h : x = -1 ∨ le9 9 x) : (x ≤ 0 → x = -1 ∨ x = 0) ∧ (¬ x ≤ 0 → x ≠ -1) := by
  rcases h with rfl | ⟨j, hj, rfl⟩
  · exact ⟨fun _ => Or.inl rfl, fun q => absurd (by decide) q⟩
  · refine ⟨fun q => Or.inr ?_, fun q => fun e => ?_⟩
    · rw [show (0 : Int32) = nI 0 from rfl, nI_leI (by omega) (by omega)] at q
      rw [show j = 0 from by omega]
      rfl
    · have := nI_pos (n := j) (by omega)
      rw [e] at this
      exact this (by decide)
theorem m_rd {post : Int32 → jS → Prop} {b j : Nat} (hb : b ≤ 64) : ∀ d k σ, σ 0 16 = nI b → (∀ i, σ 2 i = -1 ∨ le9 9 (σ 2 i)) → k + d = b → eB (σ 2) 0 d k = j → p_M_reading_79 post (stA (stA σ 3 (rds (σ 3) k j b)) 2 (fL (σ 2) j b)) (gd j b) → p_M_reading_17 post (d + 1) σ 1 (nI k) := by
  intro d
  induction d with
  | zero =>
    intro k σ h16 hf h hj hp
    have e1 : k = b := by omega
    have e2 : j = b := by rw [← hj]; exact e1
    subst e1
    subst e2
    rw [gd_1 (by omega), fL_nil (by omega), rds_nil (by omega), stA_self, show stA σ 2 (σ 2) = σ from stA_self σ 2] at hp
    exact pk_le j j (fun _ => hp) (fun h => by omega) h16
  | succ d ih =>
    intro k σ h16 hf h hj hp
    refine pk_le b k (fun h => by omega) (fun _ => iF z10 ⟨pk_in k 64 (by omega), pk_in k 64 (by omega), pk_in k 64 (by omega), ?_⟩) h16
    rw [cl (by omega)]
    show (¬ σ 2 k = 0 → vp_in (nI k) 64 ∧ _) ∧ (σ 2 k = 0 → vp_in (nI k) 64 ∧ _)
    refine ⟨fun q => ⟨pk_in k 64 (by omega), ?_⟩, fun q => ⟨pk_in k 64 (by omega), ?_⟩⟩
    · have e : eB (σ 2) 0 (d + 1) k = k := if_neg q
      rw [e] at hj
      subst hj
      rw [gd_0 (by omega), rds_one (by omega)] at hp
      rw [cl (by omega)]
      show (σ 2 k ≤ 0 → _) ∧ (¬ σ 2 k ≤ 0 → vp_in (nI k) 64 ∧ vp_in (nI k) 64 ∧ _)
      refine ⟨fun q1 => ?_, fun q1 => ⟨pk_in k 64 (by omega), pk_in k 64 (by omega), ?_⟩⟩
      · have e1 : σ 2 k = -1 := ((dec_eq (hf k)).1 q1).resolve_right q
        rw [fL_m1 e1] at hp
        have e2 : stA (stA σ 3 (fun i => if i = k then σ 3 k + 1 else σ 3 i)) 2 (σ 2) = up2 σ 3 k (σ 3 k + 1) := by
          funext c
          by_cases h2 : c = 2
          · subst h2; rfl
          · by_cases h3 : c = 3
            · subst h3; rfl
            · simp [stA, up2, h2, h3]
        rw [e2] at hp
        exact ⟨fun _ => hp, fun _ => iT rfl hp⟩
      · have e1 : σ 2 k ≠ -1 := (dec_eq (hf k)).2 q1
        rw [fL_dec (by omega) e1] at hp
        have e2 : stA (stA σ 3 (fun i => if i = k then σ 3 k + 1 else σ 3 i)) 2 (fun i => if i = k then σ 2 k - 1 else σ 2 i) = up2 (up2 σ 3 k (σ 3 k + 1)) 2 k (σ 2 k - 1) := by
          funext c
          by_cases h2 : c = 2
          · subst h2; rfl
          · by_cases h3 : c = 3
            · subst h3; rfl
            · simp [stA, up2, h2, h3]
        rw [e2] at hp
        exact ⟨fun _ => hp, fun _ => iT rfl hp⟩
    · have e : eB (σ 2) 0 (d + 1) k = eB (σ 2) 0 d (k + 1) := if_pos q
      rw [e] at hj
      have hk := (eB_sp (σ 2) 0 d (k + 1)).1
      rw [cl (by omega)]
      show (σ 2 k ≤ 0 → p_M_reading_17 post (d + 1) (up2 σ 3 k (σ 3 k + 1)) 1 (nI k + 1)) ∧ _
      refine iT (by rw [q]; decide) ?_
      rw [nI_1]
      refine ih (k + 1) (up2 σ 3 k (σ 3 k + 1)) h16 hf (by omega) hj ?_
      have e2 : stA (stA (up2 σ 3 k (σ 3 k + 1)) 3 (rds (fun i => if i = k then σ 3 k + 1 else σ 3 i) (k + 1) j b)) 2 (fL (σ 2) j b) = stA (stA σ 3 (rds (σ 3) k j b)) 2 (fL (σ 2) j b) := by
        rw [stA_up2, rds_step (by omega) (by omega)]
      rw [← e2] at hp
      exact hp
theorem r_rd {σ : jS} {a b : Nat} (h15 : σ 0 15 = nI a) (h16 : σ 0 16 = nI b) (hf : ∀ i, σ 2 i = -1 ∨ le9 9 (σ 2 i)) (hab : a < b) (hb : b ≤ 64) : Rn (p_M_reading σ) (gd (eB (σ 2) 0 (b - a) a) b) (mRd σ a b (eB (σ 2) 0 (b - a) a)) := by
  intro post hp
  generalize hj : eB (σ 2) 0 (b - a) a = j at hp ⊢
  refine ⟨b - a + 1, ?_⟩
  show p_M_reading_17 post (b - a + 1) (up2 σ 0 6 (σ 0 6 + 1)) 1 (σ 0 15)
  rw [h15]
  refine m_rd (j := j) hb (b - a) a _ h16 hf (by omega) hj ?_
  by_cases z : j < b
  · rw [gd_0 z] at hp ⊢
    refine ⟨1, ?_⟩
    have e : up2 (stA (stA (up2 σ 0 6 (σ 0 6 + 1)) 3 (rds (σ 3) a j b)) 2 (fL (σ 2) j b)) 0 7 (σ 0 7 + 1) = mRd σ a b j := by
      funext c
      by_cases h0 : c = 0
      · subst h0
        funext i
        show (if i = 7 then σ 0 7 + 1 else if i = 6 then σ 0 6 + 1 else σ 0 i) = if i = 7 ∧ j < b then σ 0 7 + 1 else if i = 6 then σ 0 6 + 1 else σ 0 i
        by_cases h7 : i = 7
        · rw [if_pos h7, if_pos ⟨h7, z⟩]
        · rw [if_neg h7, if_neg (fun q : i = 7 ∧ j < b => h7 q.1)]
      · by_cases h2 : c = 2
        · subst h2; rfl
        · by_cases h3 : c = 3
          · subst h3; rfl
          · by_cases h4 : c = 4
            · subst h4; exact (if_pos z).symm
            · by_cases h5 : c = 5
              · subst h5; exact (if_pos z).symm
              · simp [stA, up2, mRd, h0, h2, h3, h4, h5]
    rw [← e] at hp
    have g : p_M_reading_121 post (stA (stA (up2 σ 0 6 (σ 0 6 + 1)) 3 (rds (σ 3) a j b)) 2 (fL (σ 2) j b)) 0 := jT rfl ⟨Or.inl rfl, hp⟩
    exact ⟨fun _ => g, fun _ => iT rfl g⟩
  · rw [gd_1 z] at hp ⊢
    refine ⟨b - a + 1, ?_⟩
    show p_M_reading_84 post (b - a + 1) (stA (stA (up2 σ 0 6 (σ 0 6 + 1)) 3 (rds (σ 3) a j b)) 2 (fL (σ 2) j b)) 1 (σ 0 15)
    rw [h15]
    refine m_cp hb (b - a) a _ h16 (by omega) ?_
    have e : stA (stA (stA (stA (up2 σ 0 6 (σ 0 6 + 1)) 3 (rds (σ 3) a j b)) 2 (fL (σ 2) j b)) 4 (cpw (σ 1) (σ 4) a b)) 5 (mk (σ 5) a b 4) = mRd σ a b j := by
      funext c
      by_cases h0 : c = 0
      · subst h0
        funext i
        show (if i = 6 then σ 0 6 + 1 else σ 0 i) = if i = 7 ∧ j < b then σ 0 7 + 1 else if i = 6 then σ 0 6 + 1 else σ 0 i
        rw [if_neg (fun q : i = 7 ∧ j < b => z q.2)]
      · by_cases h2 : c = 2
        · subst h2; rfl
        · by_cases h3 : c = 3
          · subst h3; rfl
          · by_cases h4 : c = 4
            · subst h4; exact (if_neg z).symm
            · by_cases h5 : c = 5
              · subst h5; exact (if_neg z).symm
              · simp [stA, up2, mRd, h0, h2, h3, h4, h5]
    rw [← e] at hp
    exact hp

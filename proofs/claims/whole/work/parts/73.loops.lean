/-! the helpers of both sides, each by its function -/
theorem s_ff {post : Int32 → jS → Prop} {st v2 : Int32} {σ : jS} {n : Nat} (h6 : σ 6 1 = nI n) (hn : n ≤ 64) : ∀ d k, n - k = d → k < 2 ^ 31 → post (fF (σ 7) st d k) σ → p_S_firstFrom_6 post st v2 (d + 1) σ (nI k) := by
  intro d
  induction d with
  | zero => exact fun k hd hk hp => pk_le n k (fun _ => hp) (fun h => by omega) h6
  | succ d ih =>
    intro k hd hk hp
    refine pk_le n k (fun h => by omega) (fun h => ⟨pk_in k 64 (by omega), fun q => ?_, fun q => ?_⟩) h6
    · rw [cl (by omega)] at q
      rw [nI_1]
      exact ih (k + 1) (by omega) (by omega) (by rw [show fF (σ 7) st (d + 1) k = fF (σ 7) st d (k + 1) from if_neg q] at hp; exact hp)
    · rw [cl (by omega)] at q
      rw [show fF (σ 7) st (d + 1) k = nI k from if_pos q] at hp
      exact hp
theorem c_ff {σ : jS} {n : Nat} (h6 : σ 6 1 = nI n) (hn : n ≤ 64) (st v2 : Int32) : Rn (p_S_firstFrom σ st v2) (fF (σ 7) st (n - v2.toInt.toNat) v2.toInt.toNat) σ := by
  intro post hp
  refine ⟨n - v2.toInt.toNat + 1, ?_⟩
  rw [ps0]
  exact s_ff h6 hn _ _ rfl (by have := Int32.toInt_lt v2; omega) hp
theorem m_ff {post : Int32 → jS → Prop} {st v2 : Int32} {σ : jS} {n : Nat} (h6 : σ 0 1 = nI n) (hn : n ≤ 64) : ∀ d k, n - k = d → k < 2 ^ 31 → post (fF (σ 5) st d k) σ → p_M_firstIn_10 post st v2 (d + 1) σ (nI k) := by
  intro d
  induction d with
  | zero => exact fun k hd hk hp => pk_le n k (fun _ => hp) (fun h => by omega) h6
  | succ d ih =>
    intro k hd hk hp
    refine pk_le n k (fun h => by omega) (fun h => ⟨pk_in k 64 (by omega), fun q => ?_, fun q => ?_⟩) h6
    · rw [cl (by omega)] at q
      rw [nI_1]
      exact ih (k + 1) (by omega) (by omega) (by rw [show fF (σ 5) st (d + 1) k = fF (σ 5) st d (k + 1) from if_neg q] at hp; exact hp)
    · rw [cl (by omega)] at q
      rw [show fF (σ 5) st (d + 1) k = nI k from if_pos q] at hp
      exact hp
theorem r_ff {σ : jS} {n : Nat} (h6 : σ 0 1 = nI n) (hn : n ≤ 64) (st v2 : Int32) : Rn (p_M_firstIn σ st v2) (fF (σ 5) st (n - v2.toInt.toNat) v2.toInt.toNat) σ := by
  intro post hp
  have e := ps0 v2
  have hk : v2.toInt.toNat < 2 ^ 31 := by have := Int32.toInt_lt v2; omega
  refine ⟨fun q => ⟨n - v2.toInt.toNat + 1, ?_⟩, fun q => ⟨n - v2.toInt.toNat + 1, ?_⟩⟩
  · have e2 : v2 = nI v2.toInt.toNat := by
      rw [← e]
      by_cases h : (0 : Int32) < v2
      · exact (if_pos h).symm
      · rw [if_neg h]
        exact Int32.le_antisymm (Int32.not_lt.mp h) q
    have g := m_ff (post := post) (v2 := v2) (st := st) h6 hn _ _ rfl hk hp
    rw [← e2] at g
    exact g
  · have e2 : (0 : Int32) = nI v2.toInt.toNat := by
      rw [← e]
      exact (if_neg (fun h => q (Int32.le_of_lt h))).symm
    have g := m_ff (post := post) (v2 := v2) (st := st) h6 hn _ _ rfl hk hp
    rw [← e2] at g
    exact g
theorem s_lb {post : Int32 → jS → Prop} {st v2 : Int32} {σ : jS} : ∀ k, k ≤ 64 → post (lB (σ 7) st k) σ → p_S_lastBelow_11 post st v2 (k + 1) σ (nI k - 1) := by
  intro k
  induction k with
  | zero => exact fun _ hp => iT (by decide) hp
  | succ k ih =>
    intro hk hp
    rw [nI_pred]
    refine iF (nI_pos (by omega)) ⟨pk_in k 64 (by omega), fun q => ?_, fun q => ?_⟩
    · rw [cl (by omega)] at q
      rw [show nI k + (-1) = nI k - 1 from by rw [Int32.sub_eq_add_neg]]
      exact ih (by omega) (by rw [show lB (σ 7) st (k + 1) = lB (σ 7) st k from if_neg q] at hp; exact hp)
    · rw [cl (by omega)] at q
      rw [show lB (σ 7) st (k + 1) = nI k from if_pos q] at hp
      exact hp
theorem m_lb {post : Int32 → jS → Prop} {st v2 : Int32} {σ : jS} : ∀ k, k ≤ 64 → post (lB (σ 5) st k) σ → p_M_lastIn_21 post st v2 (k + 1) σ (nI k - 1) := by
  intro k
  induction k with
  | zero => exact fun _ hp => iT (by decide) hp
  | succ k ih =>
    intro hk hp
    rw [nI_pred]
    refine iF (nI_pos (by omega)) ⟨pk_in k 64 (by omega), fun q => ?_, fun q => ?_⟩
    · rw [cl (by omega)] at q
      rw [show nI k + (-1) = nI k - 1 from by rw [Int32.sub_eq_add_neg]]
      exact ih (by omega) (by rw [show lB (σ 5) st (k + 1) = lB (σ 5) st k from if_neg q] at hp; exact hp)
    · rw [cl (by omega)] at q
      rw [show lB (σ 5) st (k + 1) = nI k from if_pos q] at hp
      exact hp
/-- the bound from above -/
def bd (n : Nat) (p : Int32) : Nat := (min p.toInt (n : Int)).toNat
theorem sub1_toInt {p : Int32} (h : -64 ≤ p.toInt) : (p - 1).toInt = p.toInt - 1 := by
  have := Int32.toInt_lt p
  rw [Int32.toInt_sub, show (1 : Int32).toInt = 1 from by decide]
  exact Int.bmod_eq_of_le (by omega) (by omega)
theorem c_lb {σ : jS} {n : Nat} (h6 : σ 6 1 = nI n) (hn : n ≤ 64) (st p : Int32) (hp1 : -64 ≤ p.toInt) : Rn (p_S_lastBelow σ st p) (lB (σ 7) st (bd n p)) σ := by
  intro post hp
  unfold p_S_lastBelow
  rw [h6]
  by_cases h : nI n < p
  · rw [if_pos h]
    rw [Int32.lt_iff_toInt_lt, nI_toInt (by omega)] at h
    rw [show bd n p = n from by unfold bd; omega] at hp
    exact ⟨_, s_lb n hn hp⟩
  · rw [if_neg h]
    rw [Int32.lt_iff_toInt_lt, nI_toInt (by omega)] at h
    by_cases h0 : 0 ≤ p.toInt
    · have e : p = nI (bd n p) := by
        apply Int32.toInt_inj.mp
        rw [nI_toInt (by unfold bd; omega)]
        unfold bd
        omega
      have g := s_lb (post := post) (st := st) (v2 := p) (σ := σ) (bd n p) (by unfold bd; omega) hp
      rw [← e] at g
      exact ⟨_, g⟩
    · rw [show bd n p = 0 from by unfold bd; omega] at hp
      refine ⟨1, iT ?_ hp⟩
      rw [Int32.lt_iff_toInt_lt, sub1_toInt hp1, show (0 : Int32).toInt = 0 from by decide]
      omega
theorem r_lb {σ : jS} {n : Nat} (h6 : σ 0 1 = nI n) (hn : n ≤ 64) (st p : Int32) (hp1 : -64 ≤ p.toInt) : Rn (p_M_lastIn σ st p) (lB (σ 5) st (bd n p)) σ := by
  intro post hp
  unfold p_M_lastIn
  rw [h6]
  refine ⟨fun h => ?_, fun h => ?_⟩
  · rw [Int32.le_iff_toInt_le, nI_toInt (by omega)] at h
    by_cases h0 : 0 ≤ p.toInt
    · have e : p = nI (bd n p) := by
        apply Int32.toInt_inj.mp
        rw [nI_toInt (by unfold bd; omega)]
        unfold bd
        omega
      have g := m_lb (post := post) (st := st) (v2 := p) (σ := σ) (bd n p) (by unfold bd; omega) hp
      rw [← e] at g
      exact ⟨_, g⟩
    · rw [show bd n p = 0 from by unfold bd; omega] at hp
      refine ⟨1, iT ?_ hp⟩
      rw [Int32.lt_iff_toInt_lt, sub1_toInt hp1, show (0 : Int32).toInt = 0 from by decide]
      omega
  · rw [Int32.le_iff_toInt_le, nI_toInt (by omega)] at h
    rw [show bd n p = n from by unfold bd; omega] at hp
    exact ⟨_, m_lb n hn hp⟩
theorem c_so {σ : jS} {n a : Nat} (h6 : σ 6 1 = nI n) (hn : n ≤ 64) (ha : a < n) : Rn (p_S_stateOf σ (nI a)) (σ 7 a) σ := by
  intro post hp
  refine iF (nI_pos (by omega)) (pk_le n a (fun h => by omega) (fun _ => ⟨pk_in a 64 (by omega), ?_⟩) h6)
  rw [cl (by omega)]
  exact hp
theorem s_bs {post : Int32 → jS → Prop} {σ : jS} {n a m : Nat} (h6 : σ 6 1 = nI n) (hn : n ≤ 64) (ha : a < n) (hm : m ≤ 64) : ∀ d k, a < k → min n (a + m) - k = d → k < 2 ^ 30 → post (nI (eB (σ 7) (σ 7 a) d k)) σ → p_S_behindStretch_4 post (nI a) (nI m) (d + 1) σ (nI k) := by
  intro d
  induction d with
  | zero =>
    intro k hk hd hk2 hp
    refine pk_le n k (fun _ => hp) (fun h => ?_) h6
    exact pk_le m (k - a) (fun _ => hp) (fun h2 => by omega) rfl (pk_sub (by omega))
  | succ d ih =>
    intro k hk hd hk2 hp
    refine pk_le n k (fun h => by omega) (fun h => ?_) h6
    refine pk_le m (k - a) (fun h => by omega) (fun h2 => ?_) rfl (pk_sub (by omega))
    refine c_so h6 hn h _ (c_so h6 hn ha _ ⟨fun q => ?_, fun q => ?_⟩)
    · rw [show eB (σ 7) (σ 7 a) (d + 1) k = k from if_neg q] at hp
      exact hp
    · rw [show eB (σ 7) (σ 7 a) (d + 1) k = eB (σ 7) (σ 7 a) d (k + 1) from if_pos q] at hp
      rw [nI_1]
      exact ih (k + 1) (by omega) (by omega) (by omega) hp
theorem c_bs {σ : jS} {n a m : Nat} (h6 : σ 6 1 = nI n) (hn : n ≤ 64) (ha : a < n) (hm : m ≤ 64) : Rn (p_S_behindStretch σ (nI a) (nI m)) (nI (eB (σ 7) (σ 7 a) (min n (a + m) - (a + 1)) (a + 1))) σ := by
  intro post hp
  refine ⟨min n (a + m) - (a + 1) + 1, ?_⟩
  rw [nI_1]
  exact s_bs h6 hn ha hm _ _ (by omega) rfl (by omega) hp
theorem s_fs {post : Int32 → jS → Prop} {σ : jS} {n l : Nat} (h6 : σ 6 1 = nI n) (hn : n ≤ 64) (hl : l < n) : ∀ d k, k ≤ l → l + d = k + 7 → post (nI (fS (σ 7) (σ 7 l) d k)) σ → p_S_firstOfStretch_2 post (nI l) 8 (d + 1) σ (nI k) := by
  intro d
  induction d with
  | zero =>
    intro k hk hd hp
    refine pk_le k 0 (fun _ => hp) (fun h => ?_)
    exact pk_le 8 (l - k + 1) (fun _ => hp) (fun h2 => by omega) rfl (by rw [pk_sub hk, nI_1])
  | succ d ih =>
    intro k hk hd hp
    cases k with
    | zero => exact iT (by decide) hp
    | succ k =>
      refine pk_le (k + 1) 0 (fun h => by omega) (fun _ => ?_)
      refine pk_le 8 (l - (k + 1) + 1) (fun h => by omega) (fun _ => ?_) rfl (by rw [pk_sub hk, nI_1])
      rw [nI_pred]
      refine c_so h6 hn (by omega) _ (c_so h6 hn hl _ ⟨fun q => ?_, fun q => ?_⟩)
      · rw [show fS (σ 7) (σ 7 l) (d + 1) (k + 1) = k + 1 from if_neg q] at hp
        exact hp
      · rw [show fS (σ 7) (σ 7 l) (d + 1) (k + 1) = fS (σ 7) (σ 7 l) d k from if_pos q] at hp
        rw [pk_m1]
        exact ih k (by omega) (by omega) hp
theorem c_fs {σ : jS} {n l : Nat} (h6 : σ 6 1 = nI n) (hn : n ≤ 64) (hl : l < n) : Rn (p_S_firstOfStretch σ (nI l) 8) (nI (fS (σ 7) (σ 7 l) 7 l)) σ := fun _ hp => ⟨_, s_fs h6 hn hl 7 l (Nat.le_refl l) rfl hp⟩
theorem s_mk {post : jS → Prop} {v1 v2 v : Int32} {b : Nat} (hb : b ≤ 64) : ∀ d σ a, a + d = b → post (stA σ 7 (mk (σ 7) a b v)) → p_S_mark_17 post v1 v2 v (d + 1) σ (nI b) (nI a) := by
  intro d
  induction d with
  | zero =>
    intro σ a h hp
    rw [mk_nil (by omega), stA_self] at hp
    exact pk_le b a (fun _ => hp) (fun h => by omega)
  | succ d ih =>
    intro σ a h hp
    refine pk_le b a (fun h => by omega) (fun _ => ⟨pk_in a 64 (by omega), ?_⟩)
    rw [nI_1, cl (by omega)]
    refine ih _ (a + 1) (by omega) ?_
    rw [stA_up2, show (up2 σ 7 a v) 7 = (fun k => if k = a then v else σ 7 k) from rfl, mk_step (by omega)]
    exact hp
theorem c_mk {σ : jS} {n a b : Nat} (v : Int32) (h6 : σ 6 1 = nI n) (hn : n ≤ 64) (hb : b ≤ n) (hab : a ≤ b) : Rv (p_S_mark σ (nI a) (nI b) v) (stA σ 7 (mk (σ 7) a b v)) := by
  intro post hp
  refine ⟨b - a + 1, ?_⟩
  rw [ps0, h6, if_neg (nI_nlt hb (by omega)), nI_toInt (by omega)]
  exact s_mk (by omega) (b - a) σ a (by omega) hp
theorem m_mk {post : jS → Prop} {v : Int32} {b : Nat} (hb : b ≤ 64) : ∀ d σ a, σ 0 16 = nI b → a + d = b → post (stA σ 5 (mk (σ 5) a b v)) → p_M_mark_5 post v (d + 1) σ (nI a) := by
  intro d
  induction d with
  | zero =>
    intro σ a h16 h hp
    rw [mk_nil (by omega), stA_self] at hp
    exact pk_le b a (fun _ => hp) (fun h => by omega) h16
  | succ d ih =>
    intro σ a h16 h hp
    refine pk_le b a (fun h => by omega) (fun _ => ⟨pk_in a 64 (by omega), ?_⟩) h16
    rw [nI_1, cl (by omega)]
    refine ih _ (a + 1) h16 (by omega) ?_
    rw [stA_up2, show (up2 σ 5 a v) 5 = (fun k => if k = a then v else σ 5 k) from rfl, mk_step (by omega)]
    exact hp
theorem r_mk {σ : jS} {a b : Nat} (v : Int32) (h15 : σ 0 15 = nI a) (h16 : σ 0 16 = nI b) (hb : b ≤ 64) (hab : a ≤ b) : Rv (p_M_mark σ v) (stA σ 5 (mk (σ 5) a b v)) := by
  intro post hp
  refine ⟨b - a + 1, ?_⟩
  rw [h15]
  exact m_mk hb (b - a) σ a h16 (by omega) hp

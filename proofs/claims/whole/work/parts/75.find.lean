/-! the reference's search, and the relation while the copying goes on -/
theorem m_f35 {post : Int32 → jS → Prop} {n s : Nat} (hn : n ≤ 64) (hs : s < n) : ∀ d t σ, σ 0 1 = nI n → σ 0 16 = nI t → t < 2 ^ 30 → min n (s + 8) - t = d → post 1 (up2 σ 0 16 (nI (eB (σ 5) 0 d t))) → p_M_find_35 post (d + 1) σ (nI s) := by
  intro d
  induction d with
  | zero =>
    intro t σ h1 h16 ht hd hp
    rw [show eB (σ 5) 0 0 t = t from rfl, up2_id h16] at hp
    have g : p_M_find_86 post σ (nI s) := iF (nI_pos (by omega)) ⟨Or.inr rfl, hp⟩
    refine iF (nI_pos (by omega)) (pk_le n t (fun _ => g) (fun h => ?_) h1 h16)
    exact pk_le (s + 8) t (fun _ => g) (fun h => by omega) (nI_add s 8) h16
  | succ d ih =>
    intro t σ h1 h16 ht hd hp
    refine iF (nI_pos (by omega)) (pk_le n t (fun h => by omega) (fun h => ?_) h1 h16)
    refine pk_le (s + 8) t (fun h => by omega) (fun h => ?_) (nI_add s 8) h16
    rw [h16]
    refine ⟨pk_in t 64 (by omega), fun q => ?_, fun q => ?_⟩
    · rw [cl (by omega)] at q
      rw [show eB (σ 5) 0 (d + 1) t = t from if_neg q, up2_id h16] at hp
      exact iF (nI_pos (by omega)) ⟨Or.inr rfl, hp⟩
    · rw [cl (by omega)] at q
      rw [show eB (σ 5) 0 (d + 1) t = eB (σ 5) 0 d (t + 1) from if_pos q] at hp
      rw [nI_1]
      refine ih (t + 1) _ h1 rfl (by omega) (by omega) ?_
      rw [up2_up2]
      exact hp
theorem m_f126 {post : Int32 → jS → Prop} {l : Nat} (hl : l < 64) : ∀ d t σ, σ 0 15 = nI t → t ≤ l → l + d = t + 7 → post 1 (up2 σ 0 15 (nI (fS (σ 5) 0 d t))) → p_M_find_126 post (d + 1) σ (nI l) := by
  have low : ∀ t, t ≤ l → (l ≤ t + 6 → ¬ nI t ≤ nI l - 7) ∧ (t + 7 ≤ l → nI t ≤ nI l - 7) := by
    intro t ht
    have e : (nI l - 7).toInt = (l : Int) - 7 := pk_sub_toInt (a := l) (b := 7) (by omega) (by omega)
    rw [Int32.le_iff_toInt_le, e, nI_toInt (by omega)]
    omega
  intro d
  induction d with
  | zero =>
    intro t σ h15 ht hd hp
    rw [show fS (σ 5) 0 0 t = t from rfl, up2_id h15] at hp
    have g : p_M_find_175 post σ (nI l) := iF (nI_pos (by omega)) ⟨Or.inr rfl, hp⟩
    refine iF (nI_pos (by omega)) (pk_le t 0 (fun _ => g) (fun h => ?_) h15)
    rw [h15]
    exact iT ((low t ht).2 (by omega)) g
  | succ d ih =>
    intro t σ h15 ht hd hp
    cases t with
    | zero =>
      rw [show fS (σ 5) 0 (d + 1) 0 = 0 from rfl, up2_id h15] at hp
      have g : p_M_find_175 post σ (nI l) := iF (nI_pos (by omega)) ⟨Or.inr rfl, hp⟩
      exact iF (nI_pos (by omega)) (pk_le 0 0 (fun _ => g) (fun h => by omega) h15)
    | succ t =>
      refine iF (nI_pos (by omega)) (pk_le (t + 1) 0 (fun h => by omega) (fun h => ?_) h15)
      rw [h15]
      refine iF ((low (t + 1) ht).1 (by omega)) ?_
      rw [nI_pred]
      refine ⟨pk_in t 64 (by omega), fun q => ?_, fun q => ?_⟩
      · rw [cl (by omega)] at q
        rw [show fS (σ 5) 0 (d + 1) (t + 1) = t + 1 from if_neg q, up2_id h15] at hp
        exact iF (nI_pos (by omega)) ⟨Or.inr rfl, hp⟩
      · rw [cl (by omega)] at q
        rw [show fS (σ 5) 0 (d + 1) (t + 1) = fS (σ 5) 0 d t from if_pos q] at hp
        refine ih t _ rfl (by omega) (by omega) ?_
        rw [up2_up2]
        exact hp
theorem m_f200 {post : Int32 → jS → Prop} {σ : jS} {n : Nat} (hn : n ≤ 64) (h1 : σ 0 1 = nI n) (h14 : ¬ σ 0 14 = 0) : ∀ d t, t < n → n - (t + 1) = d → p_M_find_262 post σ (nI (eB (σ 5) 1 d (t + 1) - 1)) → p_M_find_200 post (d + 1) σ (nI t) := by
  intro d
  induction d with
  | zero =>
    intro t ht hd hp
    rw [show eB (σ 5) 1 0 (t + 1) = t + 1 from rfl] at hp
    refine iF h14 (iF (nI_pos (by omega)) (pk_le n (t + 1) (fun _ => hp) (fun h => by omega) h1 (nI_1 t)))
  | succ d ih =>
    intro t ht hd hp
    refine iF h14 (iF (nI_pos (by omega)) (pk_le n (t + 1) (fun h => by omega) (fun h => ?_) h1 (nI_1 t)))
    rw [nI_1]
    refine ⟨pk_in (t + 1) 64 (by omega), fun q => ?_, fun q => ?_⟩
    · rw [cl (by omega)] at q
      rw [show eB (σ 5) 1 (d + 1) (t + 1) = t + 1 from if_neg q] at hp
      exact hp
    · rw [cl (by omega)] at q
      rw [show eB (σ 5) 1 (d + 1) (t + 1) = eB (σ 5) 1 d (t + 1 + 1) from if_pos q] at hp
      exact ih (t + 1) h (by omega) hp
/-- the marking backwards: from place k - 1 down to a, all of them 1; the one before a isn't -/
theorem m_t98 {post : jS → Prop} {v2 : Int32} {a : Nat} : ∀ d σ, a + d ≤ 64 → (∀ i, a ≤ i → i < a + d → σ 5 i = 1) → (0 < a → σ 5 (a - 1) ≠ 1) → post (up2 (stA σ 5 (mk (σ 5) a (a + d) 2)) 0 14 0) → p_M_trimmed_98 post 0 (d + 1) σ v2 (nI (a + d) - 1) := by
  intro d
  induction d with
  | zero =>
    intro σ hd h1 h0 hp
    rw [mk_nil (by omega), stA_self] at hp
    have g : p_M_trimmed_129 post 0 σ v2 := iT rfl ⟨Or.inl rfl, hp⟩
    refine jT rfl ?_
    cases a with
    | zero => exact iT (by decide) g
    | succ a =>
      rw [show a + 1 + 0 = a + 1 from rfl, nI_pred]
      refine iF (nI_pos (by omega)) ⟨pk_in a 64 (by omega), fun q => g, fun q => ?_⟩
      rw [cl (by omega)] at q
      exact absurd q (h0 (by omega))
  | succ d ih =>
    intro σ hd h1 h0 hp
    refine jT rfl ?_
    rw [show a + (d + 1) = a + d + 1 from rfl, nI_pred]
    refine iF (nI_pos (by omega)) ⟨pk_in (a + d) 64 (by omega), fun q => ?_, fun q => ⟨pk_in (a + d) 64 (by omega), ?_⟩⟩
    · rw [cl (by omega)] at q
      exact absurd (h1 (a + d) (by omega) (by omega)) q
    · rw [cl (by omega), show nI (a + d) + (-1) = nI (a + d) - 1 from by rw [Int32.sub_eq_add_neg]]
      refine ih (up2 σ 5 (a + d) 2) (by omega) (fun i q1 q2 => ?_) (fun q1 => ?_) ?_
      · show (if i = a + d then 2 else σ 5 i) = 1
        rw [if_neg (by omega)]
        exact h1 i q1 (by omega)
      · show (if a - 1 = a + d then 2 else σ 5 (a - 1)) ≠ 1
        rw [if_neg (by omega)]
        exact h0 q1
      · rw [stA_up2]
        have e : mk ((up2 σ 5 (a + d) 2) 5) a (a + d) 2 = mk (σ 5) a (a + (d + 1)) 2 := by
          funext k
          show (if a ≤ k ∧ k < a + d then 2 else if k = a + d then 2 else σ 5 k) = if a ≤ k ∧ k < a + (d + 1) then 2 else σ 5 k
          by_cases q1 : k = a + d
          · rw [if_neg (by omega), if_pos q1, if_pos (by omega)]
          · by_cases q2 : a ≤ k ∧ k < a + d
            · rw [if_pos q2, if_pos (by omega)]
            · rw [if_neg q2, if_neg q1, if_neg (by omega)]
        rw [e]
        exact hp
/-- what stays while it goes on, whatever the place -/
def rB (n : Nat) (σ ρ : jS) : Prop := rA n σ ρ ∧ (rS σ ρ ∧ ρ 0 0 = 0) ∧ σ 8 6 = ρ 0 9 ∧ le9 5 (σ 8 6) ∧ σ 6 1 = nI n ∧ σ 7 = ρ 5 ∧ (∀ k, le9 4 (σ 7 k)) ∧ ∀ k, 64 ≤ k → σ 7 k = 0 ∧ ρ 5 k = 0
/-- the place -/
def rP (σ ρ : jS) : Prop := σ 8 3 = ρ 0 11 ∧ (-64 ≤ (σ 8 3).toInt ∧ (σ 8 3).toInt ≤ 128) ∧ σ 8 4 = ρ 0 12 ∧ (σ 8 4 = 8 ∨ σ 8 4 = 16 ∨ σ 8 4 = 32) ∧ σ 8 5 = ρ 0 13 ∧ le9 5 (σ 8 5) ∧ σ 8 7 = ρ 0 14 ∧ bz (σ 8 7)
def jG (k n : Nat) (σ ρ : jS) : Prop := 0 < n ∧ n ≤ 64 ∧ rB n σ ρ ∧ rP σ ρ ∧ σ 8 2 = nI k ∧ ρ 0 8 = nI k
theorem jG_R {k n : Nat} {σ ρ : jS} (hk : k ≤ 6) (h : jG k n σ ρ) : jR σ ρ := by
  obtain ⟨h0, hn, ⟨hA, hS, h9, h9b, h61, h7, h74, h7t⟩, hP, hc, hm⟩ := h
  obtain ⟨p1, p2, p3, p4, p5, p6, p7, p8⟩ := hP
  exact ⟨n, hn, hA, ⟨by rw [hc, hm], Or.inr ⟨h0, k, by omega, hc⟩, h9, h9b, fun _ => ⟨h61, h7, h74, p1, p2, p3, p4, p5, p6, p7, p8⟩, h7t⟩, hS.1⟩
theorem jR_G {n : Nat} {σ ρ : jS} (hn : n ≤ 64) (hA : rA n σ ρ) (hK : rK n σ ρ) (hS : rS σ ρ) {k : Nat} (hk : k ≤ 6) (e : σ 8 2 = nI k) (h0 : 0 < n) (hG : rG n σ ρ) (h00 : ρ 0 0 = 0) : jG k n σ ρ := by
  obtain ⟨g1, g2, g3, g4, g5, g6, g7, g8, g9, g10, g11⟩ := hG
  exact ⟨h0, hn, ⟨hA, ⟨hS, h00⟩, hK.2.2.1, hK.2.2.2.1, g1, g2, g3, hK.2.2.2.2.2⟩, ⟨g4, g5, g6, g7, g8, g9, g10, g11⟩, e, hK.1 ▸ e⟩
/-- entering a phase -/
def cEn (σ : jS) (v p : Int32) : jS := up2 (up2 (up2 (up2 (up2 σ 8 2 v) 8 4 8) 8 3 p) 8 5 0) 8 7 0
def mEn (σ : jS) (v p : Int32) : jS := up2 (up2 (up2 (up2 (up2 σ 0 8 v) 0 11 p) 0 12 8) 0 13 0) 0 14 0
theorem c_en {σ : jS} (v : Int32) : Rv (p_K_enter σ v) (cEn σ v (if v = 1 then σ 6 1 else 0)) := by
  intro post hp
  refine ⟨fun q => ⟨Or.inl rfl, ?_⟩, fun q => ⟨Or.inl rfl, ?_⟩⟩
  · rw [if_neg q] at hp
    exact hp
  · rw [if_pos q] at hp
    exact hp
theorem r_en {σ : jS} (v : Int32) : Rv (p_M_enter σ v) (mEn σ v (if v = 1 then σ 0 1 else 0)) := by
  intro post hp
  refine ⟨fun q => ⟨Or.inl rfl, ?_⟩, fun q => ⟨Or.inl rfl, ?_⟩⟩
  · rw [if_neg q] at hp
    exact hp
  · rw [if_pos q] at hp
    exact hp
theorem jG_en {n k : Nat} {σ ρ : jS} (h0 : 0 < n) (hn : n ≤ 64) (h : rB n σ ρ) : jG k n (cEn σ (nI k) (if nI k = 1 then σ 6 1 else 0)) (mEn ρ (nI k) (if nI k = 1 then ρ 0 1 else 0)) := by
  obtain ⟨hA, hS, h9, h9b, h61, h7, h74, h7t⟩ := h
  have e : (if nI k = 1 then σ 6 1 else 0) = (if nI k = 1 then ρ 0 1 else 0) := by rw [h61, hA.2.1]
  have hb : -64 ≤ (if nI k = 1 then σ 6 1 else (0 : Int32)).toInt ∧ (if nI k = 1 then σ 6 1 else (0 : Int32)).toInt ≤ 128 := by
    by_cases q : nI k = 1
    · rw [if_pos q, h61, nI_toInt (by omega)]
      omega
    · rw [if_neg q]
      decide
  exact ⟨h0, hn, ⟨hA, hS, h9, h9b, h61, h7, h74, h7t⟩, ⟨e, hb, rfl, Or.inl rfl, rfl, ⟨0, by decide, rfl⟩, rfl, Or.inl rfl⟩, rfl, rfl⟩

/-! loading a whole image -/
def ldF (b : Nat → Nat) : Nat → (Nat → Int32) → Nat → (Nat → Int32)
  | 0, f, _ => f
  | d + 1, f, i => ldF b d (mk f (cov b i) (cov b (i + 1)) (nI (b (3 + 2 * i)))) (i + 1)
theorem ldF_ok {b : Nat → Nat} : ∀ d f i, (∀ k, le9 4 (f k)) → (∀ j, i ≤ j → j < i + d → b (3 + 2 * j) ≤ 4) → ∀ k, le9 4 (ldF b d f i k) := by
  intro d
  induction d with
  | zero => exact fun f i h _ => h
  | succ d ih => exact fun f i h hj => ih _ (i + 1) (mk_ok h ⟨_, hj i (by omega) (by omega), rfl⟩ _ _) (fun j q1 q2 => hj j (by omega) (by omega))
theorem ldF_tail {b : Nat → Nat} : ∀ d f i k, cov b (i + d) ≤ k → ldF b d f i k = f k := by
  intro d
  induction d with
  | zero => exact fun f i k _ => rfl
  | succ d ih =>
    intro f i k h
    have e : i + (d + 1) = i + 1 + d := by omega
    rw [e] at h
    have m := cov_mono (b := b) d (i + 1)
    show ldF b d (mk f (cov b i) (cov b (i + 1)) (nI (b (3 + 2 * i)))) (i + 1) k = f k
    rw [ih _ (i + 1) k h, mk_out (by omega)]
theorem stA_stA (σ : jS) (i : Nat) (g g' : Nat → Int32) : stA (stA σ i g) i g' = stA σ i g' := by
  funext a
  by_cases h : a = i <;> simp [stA, h]
theorem s_ld {post : jS → Prop} {p n m : Nat} {b : Nat → Nat} (hn : n ≤ 64) (hm64 : m ≤ 64) (hc : cov b m ≤ n) : ∀ d i σ, hbC σ p b → σ 6 1 = nI n → i + d = m → post (stA σ 7 (ldF b d (σ 7) i)) → p_V_load_34 post (nI p) (d + 1) σ (nI m) (nI (cov b i)) (nI i) := by
  intro d
  induction d with
  | zero =>
    intro i σ h h6 hi hp
    rw [show ldF b 0 (σ 7) i = σ 7 from rfl, stA_self] at hp
    exact pk_le m i (fun _ => hp) (fun q => by omega)
  | succ d ih =>
    intro i σ h h6 hi hp
    refine pk_le m i (fun q => by omega) (fun _ => ?_)
    unfold p_V_placeOfRun
    rw [pl]
    refine c_by h (by omega) _ ?_
    show p_V_byteAt σ (nI p) (nI (2 + 2 * i) + 1) _
    rw [nI_1 (2 + 2 * i), show 2 + 2 * i + 1 = 3 + 2 * i from by omega]
    refine c_by (k := 3 + 2 * i) h (by omega) _ ?_
    have mo := cov_mono (b := b) d (i + 1)
    rw [show i + 1 + d = m from by omega] at mo
    have e : nI (cov b i) + nI (b (2 + 2 * i)) = nI (cov b (i + 1)) := nI_add _ _
    show p_S_mark σ (nI (cov b i)) (nI (cov b i) + nI (b (2 + 2 * i))) (nI (b (3 + 2 * i))) (fun σ13 => p_V_load_34 post (nI p) (d + 1) σ13 (nI m) (nI (cov b i) + nI (b (2 + 2 * i))) (nI i + 1))
    rw [e, nI_1]
    refine c_mk (nI (b (3 + 2 * i))) h6 hn (by omega) (cov_mono 1 i) _ ?_
    refine ih (i + 1) (stA σ 7 (mk (σ 7) (cov b i) (cov b (i + 1)) (nI (b (3 + 2 * i))))) h h6 (by omega) ?_
    rw [stA_stA]
    exact hp
theorem m_149 {post : Int32 → jS → Prop} {K : jS → Int32 → Int32 → Int32 → Prop} {p i c w : Nat} {b : Nat → Nat} (hi : i < 64) (hw : w = b (2 + 2 * i)) (hc : c + w ≤ 64) : ∀ e j ρ, hbM ρ p b → j + e = w → K (stA ρ 5 (mk (ρ 5) (c + j) (c + w) (nI (b (3 + 2 * i))))) (nI p) (nI (c + w)) (nI (i + 1)) → p_M_resume_149 post K (e + 1) ρ (nI p) (nI (c + j)) (nI i) (nI j) := by
  intro e
  induction e with
  | zero =>
    intro j ρ h hj hp
    obtain rfl : j = w := by omega
    rw [mk_nil (by omega), stA_self] at hp
    unfold p_M_resume_149
    rw [pl, nI_1]
    exact r_by h (by omega) _ (pk_le (b (2 + 2 * i)) j (fun _ => hp) (fun q => by omega))
  | succ e ih =>
    intro j ρ h hj hp
    unfold p_M_resume_149
    rw [pl, pl3]
    refine r_by h (by omega) _ (pk_le (b (2 + 2 * i)) j (fun q => by omega) (fun _ => r_by h (by omega) _ ⟨pk_in (c + j) 64 (by omega), ?_⟩))
    rw [cl (by omega), nI_1, nI_1]
    refine ih (j + 1) (up2 ρ 5 (c + j) (nI (b (3 + 2 * i)))) h (by omega) ?_
    rw [stA_up2, show (up2 ρ 5 (c + j) (nI (b (3 + 2 * i)))) 5 = (fun k => if k = c + j then nI (b (3 + 2 * i)) else ρ 5 k) from rfl, show c + (j + 1) = c + j + 1 from rfl, mk_step (by omega)]
    exact hp
theorem m_131 {post : Int32 → jS → Prop} {p n m : Nat} {b : Nat → Nat} (hn : n ≤ 64) (hm : m = b 1) (hm64 : m ≤ 64) (hc : cov b m ≤ n) : ∀ d i ρ, hbM ρ p b → i + d = m → p_M_resume_198 post (stA ρ 5 (ldF b d (ρ 5) i)) (nI p) → p_M_resume_131 post (d + 1) ρ (nI p) (nI (cov b i)) (nI i) := by
  intro d
  induction d with
  | zero =>
    intro i ρ h hi hp
    have hp2 := h.1
    have hb1 := (h.2 1 (by omega)).2
    rw [show ldF b 0 (ρ 5) i = ρ 5 from rfl, stA_self] at hp
    refine iF (nI_pos (by omega)) (r_by (k := 1) h (by omega) _ (pk_le (b 1) i (fun _ => hp) (fun q => by omega)))
  | succ d ih =>
    intro i ρ h hi hp
    have hp2 := h.1
    have hb1 := (h.2 1 (by omega)).2
    have mo := cov_mono (b := b) d (i + 1)
    rw [show i + 1 + d = m from by omega] at mo
    have mo1 : cov b (i + 1) = cov b i + b (2 + 2 * i) := rfl
    refine iF (nI_pos (by omega)) (r_by (k := 1) h (by omega) _ (pk_le (b 1) i (fun q => by omega) (fun _ => ⟨b (2 + 2 * i) + 1, ?_⟩)))
    refine m_149 (c := cov b i) (by omega) rfl (by omega) (b (2 + 2 * i)) 0 ρ h (by omega) ?_
    refine ih (i + 1) (stA ρ 5 (mk (ρ 5) (cov b i) (cov b i + b (2 + 2 * i)) (nI (b (3 + 2 * i))))) h (by omega) ?_
    rw [stA_stA]
    exact hp
theorem m_104 {post : Int32 → jS → Prop} {v3 : Int32} : ∀ d k ρ, k + d = 64 → (∃ n9, p_M_resume_131 post n9 (stA ρ 5 (mk (ρ 5) k 64 0)) v3 0 0) → p_M_resume_104 post (d + 1) ρ v3 (nI k) := by
  intro d
  induction d with
  | zero =>
    intro k ρ hk hp
    obtain rfl : k = 64 := by omega
    rw [mk_nil (by omega), stA_self] at hp
    exact iT (by decide) hp
  | succ d ih =>
    intro k ρ hk hp
    refine pk_le 64 k (fun q => by omega) (fun _ => ⟨pk_in k 64 (by omega), ?_⟩)
    rw [nI_1, cl (by omega)]
    refine ih (k + 1) _ (by omega) ?_
    rw [stA_up2, show (up2 ρ 5 k 0) 5 = (fun i => if i = k then 0 else ρ 5 i) from rfl, mk_step (by omega)]
    exact hp
theorem rB_st {n : Nat} {σ ρ : jS} {g g' : Nat → Int32} (h : rB n σ ρ) (hg : g = g') (h4 : ∀ k, le9 4 (g k)) (ht : ∀ k, 64 ≤ k → g k = 0) : rB n (stA σ 7 g) (stA ρ 5 g') := by
  obtain ⟨hA, hS, h9, h9b, h61, h7, h74, h7t⟩ := h
  exact ⟨hA, hS, h9, h9b, h61, hg, h4, fun k hk => ⟨ht k hk, by show g' k = 0; rw [← hg]; exact ht k hk⟩⟩
/-- the class cleared, with its number -/
theorem clr_n {σ : jS} {n : Nat} (hn : n ≤ 64) (h4 : σ 1 4 = nI n) : upA (up2 σ 6 1 (if 0 < (if 64 < σ 1 4 then 64 else σ 1 4) then (if 64 < σ 1 4 then 64 else σ 1 4) else 0)) 7 64 0 = upA (up2 σ 6 1 (nI n)) 7 64 0 := by rw [h4, clip hn]
theorem clr_c {σ : jS} {n : Nat} {x : Int32} : up2 (upA (up2 σ 6 1 (nI n)) 7 64 0) 9 2 x = upA (up2 (up2 σ 9 2 x) 6 1 (nI n)) 7 64 0 := by
  funext c
  by_cases h9 : c = 9
  · subst h9; rfl
  · by_cases h7 : c = 7
    · subst h7; rfl
    · by_cases h6 : c = 6
      · subst h6; rfl
      · simp [upA, up2, h6, h7, h9]
/-- the newest whole slot, on both sides -/
theorem nw {σ ρ : jS} {n : Nat} (hn : n ≤ 64) (hn0 : 0 < n) (hS : rS σ ρ) (hn1 : ρ 0 1 = nI n) : ∃ sv, (∀ post : Int32 → jS → Prop, post sv σ → p_V_newestWhole σ (nI n) post) ∧ (∀ post : Int32 → jS → Prop, p_M_resume_82 post ρ sv → p_M_isWhole ρ 0 (fun r2 σ1 => p_M_isWhole σ1 1 (fun r4 σ3 => (r2 = 0 → (r4 = 0 → p_M_resume_82 post σ3 (-1)) ∧ (¬ r4 = 0 → p_M_resume_82 post σ3 1)) ∧ (¬ r2 = 0 → (r4 = 0 → p_M_resume_69 post σ3) ∧ (¬ r4 = 0 → p_M_at σ3 1 0 (fun r15 σ14 => p_M_at σ14 0 0 (fun r17 σ16 => p_M_next σ16 r17 (fun r19 σ18 => (¬ r15 = r19 → p_M_resume_69 post σ18) ∧ (r15 = r19 → p_M_resume_82 post σ18 1))))))))) ∧ (sv = -1 ∨ ∃ p b, sv = nI p ∧ hbC σ p b ∧ hbM ρ p b ∧ ∃ S, wH b n S) := by
  have hc : ∀ p, p < 2 → hbC σ p (fun k => (sl σ p k).toNatClampNeg) := fun p hp => ⟨hp, fun k hk => le_nI (by decide) (sl_le hS hk)⟩
  have hm : ∀ p, p < 2 → hbM ρ p (fun k => (sl σ p k).toNatClampNeg) := fun p hp => ⟨hp, fun k hk => by
    rw [← sl_eq hS hp hk]
    exact le_nI (by decide) (sl_le hS hk)⟩
  have c0 := hc 0 (by decide)
  have c1 := hc 1 (by decide)
  have m0 := hm 0 (by decide)
  have m1 := hm 1 (by decide)
  generalize (fun k => (sl σ 0 k).toNatClampNeg) = b0 at c0 m0
  generalize (fun k => (sl σ 1 k).toNatClampNeg) = b1 at c1 m1
  have k0 : ∀ post : Int32 → jS → Prop, (wH b0 n (sB (sl σ 0) (2 + 2 * b0 1) % 251) → post 1 σ) → (¬ wH b0 n (sB (sl σ 0) (2 + 2 * b0 1) % 251) → post 0 σ) → p_V_isWhole σ 0 (nI n) post := fun post => c_iw c0 hn hn0
  have k1 : ∀ post : Int32 → jS → Prop, (wH b1 n (sB (sl σ 1) (2 + 2 * b1 1) % 251) → post 1 σ) → (¬ wH b1 n (sB (sl σ 1) (2 + 2 * b1 1) % 251) → post 0 σ) → p_V_isWhole σ 1 (nI n) post := fun post => c_iw c1 hn hn0
  have r0 : ∀ post : Int32 → jS → Prop, (wH b0 n (sB (sl σ 0) (2 + 2 * b0 1) % 251) → post 1 ρ) → (¬ wH b0 n (sB (sl σ 0) (2 + 2 * b0 1) % 251) → post 0 ρ) → p_M_isWhole ρ 0 post := fun post => r_iw (sl σ 0) (fun k hk => (c0.2 k hk).1) m0 hn1 hn
  have r1 : ∀ post : Int32 → jS → Prop, (wH b1 n (sB (sl σ 1) (2 + 2 * b1 1) % 251) → post 1 ρ) → (¬ wH b1 n (sB (sl σ 1) (2 + 2 * b1 1) % 251) → post 0 ρ) → p_M_isWhole ρ 1 post := fun post => r_iw (sl σ 1) (fun k hk => (c1.2 k hk).1) m1 hn1 hn
  by_cases w0 : wH b0 n (sB (sl σ 0) (2 + 2 * b0 1) % 251)
  · by_cases w1 : wH b1 n (sB (sl σ 1) (2 + 2 * b1 1) % 251)
    · have l0 : b0 0 ≤ 199 := w0.1
      have l1 := (c1.2 0 (by decide)).2
      refine ⟨if b1 0 = (b0 0 + 1) % 200 then 1 else 0, fun post hp => k0 _ (fun _ => k1 _ (fun _ => iF z10 (iF z10 ?_)) (fun q => absurd w1 q)) (fun q => absurd w0 q), fun post hp => r0 _ (fun _ => r1 _ (fun _ => iF z10 (iF z10 ?_)) (fun q => absurd w1 q)) (fun q => absurd w0 q), ?_⟩
      · refine c_by (k := 0) c1 (by decide) _ (c_by (k := 0) c0 (by decide) _ ?_)
        unfold p_V_behindNumber
        rw [nx l0]
        have g := pk_eq (x := nI (b1 0)) (y := nI ((b0 0 + 1) % 200)) (A := post 1 σ) (B := post 0 σ) (b1 0) ((b0 0 + 1) % 200) (fun q => by rw [if_pos q] at hp; exact hp) (fun q => by rw [if_neg q] at hp; exact hp)
        exact ⟨g.2, g.1⟩
      · refine r_by (k := 0) m1 (by decide) _ (r_by (k := 0) m0 (by decide) _ (r_nx l0 _ ?_))
        have g := pk_eq (x := nI (b1 0)) (y := nI ((b0 0 + 1) % 200)) (A := p_M_resume_82 post ρ 1) (B := p_M_resume_69 post ρ) (b1 0) ((b0 0 + 1) % 200) (fun q => by rw [if_pos q] at hp; exact hp) (fun q => by rw [if_neg q] at hp; exact hp)
        exact ⟨g.2, g.1⟩
      · refine Or.inr ?_
        by_cases q : b1 0 = (b0 0 + 1) % 200
        · rw [if_pos q]
          exact ⟨1, b1, rfl, c1, m1, _, w1⟩
        · rw [if_neg q]
          exact ⟨0, b0, rfl, c0, m0, _, w0⟩
    · exact ⟨0, fun post hp => k0 _ (fun _ => k1 _ (fun q => absurd q w1) (fun _ => iF z10 (iT rfl (iF z10 hp)))) (fun q => absurd w0 q), fun post hp => r0 _ (fun _ => r1 _ (fun q => absurd q w1) (fun _ => iF z10 (iT rfl hp))) (fun q => absurd w0 q), Or.inr ⟨0, b0, rfl, c0, m0, _, w0⟩⟩
  · by_cases w1 : wH b1 n (sB (sl σ 1) (2 + 2 * b1 1) % 251)
    · exact ⟨1, fun post hp => k0 _ (fun q => absurd q w0) (fun _ => k1 _ (fun _ => iT rfl (iT rfl (iF z10 hp))) (fun q => absurd w1 q)), fun post hp => r0 _ (fun q => absurd q w0) (fun _ => r1 _ (fun _ => iT rfl (iF z10 hp)) (fun q => absurd w1 q)), Or.inr ⟨1, b1, rfl, c1, m1, _, w1⟩⟩
    · exact ⟨-1, fun post hp => k0 _ (fun q => absurd q w0) (fun _ => k1 _ (fun q => absurd q w1) (fun _ => iT rfl (iT rfl (iT rfl hp)))), fun post hp => r0 _ (fun q => absurd q w0) (fun _ => r1 _ (fun q => absurd q w1) (fun _ => iT rfl (iT rfl hp))), Or.inl rfl⟩
section
variable {L : Nat} {xs : Nat → Int32} {v4 : Int32} {σ ρ : jS} {fo : Nat → Int64}
theorem st_7 (h : jR σ ρ) : p_law_7 L xs v4 σ fo ρ (fun σ _ ρ => jR σ ρ) := by
  obtain ⟨n, hn, hA, hK, hS⟩ := id h
  unfold p_law_7 p_L_resume p_R_resume
  by_cases q7 : σ 8 2 = 7
  · have m7 : ρ 0 8 = 7 := hK.1 ▸ q7
    have hn0 : 0 < n := by
      rcases hK.2.1 with e | ⟨e, -⟩
      · rw [e] at q7
        exact absurd q7 (by decide)
      · exact e
    refine iT q7 ?_
    unfold p_D_size p_S_clear
    show p_V_newestWhole (upA (up2 σ 6 1 (if 0 < (if 64 < σ 1 4 then 64 else σ 1 4) then (if 64 < σ 1 4 then 64 else σ 1 4) else 0)) 7 64 0) (σ 1 4) _
    rw [clr_n hn hA.1, hA.1]
    obtain ⟨sv, g1, g2, g3⟩ := nw (σ := upA (up2 σ 6 1 (nI n)) 7 64 0) (ρ := up2 ρ 0 0 0) hn hn0 hS hA.2.1
    refine g1 _ ?_
    have go : ∀ post : Int32 → jS → Prop, p_M_resume_82 post (up2 ρ 0 0 0) sv → p_M_resume ρ post := fun post w => jT m7 (iT rfl (g2 post w))
    rcases g3 with rfl | ⟨p, b, rfl, hC, hM, S, hw⟩
    · have hB := rB_clr (σ := up2 σ 9 2 0) (ρ := up2 (up2 ρ 0 0 0) 0 17 0) hn hA ⟨rfl, ⟨0, by decide, rfl⟩, hS.2.2⟩ rfl hK.2.2.2.2.2 hK.2.2.1 hK.2.2.2.1
      have hG := jG_en (k := 0) hn0 hn hB
      rw [← clr_c] at hG
      refine jT rfl (c_en (0 : Int32) _ (go _ (iF (by decide) ⟨65, m_104 64 0 _ (by omega) ⟨1, iT (by decide) (r_en (0 : Int32) _ ?_)⟩⟩)))
      exact fin0 (fo := fo) rfl (jG_R (by omega) hG)
    · have hp2 := hC.1
      obtain ⟨w1, w2, w3, w4, w5, w6⟩ := hw
      have hB := rB_clr (σ := up2 σ 9 2 (nI (b 0))) (ρ := up2 (up2 ρ 0 0 0) 0 17 (nI (b 0))) hn hA ⟨rfl, ⟨b 0, w1, rfl⟩, hS.2.2⟩ rfl hK.2.2.2.2.2 hK.2.2.1 hK.2.2.2.1
      rw [← clr_c] at hB
      have e7 : (fun i => if i < 64 then (0 : Int32) else σ 7 i) = mk (ρ 5) 0 64 0 := clr_eq hK.2.2.2.2.2
      have z7 : ∀ k, (fun i => if i < 64 then (0 : Int32) else σ 7 i) k = 0 := fun k => by rw [e7]; exact clr_0 hK.2.2.2.2.2 k
      have hB2 := rB_st (g := ldF b (b 1) (fun i => if i < 64 then (0 : Int32) else σ 7 i) 0) (g' := ldF b (b 1) (mk (ρ 5) 0 64 0) 0) hB (by rw [e7]) (ldF_ok (b 1) _ 0 (fun k => ⟨0, by decide, z7 k⟩) (fun j _ hj => (w4 j (by omega)).2.1)) (fun k hk => by
        rw [ldF_tail (b 1) _ 0 k (by rw [Nat.zero_add]; omega)]
        exact z7 k)
      have hG := jG_en (k := 0) hn0 hn hB2
      have npp : ¬ nI p = -1 := ns1 (by omega)
      have hC2 : hbC (up2 (upA (up2 σ 6 1 (nI n)) 7 64 0) 9 2 (nI (b 0))) p b := hC
      refine jF npp (c_by (k := 0) hC (by decide) _ (c_by (k := 1) hC2 (by decide) _ ⟨b 1 + 1, ?_⟩))
      refine s_ld (n := n) hn (by omega) (by omega) (b 1) 0 (up2 (upA (up2 σ 6 1 (nI n)) 7 64 0) 9 2 (nI (b 0))) hC rfl (by omega) ?_
      refine c_en (0 : Int32) _ (go _ (iT (nI_pos' (by omega)) (r_by (k := 0) hM (by decide) _ ⟨65, m_104 64 0 _ (by omega) ⟨b 1 + 1, ?_⟩⟩)))
      refine m_131 (n := n) hn rfl (by omega) (by omega) (b 1) 0 (stA (up2 (up2 ρ 0 0 0) 0 17 (nI (b 0))) 5 (mk (ρ 5) 0 64 0)) hM (by omega) ?_
      refine r_en (0 : Int32) _ ?_
      exact fin0 (fo := fo) rfl (jG_R (by omega) hG)
  · refine iF q7 ⟨by decide, ?_⟩
    have m7 : ¬ ρ 0 8 = 7 := hK.1 ▸ q7
    exact jF m7 (iF z10 (fin1 rfl z10 (jR_code 1 h)))
end

section JM
variable {p : Program} {l : Launch} {e : Env} {s : State} {m : MethodId} {args : Array Value} {below : List Frame} {meth : Method} {c : Code} {D : va_G} {A : Nat → Prop} {ad : Nat → Nat} {cI cA cL : ClassId} {F : va_W}
set_option maxRecDepth 100000 in
theorem w_K_scrape_0 (X : jv_C p s m args meth c b_K_scrape 2 (some .boolean) y_K_scrape wb D jClasses (jTy cI cA cL) A) {post : Int32 → jS → Prop} {σ : jS} (h : p_K_scrape σ post) : jv_V p l e (rmk 4 0 0) s m args below meth c D jClasses A 2 0 0 (MQ below (va_Qi post (jv_End D jClasses (jTy cI cA cL) A (fun σ => cw ad cI cA σ F)) A) args s 0 0 A) (cw ad cI cA σ F) [(0, .ref (ad 8))] 0 [] := by
  obtain ⟨B, hml, hown, hts, hK, hA, hr, hlk, hnm⟩ := id X
  unfold p_K_scrape at h
  refine jv_aload_n B d_K_scrape_0 rfl 0 rfl ?_
  refine fg_K_map B hts hown hK d_K_scrape_1 ?_
  refine jv_iconst (v := 2) B d_K_scrape_4 (by decide) ?_
  refine jv_iconst (v := 0) B d_K_scrape_5 (by decide) ?_
  refine jv_civ (As := [.int 2, .int 0]) B hml hown hts hK hA (c_S_firstFrom (ad := ad) (cI := cI) (cA := cA) (cL := cL) (F := F) h) (cwV 2 hts g_K_70 rfl rfl rfl hd_S_firstFrom ⟨Nat.le_of_ble_eq_true rfl, Nat.le_of_ble_eq_true rfl⟩) 6 3 rfl rfl rfl rfl (Nat.le_of_ble_eq_true rfl) d_K_scrape_6 ⟨Nat.le_of_ble_eq_true rfl, Nat.le_of_ble_eq_true rfl⟩ rfl (fun r2 σ1 h => ?_)
  refine jv_istore_n (lv' := [(1, .int r2), (0, .ref (ad 8))]) B d_K_scrape_9 rfl (by decide) rfl ?_
  refine jv_iload_n B d_K_scrape_10 rfl 0 rfl ?_
  refine jv_iconst (v := (-1)) B d_K_scrape_11 (by decide) ?_
  refine jv_icmp_ne (tgt := 17) B d_K_scrape_12 (by decide) (fun hc => ?_) (fun hc => ?_)
  · replace h := h.1 hc
    refine jv_aload_n B d_K_scrape_17 rfl 1 rfl ?_
    refine jv_iload_n B d_K_scrape_18 rfl 0 rfl ?_
    refine jv_iload_n B d_K_scrape_19 rfl 0 rfl ?_
    refine jv_iconst (v := 1) B d_K_scrape_20 (by decide) ?_
    refine jv_iadd B d_K_scrape_21 ?_
    refine jv_iconst (v := 3) B d_K_scrape_22 (by decide) ?_
    refine jv_civ (As := [.int r2, .int (r2 + 1), .int 3]) B hml hown hts hK hA (c_K_rescue (ad := ad) (cI := cI) (cA := cA) (cL := cL) (F := F) h) (cwV 3 hts g_K_77 rfl rfl rfl hd_K_rescue ⟨Nat.le_of_ble_eq_true rfl, Nat.le_of_ble_eq_true rfl⟩) 8 0 rfl rfl rfl rfl (Nat.le_of_ble_eq_true rfl) d_K_scrape_23 ⟨Nat.le_of_ble_eq_true rfl, Nat.le_of_ble_eq_true rfl⟩ rfl (fun r4 σ3 h => ?_)
    refine jv_pop B d_K_scrape_26 rfl ?_
    refine jv_iconst (v := 1) B d_K_scrape_27 (by decide) ?_
    exact jv_iret B hr (nz h.1) hlk hK _ rfl h.2 d_K_scrape_28
  · replace h := h.2 hc
    refine jv_iconst (v := 0) B d_K_scrape_15 (by decide) ?_
    exact jv_iret B hr (nz h.1) hlk hK _ rfl h.2 d_K_scrape_16
theorem c_K_scrape {l : Launch} {D : va_G} {A : Nat → Prop} {ad : Nat → Nat} {cI cA cL : ClassId} {F : va_W} {σ : jS} {post : Int32 → jS → Prop} (h : p_K_scrape σ post) : Met l y_K_scrape (Cond.code y_K_scrape b_K_scrape 2 (some .boolean) :: wb) (rmk 4 0 0) (jv_Pre D jClasses (jTy cI cA cL) A (cw ad cI cA σ F) [.ref (ad 8)]) (va_Qi post (jv_End D jClasses (jTy cI cA cL) A (fun σ => cw ad cI cA σ F)) A) 0 0 A :=
  jv_ofB (by decide) (Nat.le_of_ble_eq_true rfl) (fun p e s m below meth c X => w_K_scrape_0 X h)
set_option maxRecDepth 100000 in
theorem w_K_goesUp_0 (X : jv_C p s m args meth c b_K_goesUp 2 (some .boolean) y_K_goesUp wb D jClasses (jTy cI cA cL) A) {post : Int32 → jS → Prop} {σ : jS} {v1 : Int32} (h : p_K_goesUp σ v1 post) : jv_V p l e (rmk 1 0 0) s m args below meth c D jClasses A 2 0 0 (MQ below (va_Qi post (jv_End D jClasses (jTy cI cA cL) A (fun σ => cw ad cI cA σ F)) A) args s 0 0 A) (cw ad cI cA σ F) [(0, .ref (ad 8)), (1, .int v1)] 0 [] := by
  obtain ⟨B, hml, hown, hts, hK, hA, hr, hlk, hnm⟩ := id X
  unfold p_K_goesUp at h
  refine jv_sub [1] rfl ?_
  refine jv_iload_n B d_K_goesUp_0 rfl 0 rfl ?_
  refine jv_iconst (v := 2) B d_K_goesUp_1 (by decide) ?_
  refine jv_irem B d_K_goesUp_2 (by decide) ?_
  refine jv_if_ne (tgt := 10) B d_K_goesUp_3 (by decide) (fun hc => ?_) (fun hc => ?_)
  · replace h := h.1 hc
    refine jv_iconst (v := 0) B d_K_goesUp_10 (by decide) ?_
    exact jv_iret B hr (nz h.1) hlk hK _ rfl h.2 d_K_goesUp_11
  · replace h := h.2 hc
    refine jv_iconst (v := 1) B d_K_goesUp_6 (by decide) ?_
    refine jv_goto (tgt := 11) B d_K_goesUp_7 (by decide) ?_
    exact jv_iret B hr (nz h.1) hlk hK _ rfl h.2 d_K_goesUp_11
theorem c_K_goesUp {l : Launch} {D : va_G} {A : Nat → Prop} {ad : Nat → Nat} {cI cA cL : ClassId} {F : va_W} {σ : jS} {v1 : Int32} {post : Int32 → jS → Prop} (h : p_K_goesUp σ v1 post) : Met l y_K_goesUp (Cond.code y_K_goesUp b_K_goesUp 2 (some .boolean) :: wb) (rmk 1 0 0) (jv_Pre D jClasses (jTy cI cA cL) A (cw ad cI cA σ F) [.ref (ad 8), .int v1]) (va_Qi post (jv_End D jClasses (jTy cI cA cL) A (fun σ => cw ad cI cA σ F)) A) 0 0 A :=
  jv_ofB (by decide) (Nat.le_of_ble_eq_true rfl) (fun p e s m below meth c X => w_K_goesUp_0 X h)
set_option maxRecDepth 100000 in
theorem w_K_enterRound_0 (X : jv_C p s m args meth c b_K_enterRound 2 none y_K_enterRound wb D jClasses (jTy cI cA cL) A) {post : jS → Prop} {σ : jS} {v1 : Int32} (h : p_K_enterRound σ v1 post) : jv_V p l e (rmk 2 0 0) s m args below meth c D jClasses A 2 0 0 (MQ below (va_Qv post (jv_End D jClasses (jTy cI cA cL) A (fun σ => cw ad cI cA σ F)) A) args s 0 0 A) (cw ad cI cA σ F) [(0, .ref (ad 8)), (1, .int v1)] 0 [] := by
  obtain ⟨B, hml, hown, hts, hK, hA, hr, hlk, hnm⟩ := id X
  unfold p_K_enterRound at h
  refine jv_aload_n B d_K_enterRound_0 rfl 0 rfl ?_
  refine jv_iload_n B d_K_enterRound_1 rfl 1 rfl ?_
  refine fs_K_round B hts hown hK d_K_enterRound_2 ?_
  refine jv_aload_n B d_K_enterRound_5 rfl 0 rfl ?_
  refine jv_aload_n B d_K_enterRound_6 rfl 0 rfl ?_
  refine jv_iload_n B d_K_enterRound_7 rfl 1 rfl ?_
  refine jv_civ (As := [.int v1]) B hml hown hts hK hA (c_K_goesUp (ad := ad) (cI := cI) (cA := cA) (cL := cL) (F := F) h) (cwV 1 hts g_K_103 rfl rfl rfl hd_K_goesUp ⟨Nat.le_of_ble_eq_true rfl, Nat.le_of_ble_eq_true rfl⟩) 8 0 rfl rfl rfl rfl (Nat.le_of_ble_eq_true rfl) d_K_enterRound_8 ⟨Nat.le_of_ble_eq_true rfl, Nat.le_of_ble_eq_true rfl⟩ rfl (fun r2 σ1 h => ?_)
  refine jv_if_eq (tgt := 18) B d_K_enterRound_11 (by decide) (fun hc => ?_) (fun hc => ?_)
  · replace h := h.1 hc
    refine jv_aload_n B d_K_enterRound_18 rfl 0 rfl ?_
    refine fg_K_map B hts hown hK d_K_enterRound_19 ?_
    refine jv_civ (As := []) B hml hown hts hK hA (c_S_size (ad := ad) (cI := cI) (cA := cA) (cL := cL) (F := F) h) (cwV 0 hts g_K_33 rfl rfl rfl hd_S_size ⟨Nat.le_of_ble_eq_true rfl, Nat.le_of_ble_eq_true rfl⟩) 6 3 rfl rfl rfl rfl (Nat.le_of_ble_eq_true rfl) d_K_enterRound_22 ⟨Nat.le_of_ble_eq_true rfl, Nat.le_of_ble_eq_true rfl⟩ rfl (fun r4 σ3 h => ?_)
    refine fs_K_position B hts hown hK d_K_enterRound_25 ?_
    exact jv_vret B hr hlk hK _ rfl h d_K_enterRound_28
  · replace h := h.2 hc
    refine jv_iconst (v := 0) B d_K_enterRound_14 (by decide) ?_
    refine jv_goto (tgt := 25) B d_K_enterRound_15 (by decide) ?_
    refine fs_K_position B hts hown hK d_K_enterRound_25 ?_
    exact jv_vret B hr hlk hK _ rfl h d_K_enterRound_28
theorem c_K_enterRound {l : Launch} {D : va_G} {A : Nat → Prop} {ad : Nat → Nat} {cI cA cL : ClassId} {F : va_W} {σ : jS} {v1 : Int32} {post : jS → Prop} (h : p_K_enterRound σ v1 post) : Met l y_K_enterRound (Cond.code y_K_enterRound b_K_enterRound 2 none :: wb) (rmk 2 0 0) (jv_Pre D jClasses (jTy cI cA cL) A (cw ad cI cA σ F) [.ref (ad 8), .int v1]) (va_Qv post (jv_End D jClasses (jTy cI cA cL) A (fun σ => cw ad cI cA σ F)) A) 0 0 A :=
  jv_ofB (by decide) (Nat.le_of_ble_eq_true rfl) (fun p e s m below meth c X => w_K_enterRound_0 X h)
set_option maxRecDepth 100000 in
theorem w_K_nextBad_48 (X : jv_C p s m args meth c b_K_nextBad 3 (some .int) y_K_nextBad wb D jClasses (jTy cI cA cL) A) {post : Int32 → jS → Prop} {σ : jS} {v1 y0 : Int32} {k5 : jS → Int32 → Prop} (H5 : ∀ (σ : jS) (v1 : Int32), k5 σ v1 → jv_V p l e (rmk 3 0 0) s m args below meth c D jClasses A 3 0 0 (MQ below (va_Qi post (jv_End D jClasses (jTy cI cA cL) A (fun σ => cw ad cI cA σ F)) A) args s 0 0 A) (cw ad cI cA σ F) [(0, .ref (ad 8)), (1, .int v1)] 5 []) (h : p_K_nextBad_48 post k5 σ v1 y0) : jv_V p l e (rmk 3 0 0) s m args below meth c D jClasses A 3 0 0 (MQ below (va_Qi post (jv_End D jClasses (jTy cI cA cL) A (fun σ => cw ad cI cA σ F)) A) args s 0 0 A) (cw ad cI cA σ F) [(0, .ref (ad 8)), (1, .int v1)] 48 [.int y0] := by
  obtain ⟨B, hml, hown, hts, hK, hA, hr, hlk, hnm⟩ := id X
  unfold p_K_nextBad_48 at h
  refine jv_istore_n (lv' := [(2, .int y0), (0, .ref (ad 8)), (1, .int v1)]) B d_K_nextBad_48 rfl (by decide) rfl ?_
  refine jv_iload_n B d_K_nextBad_49 rfl 0 rfl ?_
  refine jv_iconst (v := (-1)) B d_K_nextBad_50 (by decide) ?_
  refine jv_icmp_eq (tgt := 56) B d_K_nextBad_51 (by decide) (fun hc => ?_) (fun hc => ?_)
  · replace h := h.1 hc
    refine jv_aload_n B d_K_nextBad_56 rfl 1 rfl ?_
    refine jv_iload_n B d_K_nextBad_57 rfl 2 rfl ?_
    refine jv_iconst (v := 1) B d_K_nextBad_58 (by decide) ?_
    refine jv_iadd B d_K_nextBad_59 ?_
    refine jv_cvv (As := [.int (v1 + 1)]) B hml hown hts hK hA (c_K_enterRound (ad := ad) (cI := cI) (cA := cA) (cL := cL) (F := F) h) (cwV 1 hts g_K_106 rfl rfl rfl hd_K_enterRound ⟨Nat.le_of_ble_eq_true rfl, Nat.le_of_ble_eq_true rfl⟩) 8 0 rfl rfl rfl rfl (Nat.le_of_ble_eq_true rfl) d_K_nextBad_60 ⟨Nat.le_of_ble_eq_true rfl, Nat.le_of_ble_eq_true rfl⟩ rfl (fun σ5 h => ?_)
    refine jv_iinc (n9 := 2) (v := v1 + 1) (lv' := [(1, .int (v1 + 1)), (2, .int y0), (0, .ref (ad 8))]) B d_K_nextBad_63 rfl rfl (by decide) rfl ?_
    refine jv_goto (tgt := 5) B d_K_nextBad_66 (by decide) ?_
    refine jv_sub [2, 0] rfl ?_
    exact H5 _ _ h
  · replace h := h.2 hc
    refine jv_iload_n B d_K_nextBad_54 rfl 0 rfl ?_
    exact jv_iret B hr rfl hlk hK _ rfl h d_K_nextBad_55
set_option maxRecDepth 100000 in
theorem w_K_nextBad_5 (X : jv_C p s m args meth c b_K_nextBad 3 (some .int) y_K_nextBad wb D jClasses (jTy cI cA cL) A) {post : Int32 → jS → Prop} : ∀ (n : Nat), ∀ (σ : jS) (v1 : Int32), p_K_nextBad_5 post n σ v1 → jv_V p l e (rmk 3 0 0) s m args below meth c D jClasses A 3 0 0 (MQ below (va_Qi post (jv_End D jClasses (jTy cI cA cL) A (fun σ => cw ad cI cA σ F)) A) args s 0 0 A) (cw ad cI cA σ F) [(0, .ref (ad 8)), (1, .int v1)] 5 [] := by
  obtain ⟨B, hml, hown, hts, hK, hA, hr, hlk, hnm⟩ := id X
  intro n
  induction n with
  | zero => intro σ v1 h; exact h.elim
  | succ n ih =>
    intro σ v1 h
    rw [p_K_nextBad_5] at h
    refine jv_iload_n B d_K_nextBad_5 rfl 1 rfl ?_
    refine jv_aload_n B d_K_nextBad_6 rfl 0 rfl ?_
    refine fg_K_retryRounds B hts hown hK d_K_nextBad_7 ?_
    refine jv_icmp_ge (tgt := 69) B d_K_nextBad_10 (by decide) (fun hc => ?_) (fun hc => ?_)
    · replace h := h.1 hc
      refine jv_iconst (v := (-1)) B d_K_nextBad_69 (by decide) ?_
      exact jv_iret B hr rfl hlk hK _ rfl h d_K_nextBad_70
    · replace h := h.2 hc
      refine jv_aload_n B d_K_nextBad_13 rfl 0 rfl ?_
      refine jv_iload_n B d_K_nextBad_14 rfl 1 rfl ?_
      refine jv_civ (As := [.int v1]) B hml hown hts hK hA (c_K_goesUp (ad := ad) (cI := cI) (cA := cA) (cL := cL) (F := F) h) (cwV 1 hts g_K_103 rfl rfl rfl hd_K_goesUp ⟨Nat.le_of_ble_eq_true rfl, Nat.le_of_ble_eq_true rfl⟩) 8 0 rfl rfl rfl rfl (Nat.le_of_ble_eq_true rfl) d_K_nextBad_15 ⟨Nat.le_of_ble_eq_true rfl, Nat.le_of_ble_eq_true rfl⟩ rfl (fun r2 σ1 h => ?_)
      refine jv_if_eq (tgt := 36) B d_K_nextBad_18 (by decide) (fun hc => ?_) (fun hc => ?_)
      · replace h := h.1 hc
        refine jv_aload_n B d_K_nextBad_36 rfl 0 rfl ?_
        refine fg_K_map B hts hown hK d_K_nextBad_37 ?_
        refine jv_iconst (v := 3) B d_K_nextBad_40 (by decide) ?_
        refine jv_aload_n B d_K_nextBad_41 rfl 0 rfl ?_
        refine fg_K_position B hts hown hK d_K_nextBad_42 ?_
        refine jv_civ (As := [.int 3, .int (σ1 8 3)]) B hml hown hts hK hA (c_S_lastBelow (ad := ad) (cI := cI) (cA := cA) (cL := cL) (F := F) h) (cwV 2 hts g_K_85 rfl rfl rfl hd_S_lastBelow ⟨Nat.le_of_ble_eq_true rfl, Nat.le_of_ble_eq_true rfl⟩) 6 3 rfl rfl rfl rfl (Nat.le_of_ble_eq_true rfl) d_K_nextBad_45 ⟨Nat.le_of_ble_eq_true rfl, Nat.le_of_ble_eq_true rfl⟩ rfl (fun r4 σ3 h => ?_)
        exact w_K_nextBad_48 X ih h
      · replace h := h.2 hc
        refine jv_aload_n B d_K_nextBad_21 rfl 0 rfl ?_
        refine fg_K_map B hts hown hK d_K_nextBad_22 ?_
        refine jv_iconst (v := 3) B d_K_nextBad_25 (by decide) ?_
        refine jv_aload_n B d_K_nextBad_26 rfl 0 rfl ?_
        refine fg_K_position B hts hown hK d_K_nextBad_27 ?_
        refine jv_civ (As := [.int 3, .int (σ1 8 3)]) B hml hown hts hK hA (c_S_firstFrom (ad := ad) (cI := cI) (cA := cA) (cL := cL) (F := F) h) (cwV 2 hts g_K_70 rfl rfl rfl hd_S_firstFrom ⟨Nat.le_of_ble_eq_true rfl, Nat.le_of_ble_eq_true rfl⟩) 6 3 rfl rfl rfl rfl (Nat.le_of_ble_eq_true rfl) d_K_nextBad_30 ⟨Nat.le_of_ble_eq_true rfl, Nat.le_of_ble_eq_true rfl⟩ rfl (fun r7 σ6 h => ?_)
        refine jv_goto (tgt := 48) B d_K_nextBad_33 (by decide) ?_
        exact w_K_nextBad_48 X ih h
set_option maxRecDepth 100000 in
theorem w_K_nextBad_0 (X : jv_C p s m args meth c b_K_nextBad 3 (some .int) y_K_nextBad wb D jClasses (jTy cI cA cL) A) {post : Int32 → jS → Prop} {σ : jS} (h : p_K_nextBad σ post) : jv_V p l e (rmk 3 0 0) s m args below meth c D jClasses A 3 0 0 (MQ below (va_Qi post (jv_End D jClasses (jTy cI cA cL) A (fun σ => cw ad cI cA σ F)) A) args s 0 0 A) (cw ad cI cA σ F) [(0, .ref (ad 8))] 0 [] := by
  obtain ⟨B, hml, hown, hts, hK, hA, hr, hlk, hnm⟩ := id X
  unfold p_K_nextBad at h
  refine jv_aload_n B d_K_nextBad_0 rfl 0 rfl ?_
  refine fg_K_round B hts hown hK d_K_nextBad_1 ?_
  refine jv_istore_n (lv' := [(1, .int (σ 8 5)), (0, .ref (ad 8))]) B d_K_nextBad_4 rfl (by decide) rfl ?_
  refine jv_sub [1, 0] rfl ?_
  obtain ⟨n9, h⟩ := h
  exact w_K_nextBad_5 X n9 _ _ h
theorem c_K_nextBad {l : Launch} {D : va_G} {A : Nat → Prop} {ad : Nat → Nat} {cI cA cL : ClassId} {F : va_W} {σ : jS} {post : Int32 → jS → Prop} (h : p_K_nextBad σ post) : Met l y_K_nextBad (Cond.code y_K_nextBad b_K_nextBad 3 (some .int) :: wb) (rmk 3 0 0) (jv_Pre D jClasses (jTy cI cA cL) A (cw ad cI cA σ F) [.ref (ad 8)]) (va_Qi post (jv_End D jClasses (jTy cI cA cL) A (fun σ => cw ad cI cA σ F)) A) 0 0 A :=
  jv_ofB (by decide) (Nat.le_of_ble_eq_true rfl) (fun p e s m below meth c X => w_K_nextBad_0 X h)
set_option maxRecDepth 100000 in
theorem w_K_retry_0 (X : jv_C p s m args meth c b_K_retry 2 (some .boolean) y_K_retry wb D jClasses (jTy cI cA cL) A) {post : Int32 → jS → Prop} {σ : jS} (h : p_K_retry σ post) : jv_V p l e (rmk 4 0 0) s m args below meth c D jClasses A 2 0 0 (MQ below (va_Qi post (jv_End D jClasses (jTy cI cA cL) A (fun σ => cw ad cI cA σ F)) A) args s 0 0 A) (cw ad cI cA σ F) [(0, .ref (ad 8))] 0 [] := by
  obtain ⟨B, hml, hown, hts, hK, hA, hr, hlk, hnm⟩ := id X
  unfold p_K_retry at h
  refine jv_aload_n B d_K_retry_0 rfl 0 rfl ?_
  refine jv_civ (As := []) B hml hown hts hK hA (c_K_nextBad (ad := ad) (cI := cI) (cA := cA) (cL := cL) (F := F) h) (cwV 0 hts g_K_100 rfl rfl rfl hd_K_nextBad ⟨Nat.le_of_ble_eq_true rfl, Nat.le_of_ble_eq_true rfl⟩) 8 0 rfl rfl rfl rfl (Nat.le_of_ble_eq_true rfl) d_K_retry_1 ⟨Nat.le_of_ble_eq_true rfl, Nat.le_of_ble_eq_true rfl⟩ rfl (fun r2 σ1 h => ?_)
  refine jv_istore_n (lv' := [(1, .int r2), (0, .ref (ad 8))]) B d_K_retry_4 rfl (by decide) rfl ?_
  refine jv_iload_n B d_K_retry_5 rfl 0 rfl ?_
  refine jv_iconst (v := (-1)) B d_K_retry_6 (by decide) ?_
  refine jv_icmp_ne (tgt := 12) B d_K_retry_7 (by decide) (fun hc => ?_) (fun hc => ?_)
  · replace h := h.1 hc
    refine jv_aload_n B d_K_retry_12 rfl 1 rfl ?_
    refine jv_iload_n B d_K_retry_13 rfl 0 rfl ?_
    refine jv_iload_n B d_K_retry_14 rfl 0 rfl ?_
    refine jv_iconst (v := 1) B d_K_retry_15 (by decide) ?_
    refine jv_iadd B d_K_retry_16 ?_
    refine jv_iconst (v := 3) B d_K_retry_17 (by decide) ?_
    refine jv_civ (As := [.int r2, .int (r2 + 1), .int 3]) B hml hown hts hK hA (c_K_rescue (ad := ad) (cI := cI) (cA := cA) (cL := cL) (F := F) h) (cwV 3 hts g_K_77 rfl rfl rfl hd_K_rescue ⟨Nat.le_of_ble_eq_true rfl, Nat.le_of_ble_eq_true rfl⟩) 8 0 rfl rfl rfl rfl (Nat.le_of_ble_eq_true rfl) d_K_retry_18 ⟨Nat.le_of_ble_eq_true rfl, Nat.le_of_ble_eq_true rfl⟩ rfl (fun r4 σ3 h => ?_)
    refine jv_pop B d_K_retry_21 rfl ?_
    refine jv_aload_n B d_K_retry_22 rfl 1 rfl ?_
    refine jv_aload_n B d_K_retry_23 rfl 1 rfl ?_
    refine jv_aload_n B d_K_retry_24 rfl 1 rfl ?_
    refine fg_K_round B hts hown hK d_K_retry_25 ?_
    refine jv_civ (As := [.int (σ3 8 5)]) B hml hown hts hK hA (c_K_goesUp (ad := ad) (cI := cI) (cA := cA) (cL := cL) (F := F) h) (cwV 1 hts g_K_103 rfl rfl rfl hd_K_goesUp ⟨Nat.le_of_ble_eq_true rfl, Nat.le_of_ble_eq_true rfl⟩) 8 0 rfl rfl rfl rfl (Nat.le_of_ble_eq_true rfl) d_K_retry_28 ⟨Nat.le_of_ble_eq_true rfl, Nat.le_of_ble_eq_true rfl⟩ rfl (fun r6 σ5 h => ?_)
    refine jv_if_eq (tgt := 40) B d_K_retry_31 (by decide) (fun hc => ?_) (fun hc => ?_)
    · replace h := h.1 hc
      refine jv_iload_n B d_K_retry_40 rfl 0 rfl ?_
      refine fs_K_position B hts hown hK d_K_retry_41 ?_
      refine jv_iconst (v := 1) B d_K_retry_44 (by decide) ?_
      exact jv_iret B hr (nz h.1) hlk hK _ rfl h.2 d_K_retry_45
    · replace h := h.2 hc
      refine jv_iload_n B d_K_retry_34 rfl 0 rfl ?_
      refine jv_iconst (v := 1) B d_K_retry_35 (by decide) ?_
      refine jv_iadd B d_K_retry_36 ?_
      refine jv_goto (tgt := 41) B d_K_retry_37 (by decide) ?_
      refine fs_K_position B hts hown hK d_K_retry_41 ?_
      refine jv_iconst (v := 1) B d_K_retry_44 (by decide) ?_
      exact jv_iret B hr (nz h.1) hlk hK _ rfl h.2 d_K_retry_45
  · replace h := h.2 hc
    refine jv_iconst (v := 0) B d_K_retry_10 (by decide) ?_
    exact jv_iret B hr (nz h.1) hlk hK _ rfl h.2 d_K_retry_11
theorem c_K_retry {l : Launch} {D : va_G} {A : Nat → Prop} {ad : Nat → Nat} {cI cA cL : ClassId} {F : va_W} {σ : jS} {post : Int32 → jS → Prop} (h : p_K_retry σ post) : Met l y_K_retry (Cond.code y_K_retry b_K_retry 2 (some .boolean) :: wb) (rmk 4 0 0) (jv_Pre D jClasses (jTy cI cA cL) A (cw ad cI cA σ F) [.ref (ad 8)]) (va_Qi post (jv_End D jClasses (jTy cI cA cL) A (fun σ => cw ad cI cA σ F)) A) 0 0 A :=
  jv_ofB (by decide) (Nat.le_of_ble_eq_true rfl) (fun p e s m below meth c X => w_K_retry_0 X h)
set_option maxRecDepth 100000 in
theorem w_K_readIn_0 (X : jv_C p s m args meth c b_K_readIn 2 (some .boolean) y_K_readIn wb D jClasses (jTy cI cA cL) A) {post : Int32 → jS → Prop} {σ : jS} {v1 : Int32} (h : p_K_readIn σ v1 post) : jv_V p l e (rmk 5 0 0) s m args below meth c D jClasses A 2 0 0 (MQ below (va_Qi post (jv_End D jClasses (jTy cI cA cL) A (fun σ => cw ad cI cA σ F)) A) args s 0 0 A) (cw ad cI cA σ F) [(0, .ref (ad 8)), (1, .int v1)] 0 [] := by
  obtain ⟨B, hml, hown, hts, hK, hA, hr, hlk, hnm⟩ := id X
  unfold p_K_readIn at h
  refine jv_iload_n B d_K_readIn_0 rfl 1 rfl ?_
  refine jv_tsw (n := 6) (tg := fun j => match j with | 0 => 40 | 1 => 46 | 2 => 51 | 3 => 57 | 4 => 62 | 5 => 67 | _ => 72) (tgd := 72) B d_K_readIn_1 (by decide) (by decide) (by decide) (fun j hj hc => ?_) (fun hc => ?_)
  · match j, hj with
    | 0, _ =>
      replace h := h.1 hc
      refine jv_aload_n B d_K_readIn_40 rfl 0 rfl ?_
      refine jv_iconst (v := 1) B d_K_readIn_41 (by decide) ?_
      refine jv_civ (As := [.int 1]) B hml hown hts hK hA (c_K_readForward (ad := ad) (cI := cI) (cA := cA) (cL := cL) (F := F) h) (cwV 1 hts g_K_53 rfl rfl rfl hd_K_readForward ⟨Nat.le_of_ble_eq_true rfl, Nat.le_of_ble_eq_true rfl⟩) 8 0 rfl rfl rfl rfl (Nat.le_of_ble_eq_true rfl) d_K_readIn_42 ⟨Nat.le_of_ble_eq_true rfl, Nat.le_of_ble_eq_true rfl⟩ rfl (fun r2 σ1 h => ?_)
      exact jv_iret B hr (nz h.1) hlk hK _ rfl h.2 d_K_readIn_45
    | 1, _ =>
      replace h := h.2.1 hc
      refine jv_aload_n B d_K_readIn_46 rfl 0 rfl ?_
      refine jv_civ (As := []) B hml hown hts hK hA (c_K_readBackward (ad := ad) (cI := cI) (cA := cA) (cL := cL) (F := F) h) (cwV 0 hts g_K_57 rfl rfl rfl hd_K_readBackward ⟨Nat.le_of_ble_eq_true rfl, Nat.le_of_ble_eq_true rfl⟩) 8 0 rfl rfl rfl rfl (Nat.le_of_ble_eq_true rfl) d_K_readIn_47 ⟨Nat.le_of_ble_eq_true rfl, Nat.le_of_ble_eq_true rfl⟩ rfl (fun r4 σ3 h => ?_)
      exact jv_iret B hr (nz h.1) hlk hK _ rfl h.2 d_K_readIn_50
    | 2, _ =>
      replace h := h.2.2.1 hc
      refine jv_aload_n B d_K_readIn_51 rfl 0 rfl ?_
      refine jv_iconst (v := 0) B d_K_readIn_52 (by decide) ?_
      refine jv_civ (As := [.int 0]) B hml hown hts hK hA (c_K_readForward (ad := ad) (cI := cI) (cA := cA) (cL := cL) (F := F) h) (cwV 1 hts g_K_53 rfl rfl rfl hd_K_readForward ⟨Nat.le_of_ble_eq_true rfl, Nat.le_of_ble_eq_true rfl⟩) 8 0 rfl rfl rfl rfl (Nat.le_of_ble_eq_true rfl) d_K_readIn_53 ⟨Nat.le_of_ble_eq_true rfl, Nat.le_of_ble_eq_true rfl⟩ rfl (fun r6 σ5 h => ?_)
      exact jv_iret B hr (nz h.1) hlk hK _ rfl h.2 d_K_readIn_56
    | 3, _ =>
      replace h := h.2.2.2.1 hc
      refine jv_aload_n B d_K_readIn_57 rfl 0 rfl ?_
      refine jv_civ (As := []) B hml hown hts hK hA (c_K_trim (ad := ad) (cI := cI) (cA := cA) (cL := cL) (F := F) h) (cwV 0 hts g_K_61 rfl rfl rfl hd_K_trim ⟨Nat.le_of_ble_eq_true rfl, Nat.le_of_ble_eq_true rfl⟩) 8 0 rfl rfl rfl rfl (Nat.le_of_ble_eq_true rfl) d_K_readIn_58 ⟨Nat.le_of_ble_eq_true rfl, Nat.le_of_ble_eq_true rfl⟩ rfl (fun r8 σ7 h => ?_)
      exact jv_iret B hr (nz h.1) hlk hK _ rfl h.2 d_K_readIn_61
    | 4, _ =>
      replace h := h.2.2.2.2.1 hc
      refine jv_aload_n B d_K_readIn_62 rfl 0 rfl ?_
      refine jv_civ (As := []) B hml hown hts hK hA (c_K_scrape (ad := ad) (cI := cI) (cA := cA) (cL := cL) (F := F) h) (cwV 0 hts g_K_64 rfl rfl rfl hd_K_scrape ⟨Nat.le_of_ble_eq_true rfl, Nat.le_of_ble_eq_true rfl⟩) 8 0 rfl rfl rfl rfl (Nat.le_of_ble_eq_true rfl) d_K_readIn_63 ⟨Nat.le_of_ble_eq_true rfl, Nat.le_of_ble_eq_true rfl⟩ rfl (fun r10 σ9 h => ?_)
      exact jv_iret B hr (nz h.1) hlk hK _ rfl h.2 d_K_readIn_66
    | 5, _ =>
      replace h := h.2.2.2.2.2.1 hc
      refine jv_aload_n B d_K_readIn_67 rfl 0 rfl ?_
      refine jv_civ (As := []) B hml hown hts hK hA (c_K_retry (ad := ad) (cI := cI) (cA := cA) (cL := cL) (F := F) h) (cwV 0 hts g_K_67 rfl rfl rfl hd_K_retry ⟨Nat.le_of_ble_eq_true rfl, Nat.le_of_ble_eq_true rfl⟩) 8 0 rfl rfl rfl rfl (Nat.le_of_ble_eq_true rfl) d_K_readIn_68 ⟨Nat.le_of_ble_eq_true rfl, Nat.le_of_ble_eq_true rfl⟩ rfl (fun r12 σ11 h => ?_)
      exact jv_iret B hr (nz h.1) hlk hK _ rfl h.2 d_K_readIn_71
    | j + 6, hj => exact absurd hj (by omega)
  · replace h := h.2.2.2.2.2.2 hc
    refine jv_iconst (v := 0) B d_K_readIn_72 (by decide) ?_
    exact jv_iret B hr (nz h.1) hlk hK _ rfl h.2 d_K_readIn_73
theorem c_K_readIn {l : Launch} {D : va_G} {A : Nat → Prop} {ad : Nat → Nat} {cI cA cL : ClassId} {F : va_W} {σ : jS} {v1 : Int32} {post : Int32 → jS → Prop} (h : p_K_readIn σ v1 post) : Met l y_K_readIn (Cond.code y_K_readIn b_K_readIn 2 (some .boolean) :: wb) (rmk 5 0 0) (jv_Pre D jClasses (jTy cI cA cL) A (cw ad cI cA σ F) [.ref (ad 8), .int v1]) (va_Qi post (jv_End D jClasses (jTy cI cA cL) A (fun σ => cw ad cI cA σ F)) A) 0 0 A :=
  jv_ofB (by decide) (Nat.le_of_ble_eq_true rfl) (fun p e s m below meth c X => w_K_readIn_0 X h)
set_option maxRecDepth 100000 in
theorem w_K_makeStep_5 (X : jv_C p s m args meth c b_K_makeStep 2 (some .int) y_K_makeStep wb D jClasses (jTy cI cA cL) A) {post : Int32 → jS → Prop} : ∀ (n : Nat), ∀ (σ : jS) (v1 : Int32), p_K_makeStep_5 post n σ v1 → jv_V p l e (rmk 6 0 0) s m args below meth c D jClasses A 2 0 0 (MQ below (va_Qi post (jv_End D jClasses (jTy cI cA cL) A (fun σ => cw ad cI cA σ F)) A) args s 0 0 A) (cw ad cI cA σ F) [(0, .ref (ad 8)), (1, .int v1)] 5 [] := by
  obtain ⟨B, hml, hown, hts, hK, hA, hr, hlk, hnm⟩ := id X
  intro n
  induction n with
  | zero => intro σ v1 h; exact h.elim
  | succ n ih =>
    intro σ v1 h
    rw [p_K_makeStep_5] at h
    refine jv_iload_n B d_K_makeStep_5 rfl 1 rfl ?_
    refine jv_bipush (v := 6) B d_K_makeStep_6 (by decide) ?_
    refine jv_icmp_ge (tgt := 34) B d_K_makeStep_8 (by decide) (fun hc => ?_) (fun hc => ?_)
    · replace h := h.1 hc
      refine jv_bipush (v := 6) B d_K_makeStep_34 (by decide) ?_
      exact jv_iret B hr rfl hlk hK _ rfl h d_K_makeStep_36
    · replace h := h.2 hc
      refine jv_aload_n B d_K_makeStep_11 rfl 0 rfl ?_
      refine jv_iload_n B d_K_makeStep_12 rfl 1 rfl ?_
      refine jv_civ (As := [.int v1]) B hml hown hts hK hA (c_K_readIn (ad := ad) (cI := cI) (cA := cA) (cL := cL) (F := F) h) (cwV 1 hts g_K_49 rfl rfl rfl hd_K_readIn ⟨Nat.le_of_ble_eq_true rfl, Nat.le_of_ble_eq_true rfl⟩) 8 0 rfl rfl rfl rfl (Nat.le_of_ble_eq_true rfl) d_K_makeStep_13 ⟨Nat.le_of_ble_eq_true rfl, Nat.le_of_ble_eq_true rfl⟩ rfl (fun r2 σ1 h => ?_)
      refine jv_if_eq (tgt := 21) B d_K_makeStep_16 (by decide) (fun hc => ?_) (fun hc => ?_)
      · replace h := h.1 hc
        refine jv_aload_n B d_K_makeStep_21 rfl 0 rfl ?_
        refine jv_iload_n B d_K_makeStep_22 rfl 1 rfl ?_
        refine jv_iconst (v := 1) B d_K_makeStep_23 (by decide) ?_
        refine jv_iadd B d_K_makeStep_24 ?_
        refine jv_cvv (As := [.int (v1 + 1)]) B hml hown hts hK hA (c_K_enter (ad := ad) (cI := cI) (cA := cA) (cL := cL) (F := F) h) (cwV 1 hts g_K_26 rfl rfl rfl hd_K_enter ⟨Nat.le_of_ble_eq_true rfl, Nat.le_of_ble_eq_true rfl⟩) 8 0 rfl rfl rfl rfl (Nat.le_of_ble_eq_true rfl) d_K_makeStep_25 ⟨Nat.le_of_ble_eq_true rfl, Nat.le_of_ble_eq_true rfl⟩ rfl (fun σ3 h => ?_)
        refine jv_iinc (n9 := 1) (v := v1 + 1) (lv' := [(1, .int (v1 + 1)), (0, .ref (ad 8))]) B d_K_makeStep_28 rfl rfl (by decide) rfl ?_
        refine jv_goto (tgt := 5) B d_K_makeStep_31 (by decide) ?_
        refine jv_sub [1, 0] rfl ?_
        exact ih _ _ h
      · replace h := h.2 hc
        refine jv_iload_n B d_K_makeStep_19 rfl 1 rfl ?_
        exact jv_iret B hr rfl hlk hK _ rfl h d_K_makeStep_20
set_option maxRecDepth 100000 in
theorem w_K_makeStep_0 (X : jv_C p s m args meth c b_K_makeStep 2 (some .int) y_K_makeStep wb D jClasses (jTy cI cA cL) A) {post : Int32 → jS → Prop} {σ : jS} (h : p_K_makeStep σ post) : jv_V p l e (rmk 6 0 0) s m args below meth c D jClasses A 2 0 0 (MQ below (va_Qi post (jv_End D jClasses (jTy cI cA cL) A (fun σ => cw ad cI cA σ F)) A) args s 0 0 A) (cw ad cI cA σ F) [(0, .ref (ad 8))] 0 [] := by
  obtain ⟨B, hml, hown, hts, hK, hA, hr, hlk, hnm⟩ := id X
  unfold p_K_makeStep at h
  refine jv_aload_n B d_K_makeStep_0 rfl 0 rfl ?_
  refine fg_K_phaseNow B hts hown hK d_K_makeStep_1 ?_
  refine jv_istore_n (lv' := [(1, .int (σ 8 2)), (0, .ref (ad 8))]) B d_K_makeStep_4 rfl (by decide) rfl ?_
  refine jv_sub [1, 0] rfl ?_
  obtain ⟨n9, h⟩ := h
  exact w_K_makeStep_5 X n9 _ _ h
theorem c_K_makeStep {l : Launch} {D : va_G} {A : Nat → Prop} {ad : Nat → Nat} {cI cA cL : ClassId} {F : va_W} {σ : jS} {post : Int32 → jS → Prop} (h : p_K_makeStep σ post) : Met l y_K_makeStep (Cond.code y_K_makeStep b_K_makeStep 2 (some .int) :: wb) (rmk 6 0 0) (jv_Pre D jClasses (jTy cI cA cL) A (cw ad cI cA σ F) [.ref (ad 8)]) (va_Qi post (jv_End D jClasses (jTy cI cA cL) A (fun σ => cw ad cI cA σ F)) A) 0 0 A :=
  jv_ofB (by decide) (Nat.le_of_ble_eq_true rfl) (fun p e s m below meth c X => w_K_makeStep_0 X h)
set_option maxRecDepth 100000 in
theorem w_D_lay_0 (X : jv_C p s m args meth c b_D_lay 2 none y_D_lay wb D jClasses (jTy cI cA cL) A) {post : jS → Prop} {σ : jS} {v1 : Int32} (h : p_D_lay σ v1 post) : jv_V p l e (rmk 2 0 0) s m args below meth c D jClasses A 2 0 0 (MQ below (va_Qv post (jv_End D jClasses (jTy cI cA cL) A (fun σ => cw ad cI cA σ F)) A) args s 0 0 A) (cw ad cI cA σ F) [(0, .ref (ad 1)), (1, .int v1)] 0 [] := by
  obtain ⟨B, hml, hown, hts, hK, hA, hr, hlk, hnm⟩ := id X
  unfold p_D_lay at h
  refine jv_aload_n B d_D_lay_0 rfl 0 rfl ?_
  refine jv_iload_n B d_D_lay_1 rfl 1 rfl ?_
  refine fs_D_sectors B hts hown hK d_D_lay_2 ?_
  refine jv_aload_n B d_D_lay_5 rfl 0 rfl ?_
  refine jv_iconst (v := 0) B d_D_lay_6 (by decide) ?_
  refine fs_D_stretches B hts hown hK d_D_lay_7 ?_
  refine jv_aload_n B d_D_lay_10 rfl 0 rfl ?_
  refine jv_iconst (v := 0) B d_D_lay_11 (by decide) ?_
  refine fs_D_failedStretches B hts hown hK d_D_lay_12 ?_
  refine jv_aload_n B d_D_lay_15 rfl 0 rfl ?_
  refine fg_D_words B hts hown hK d_D_lay_16 ?_
  refine jv_iconst (v := 0) B d_D_lay_19 (by decide) ?_
  refine jv_fill (ws' := cw ad cI cA (upA (up2 (up2 (up2 σ 1 4 v1) 1 5 0) 1 6 0) 2 64 0) F) B hml hown hts hK hA kw_291 2 rfl rfl (by decide) rfl (Nat.le_of_ble_eq_true rfl) (Nat.le_of_ble_eq_true rfl) ⟨Nat.le_of_ble_eq_true rfl, Nat.le_of_ble_eq_true rfl⟩ (Nat.le_of_ble_eq_true rfl) d_D_lay_20 ?_
  refine jv_aload_n B d_D_lay_23 rfl 0 rfl ?_
  refine fg_D_failuresLeft B hts hown hK d_D_lay_24 ?_
  refine jv_iconst (v := 0) B d_D_lay_27 (by decide) ?_
  refine jv_fill (ws' := cw ad cI cA (upA (upA (up2 (up2 (up2 σ 1 4 v1) 1 5 0) 1 6 0) 2 64 0) 3 64 0) F) B hml hown hts hK hA kw_291 3 rfl rfl (by decide) rfl (Nat.le_of_ble_eq_true rfl) (Nat.le_of_ble_eq_true rfl) ⟨Nat.le_of_ble_eq_true rfl, Nat.le_of_ble_eq_true rfl⟩ (Nat.le_of_ble_eq_true rfl) d_D_lay_28 ?_
  refine jv_aload_n B d_D_lay_31 rfl 0 rfl ?_
  refine fg_D_readCounts B hts hown hK d_D_lay_32 ?_
  refine jv_iconst (v := 0) B d_D_lay_35 (by decide) ?_
  refine jv_fill (ws' := cw ad cI cA (upA (upA (upA (up2 (up2 (up2 σ 1 4 v1) 1 5 0) 1 6 0) 2 64 0) 3 64 0) 4 64 0) F) B hml hown hts hK hA kw_291 4 rfl rfl (by decide) rfl (Nat.le_of_ble_eq_true rfl) (Nat.le_of_ble_eq_true rfl) ⟨Nat.le_of_ble_eq_true rfl, Nat.le_of_ble_eq_true rfl⟩ (Nat.le_of_ble_eq_true rfl) d_D_lay_36 ?_
  refine jv_aload_n B d_D_lay_39 rfl 0 rfl ?_
  refine fg_D_target B hts hown hK d_D_lay_40 ?_
  refine jv_iconst (v := 0) B d_D_lay_43 (by decide) ?_
  refine jv_fill (ws' := cw ad cI cA (upA (upA (upA (upA (up2 (up2 (up2 σ 1 4 v1) 1 5 0) 1 6 0) 2 64 0) 3 64 0) 4 64 0) 5 64 0) F) B hml hown hts hK hA kw_291 5 rfl rfl (by decide) rfl (Nat.le_of_ble_eq_true rfl) (Nat.le_of_ble_eq_true rfl) ⟨Nat.le_of_ble_eq_true rfl, Nat.le_of_ble_eq_true rfl⟩ (Nat.le_of_ble_eq_true rfl) d_D_lay_44 ?_
  exact jv_vret B hr hlk hK _ rfl h d_D_lay_47
theorem c_D_lay {l : Launch} {D : va_G} {A : Nat → Prop} {ad : Nat → Nat} {cI cA cL : ClassId} {F : va_W} {σ : jS} {v1 : Int32} {post : jS → Prop} (h : p_D_lay σ v1 post) : Met l y_D_lay (Cond.code y_D_lay b_D_lay 2 none :: wb) (rmk 2 0 0) (jv_Pre D jClasses (jTy cI cA cL) A (cw ad cI cA σ F) [.ref (ad 1), .int v1]) (va_Qv post (jv_End D jClasses (jTy cI cA cL) A (fun σ => cw ad cI cA σ F)) A) 0 0 A :=
  jv_ofB (by decide) (Nat.le_of_ble_eq_true rfl) (fun p e s m below meth c X => w_D_lay_0 X h)
set_option maxRecDepth 100000 in
theorem w_D_size_0 (X : jv_C p s m args meth c b_D_size 1 (some .int) y_D_size wb D jClasses (jTy cI cA cL) A) {post : Int32 → jS → Prop} {σ : jS} (h : p_D_size σ post) : jv_V p l e (rmk 1 0 0) s m args below meth c D jClasses A 1 0 0 (MQ below (va_Qi post (jv_End D jClasses (jTy cI cA cL) A (fun σ => cw ad cI cA σ F)) A) args s 0 0 A) (cw ad cI cA σ F) [(0, .ref (ad 1))] 0 [] := by
  obtain ⟨B, hml, hown, hts, hK, hA, hr, hlk, hnm⟩ := id X
  unfold p_D_size at h
  refine jv_aload_n B d_D_size_0 rfl 0 rfl ?_
  refine fg_D_sectors B hts hown hK d_D_size_1 ?_
  exact jv_iret B hr rfl hlk hK _ rfl h d_D_size_4
theorem c_D_size {l : Launch} {D : va_G} {A : Nat → Prop} {ad : Nat → Nat} {cI cA cL : ClassId} {F : va_W} {σ : jS} {post : Int32 → jS → Prop} (h : p_D_size σ post) : Met l y_D_size (Cond.code y_D_size b_D_size 1 (some .int) :: wb) (rmk 1 0 0) (jv_Pre D jClasses (jTy cI cA cL) A (cw ad cI cA σ F) [.ref (ad 1)]) (va_Qi post (jv_End D jClasses (jTy cI cA cL) A (fun σ => cw ad cI cA σ F)) A) 0 0 A :=
  jv_ofB (by decide) (Nat.le_of_ble_eq_true rfl) (fun p e s m below meth c X => w_D_size_0 X h)
set_option maxRecDepth 100000 in
theorem w_D_has_0 (X : jv_C p s m args meth c b_D_has 2 (some .boolean) y_D_has wb D jClasses (jTy cI cA cL) A) {post : Int32 → jS → Prop} {σ : jS} {v1 : Int32} (h : p_D_has σ v1 post) : jv_V p l e (rmk 1 0 0) s m args below meth c D jClasses A 2 0 0 (MQ below (va_Qi post (jv_End D jClasses (jTy cI cA cL) A (fun σ => cw ad cI cA σ F)) A) args s 0 0 A) (cw ad cI cA σ F) [(0, .ref (ad 1)), (1, .int v1)] 0 [] := by
  obtain ⟨B, hml, hown, hts, hK, hA, hr, hlk, hnm⟩ := id X
  unfold p_D_has at h
  refine jv_iload_n B d_D_has_0 rfl 1 rfl ?_
  refine jv_if_lt (tgt := 16) B d_D_has_1 (by decide) (fun hc => ?_) (fun hc => ?_)
  · replace h := h.1 hc
    refine jv_iconst (v := 0) B d_D_has_16 (by decide) ?_
    exact jv_iret B hr (nz h.1) hlk hK _ rfl h.2 d_D_has_17
  · replace h := h.2 hc
    refine jv_iload_n B d_D_has_4 rfl 1 rfl ?_
    refine jv_aload_n B d_D_has_5 rfl 0 rfl ?_
    refine fg_D_sectors B hts hown hK d_D_has_6 ?_
    refine jv_icmp_ge (tgt := 16) B d_D_has_9 (by decide) (fun hc => ?_) (fun hc => ?_)
    · replace h := h.1 hc
      refine jv_iconst (v := 0) B d_D_has_16 (by decide) ?_
      exact jv_iret B hr (nz h.1) hlk hK _ rfl h.2 d_D_has_17
    · replace h := h.2 hc
      refine jv_iconst (v := 1) B d_D_has_12 (by decide) ?_
      refine jv_goto (tgt := 17) B d_D_has_13 (by decide) ?_
      exact jv_iret B hr (nz h.1) hlk hK _ rfl h.2 d_D_has_17
theorem c_D_has {l : Launch} {D : va_G} {A : Nat → Prop} {ad : Nat → Nat} {cI cA cL : ClassId} {F : va_W} {σ : jS} {v1 : Int32} {post : Int32 → jS → Prop} (h : p_D_has σ v1 post) : Met l y_D_has (Cond.code y_D_has b_D_has 2 (some .boolean) :: wb) (rmk 1 0 0) (jv_Pre D jClasses (jTy cI cA cL) A (cw ad cI cA σ F) [.ref (ad 1), .int v1]) (va_Qi post (jv_End D jClasses (jTy cI cA cL) A (fun σ => cw ad cI cA σ F)) A) 0 0 A :=
  jv_ofB (by decide) (Nat.le_of_ble_eq_true rfl) (fun p e s m below meth c X => w_D_has_0 X h)
set_option maxRecDepth 100000 in
theorem w_D_put_0 (X : jv_C p s m args meth c b_D_put 4 none y_D_put wb D jClasses (jTy cI cA cL) A) {post : jS → Prop} {σ : jS} {v1 v2 v3 : Int32} (h : p_D_put σ v1 v2 v3 post) : jv_V p l e (rmk 2 0 0) s m args below meth c D jClasses A 4 0 0 (MQ below (va_Qv post (jv_End D jClasses (jTy cI cA cL) A (fun σ => cw ad cI cA σ F)) A) args s 0 0 A) (cw ad cI cA σ F) [(0, .ref (ad 1)), (1, .int v1), (2, .int v2), (3, .int v3)] 0 [] := by
  obtain ⟨B, hml, hown, hts, hK, hA, hr, hlk, hnm⟩ := id X
  unfold p_D_put at h
  refine jv_aload_n B d_D_put_0 rfl 0 rfl ?_
  refine jv_iload_n B d_D_put_1 rfl 1 rfl ?_
  refine jv_civ (As := [.int v1]) B hml hown hts hK hA (c_D_has (ad := ad) (cI := cI) (cA := cA) (cL := cL) (F := F) h) (cwV 1 hts g_D_40 rfl rfl rfl hd_D_has ⟨Nat.le_of_ble_eq_true rfl, Nat.le_of_ble_eq_true rfl⟩) 1 1 rfl rfl rfl rfl (Nat.le_of_ble_eq_true rfl) d_D_put_2 ⟨Nat.le_of_ble_eq_true rfl, Nat.le_of_ble_eq_true rfl⟩ rfl (fun r2 σ1 h => ?_)
  refine jv_if_eq (tgt := 22) B d_D_put_5 (by decide) (fun hc => ?_) (fun hc => ?_)
  · replace h := h.1 hc
    exact jv_vret B hr hlk hK _ rfl h d_D_put_22
  · replace h := h.2 hc
    refine jv_aload_n B d_D_put_8 rfl 0 rfl ?_
    refine fg_D_words B hts hown hK d_D_put_9 ?_
    refine jv_iload_n B d_D_put_12 rfl 1 rfl ?_
    refine jv_iload_n B d_D_put_13 rfl 2 rfl ?_
    refine sd_c_2 B hK h.1 d_D_put_14 ?_
    replace h := h.2
    refine jv_aload_n B d_D_put_15 rfl 0 rfl ?_
    refine fg_D_failuresLeft B hts hown hK d_D_put_16 ?_
    refine jv_iload_n B d_D_put_19 rfl 1 rfl ?_
    refine jv_iload_n B d_D_put_20 rfl 3 rfl ?_
    refine sd_c_3 B hK h.1 d_D_put_21 ?_
    replace h := h.2
    exact jv_vret B hr hlk hK _ rfl h d_D_put_22
theorem c_D_put {l : Launch} {D : va_G} {A : Nat → Prop} {ad : Nat → Nat} {cI cA cL : ClassId} {F : va_W} {σ : jS} {v1 v2 v3 : Int32} {post : jS → Prop} (h : p_D_put σ v1 v2 v3 post) : Met l y_D_put (Cond.code y_D_put b_D_put 4 none :: wb) (rmk 2 0 0) (jv_Pre D jClasses (jTy cI cA cL) A (cw ad cI cA σ F) [.ref (ad 1), .int v1, .int v2, .int v3]) (va_Qv post (jv_End D jClasses (jTy cI cA cL) A (fun σ => cw ad cI cA σ F)) A) 0 0 A :=
  jv_ofB (by decide) (Nat.le_of_ble_eq_true rfl) (fun p e s m below meth c X => w_D_put_0 X h)
set_option maxRecDepth 100000 in
theorem w_D_deliver_0 (X : jv_C p s m args meth c b_D_deliver 3 none y_D_deliver wb D jClasses (jTy cI cA cL) A) {post : jS → Prop} {σ : jS} {v1 v2 : Int32} (h : p_D_deliver σ v1 v2 post) : jv_V p l e (rmk 2 0 0) s m args below meth c D jClasses A 3 0 0 (MQ below (va_Qv post (jv_End D jClasses (jTy cI cA cL) A (fun σ => cw ad cI cA σ F)) A) args s 0 0 A) (cw ad cI cA σ F) [(0, .ref (ad 1)), (1, .int v1), (2, .int v2)] 0 [] := by
  obtain ⟨B, hml, hown, hts, hK, hA, hr, hlk, hnm⟩ := id X
  unfold p_D_deliver at h
  refine jv_aload_n B d_D_deliver_0 rfl 0 rfl ?_
  refine jv_iload_n B d_D_deliver_1 rfl 1 rfl ?_
  refine jv_civ (As := [.int v1]) B hml hown hts hK hA (c_D_has (ad := ad) (cI := cI) (cA := cA) (cL := cL) (F := F) h) (cwV 1 hts g_D_40 rfl rfl rfl hd_D_has ⟨Nat.le_of_ble_eq_true rfl, Nat.le_of_ble_eq_true rfl⟩) 1 1 rfl rfl rfl rfl (Nat.le_of_ble_eq_true rfl) d_D_deliver_2 ⟨Nat.le_of_ble_eq_true rfl, Nat.le_of_ble_eq_true rfl⟩ rfl (fun r2 σ1 h => ?_)
  refine jv_if_eq (tgt := 15) B d_D_deliver_5 (by decide) (fun hc => ?_) (fun hc => ?_)
  · replace h := h.1 hc
    exact jv_vret B hr hlk hK _ rfl h d_D_deliver_15
  · replace h := h.2 hc
    refine jv_aload_n B d_D_deliver_8 rfl 0 rfl ?_
    refine fg_D_target B hts hown hK d_D_deliver_9 ?_
    refine jv_iload_n B d_D_deliver_12 rfl 1 rfl ?_
    refine jv_iload_n B d_D_deliver_13 rfl 2 rfl ?_
    refine sd_c_5 B hK h.1 d_D_deliver_14 ?_
    replace h := h.2
    exact jv_vret B hr hlk hK _ rfl h d_D_deliver_15
theorem c_D_deliver {l : Launch} {D : va_G} {A : Nat → Prop} {ad : Nat → Nat} {cI cA cL : ClassId} {F : va_W} {σ : jS} {v1 v2 : Int32} {post : jS → Prop} (h : p_D_deliver σ v1 v2 post) : Met l y_D_deliver (Cond.code y_D_deliver b_D_deliver 3 none :: wb) (rmk 2 0 0) (jv_Pre D jClasses (jTy cI cA cL) A (cw ad cI cA σ F) [.ref (ad 1), .int v1, .int v2]) (va_Qv post (jv_End D jClasses (jTy cI cA cL) A (fun σ => cw ad cI cA σ F)) A) 0 0 A :=
  jv_ofB (by decide) (Nat.le_of_ble_eq_true rfl) (fun p e s m below meth c X => w_D_deliver_0 X h)
set_option maxRecDepth 100000 in
theorem w_D_wordOut_0 (X : jv_C p s m args meth c b_D_wordOut 2 (some .int) y_D_wordOut wb D jClasses (jTy cI cA cL) A) {post : Int32 → jS → Prop} {σ : jS} {v1 : Int32} (h : p_D_wordOut σ v1 post) : jv_V p l e (rmk 2 0 0) s m args below meth c D jClasses A 2 0 0 (MQ below (va_Qi post (jv_End D jClasses (jTy cI cA cL) A (fun σ => cw ad cI cA σ F)) A) args s 0 0 A) (cw ad cI cA σ F) [(0, .ref (ad 1)), (1, .int v1)] 0 [] := by
  obtain ⟨B, hml, hown, hts, hK, hA, hr, hlk, hnm⟩ := id X
  unfold p_D_wordOut at h
  refine jv_aload_n B d_D_wordOut_0 rfl 0 rfl ?_
  refine jv_iload_n B d_D_wordOut_1 rfl 1 rfl ?_
  refine jv_civ (As := [.int v1]) B hml hown hts hK hA (c_D_has (ad := ad) (cI := cI) (cA := cA) (cL := cL) (F := F) h) (cwV 1 hts g_D_40 rfl rfl rfl hd_D_has ⟨Nat.le_of_ble_eq_true rfl, Nat.le_of_ble_eq_true rfl⟩) 1 1 rfl rfl rfl rfl (Nat.le_of_ble_eq_true rfl) d_D_wordOut_2 ⟨Nat.le_of_ble_eq_true rfl, Nat.le_of_ble_eq_true rfl⟩ rfl (fun r2 σ1 h => ?_)
  refine jv_if_eq (tgt := 17) B d_D_wordOut_5 (by decide) (fun hc => ?_) (fun hc => ?_)
  · replace h := h.1 hc
    refine jv_iconst (v := 0) B d_D_wordOut_17 (by decide) ?_
    exact jv_iret B hr rfl hlk hK _ rfl h d_D_wordOut_18
  · replace h := h.2 hc
    refine jv_aload_n B d_D_wordOut_8 rfl 0 rfl ?_
    refine fg_D_target B hts hown hK d_D_wordOut_9 ?_
    refine jv_iload_n B d_D_wordOut_12 rfl 1 rfl ?_
    refine ld_c_5 B hK h.1 d_D_wordOut_13 ?_
    replace h := h.2
    refine jv_goto (tgt := 18) B d_D_wordOut_14 (by decide) ?_
    exact jv_iret B hr rfl hlk hK _ rfl h d_D_wordOut_18
theorem c_D_wordOut {l : Launch} {D : va_G} {A : Nat → Prop} {ad : Nat → Nat} {cI cA cL : ClassId} {F : va_W} {σ : jS} {v1 : Int32} {post : Int32 → jS → Prop} (h : p_D_wordOut σ v1 post) : Met l y_D_wordOut (Cond.code y_D_wordOut b_D_wordOut 2 (some .int) :: wb) (rmk 2 0 0) (jv_Pre D jClasses (jTy cI cA cL) A (cw ad cI cA σ F) [.ref (ad 1), .int v1]) (va_Qi post (jv_End D jClasses (jTy cI cA cL) A (fun σ => cw ad cI cA σ F)) A) 0 0 A :=
  jv_ofB (by decide) (Nat.le_of_ble_eq_true rfl) (fun p e s m below meth c X => w_D_wordOut_0 X h)
set_option maxRecDepth 100000 in
theorem w_D_readsOf_0 (X : jv_C p s m args meth c b_D_readsOf 2 (some .int) y_D_readsOf wb D jClasses (jTy cI cA cL) A) {post : Int32 → jS → Prop} {σ : jS} {v1 : Int32} (h : p_D_readsOf σ v1 post) : jv_V p l e (rmk 2 0 0) s m args below meth c D jClasses A 2 0 0 (MQ below (va_Qi post (jv_End D jClasses (jTy cI cA cL) A (fun σ => cw ad cI cA σ F)) A) args s 0 0 A) (cw ad cI cA σ F) [(0, .ref (ad 1)), (1, .int v1)] 0 [] := by
  obtain ⟨B, hml, hown, hts, hK, hA, hr, hlk, hnm⟩ := id X
  unfold p_D_readsOf at h
  refine jv_aload_n B d_D_readsOf_0 rfl 0 rfl ?_
  refine jv_iload_n B d_D_readsOf_1 rfl 1 rfl ?_
  refine jv_civ (As := [.int v1]) B hml hown hts hK hA (c_D_has (ad := ad) (cI := cI) (cA := cA) (cL := cL) (F := F) h) (cwV 1 hts g_D_40 rfl rfl rfl hd_D_has ⟨Nat.le_of_ble_eq_true rfl, Nat.le_of_ble_eq_true rfl⟩) 1 1 rfl rfl rfl rfl (Nat.le_of_ble_eq_true rfl) d_D_readsOf_2 ⟨Nat.le_of_ble_eq_true rfl, Nat.le_of_ble_eq_true rfl⟩ rfl (fun r2 σ1 h => ?_)
  refine jv_if_eq (tgt := 17) B d_D_readsOf_5 (by decide) (fun hc => ?_) (fun hc => ?_)
  · replace h := h.1 hc
    refine jv_iconst (v := 0) B d_D_readsOf_17 (by decide) ?_
    exact jv_iret B hr rfl hlk hK _ rfl h d_D_readsOf_18
  · replace h := h.2 hc
    refine jv_aload_n B d_D_readsOf_8 rfl 0 rfl ?_
    refine fg_D_readCounts B hts hown hK d_D_readsOf_9 ?_
    refine jv_iload_n B d_D_readsOf_12 rfl 1 rfl ?_
    refine ld_c_4 B hK h.1 d_D_readsOf_13 ?_
    replace h := h.2
    refine jv_goto (tgt := 18) B d_D_readsOf_14 (by decide) ?_
    exact jv_iret B hr rfl hlk hK _ rfl h d_D_readsOf_18
theorem c_D_readsOf {l : Launch} {D : va_G} {A : Nat → Prop} {ad : Nat → Nat} {cI cA cL : ClassId} {F : va_W} {σ : jS} {v1 : Int32} {post : Int32 → jS → Prop} (h : p_D_readsOf σ v1 post) : Met l y_D_readsOf (Cond.code y_D_readsOf b_D_readsOf 2 (some .int) :: wb) (rmk 2 0 0) (jv_Pre D jClasses (jTy cI cA cL) A (cw ad cI cA σ F) [.ref (ad 1), .int v1]) (va_Qi post (jv_End D jClasses (jTy cI cA cL) A (fun σ => cw ad cI cA σ F)) A) 0 0 A :=
  jv_ofB (by decide) (Nat.le_of_ble_eq_true rfl) (fun p e s m below meth c X => w_D_readsOf_0 X h)
set_option maxRecDepth 100000 in
theorem w_D_stretchesRead_0 (X : jv_C p s m args meth c b_D_stretchesRead 2 (some .int) y_D_stretchesRead wb D jClasses (jTy cI cA cL) A) {post : Int32 → jS → Prop} {σ : jS} {v1 : Int32} (h : p_D_stretchesRead σ v1 post) : jv_V p l e (rmk 1 0 0) s m args below meth c D jClasses A 2 0 0 (MQ below (va_Qi post (jv_End D jClasses (jTy cI cA cL) A (fun σ => cw ad cI cA σ F)) A) args s 0 0 A) (cw ad cI cA σ F) [(0, .ref (ad 1)), (1, .int v1)] 0 [] := by
  obtain ⟨B, hml, hown, hts, hK, hA, hr, hlk, hnm⟩ := id X
  unfold p_D_stretchesRead at h
  refine jv_iload_n B d_D_stretchesRead_0 rfl 1 rfl ?_
  refine jv_if_eq (tgt := 11) B d_D_stretchesRead_1 (by decide) (fun hc => ?_) (fun hc => ?_)
  · replace h := h.1 hc
    refine jv_aload_n B d_D_stretchesRead_11 rfl 0 rfl ?_
    refine fg_D_stretches B hts hown hK d_D_stretchesRead_12 ?_
    exact jv_iret B hr rfl hlk hK _ rfl h d_D_stretchesRead_15
  · replace h := h.2 hc
    refine jv_aload_n B d_D_stretchesRead_4 rfl 0 rfl ?_
    refine fg_D_failedStretches B hts hown hK d_D_stretchesRead_5 ?_
    refine jv_goto (tgt := 15) B d_D_stretchesRead_8 (by decide) ?_
    exact jv_iret B hr rfl hlk hK _ rfl h d_D_stretchesRead_15
theorem c_D_stretchesRead {l : Launch} {D : va_G} {A : Nat → Prop} {ad : Nat → Nat} {cI cA cL : ClassId} {F : va_W} {σ : jS} {v1 : Int32} {post : Int32 → jS → Prop} (h : p_D_stretchesRead σ v1 post) : Met l y_D_stretchesRead (Cond.code y_D_stretchesRead b_D_stretchesRead 2 (some .int) :: wb) (rmk 1 0 0) (jv_Pre D jClasses (jTy cI cA cL) A (cw ad cI cA σ F) [.ref (ad 1), .int v1]) (va_Qi post (jv_End D jClasses (jTy cI cA cL) A (fun σ => cw ad cI cA σ F)) A) 0 0 A :=
  jv_ofB (by decide) (Nat.le_of_ble_eq_true rfl) (fun p e s m below meth c X => w_D_stretchesRead_0 X h)
set_option maxRecDepth 100000 in
theorem w_V_wipe_7 (X : jv_C p s m args meth c b_V_wipe 2 none y_V_wipe wb D jClasses (jTy cI cA cL) A) {post : jS → Prop} : ∀ (n : Nat), ∀ (σ : jS) (v1 : Int32), p_V_wipe_7 post n σ v1 → jv_V p l e (rmk 2 0 0) s m args below meth c D jClasses A 2 0 0 (MQ below (va_Qv post (jv_End D jClasses (jTy cI cA cL) A (fun σ => cw ad cI cA σ F)) A) args s 0 0 A) (cw ad cI cA σ F) [(0, .ref (ad 9)), (1, .int v1)] 7 [] := by
  obtain ⟨B, hml, hown, hts, hK, hA, hr, hlk, hnm⟩ := id X
  intro n
  induction n with
  | zero => intro σ v1 h; exact h.elim
  | succ n ih =>
    intro σ v1 h
    rw [p_V_wipe_7] at h
    refine jv_iload_n B d_V_wipe_7 rfl 1 rfl ?_
    refine jv_iconst (v := 2) B d_V_wipe_8 (by decide) ?_
    refine jv_icmp_ge (tgt := 28) B d_V_wipe_9 (by decide) (fun hc => ?_) (fun hc => ?_)
    · replace h := h.1 hc
      exact jv_vret B hr hlk hK _ rfl h d_V_wipe_28
    · replace h := h.2 hc
      refine jv_aload_n B d_V_wipe_12 rfl 0 rfl ?_
      refine fg_V_slots B hts hown hK d_V_wipe_13 ?_
      refine jv_iload_n B d_V_wipe_16 rfl 1 rfl ?_
      refine aa_c B hK h.1 d_V_wipe_17 (fun hc => ?_) (fun hc => ?_)
      · replace h := h.2.1 hc
        refine jv_iconst (v := 0) B d_V_wipe_18 (by decide) ?_
        refine jv_fill (ws' := cw ad cI cA (upA σ 11 140 0) F) B hml hown hts hK hA kw_298 11 rfl rfl (by decide) rfl (Nat.le_of_ble_eq_true rfl) (Nat.le_of_ble_eq_true rfl) ⟨Nat.le_of_ble_eq_true rfl, Nat.le_of_ble_eq_true rfl⟩ (Nat.le_of_ble_eq_true rfl) d_V_wipe_19 ?_
        refine jv_iinc (n9 := 1) (v := v1 + 1) (lv' := [(1, .int (v1 + 1)), (0, .ref (ad 9))]) B d_V_wipe_22 rfl rfl (by decide) rfl ?_
        refine jv_goto (tgt := 7) B d_V_wipe_25 (by decide) ?_
        refine jv_sub [1, 0] rfl ?_
        exact ih _ _ h
      · replace h := h.2.2 hc
        refine jv_iconst (v := 0) B d_V_wipe_18 (by decide) ?_
        refine jv_fill (ws' := cw ad cI cA (upA σ 12 140 0) F) B hml hown hts hK hA kw_298 12 rfl rfl (by decide) rfl (Nat.le_of_ble_eq_true rfl) (Nat.le_of_ble_eq_true rfl) ⟨Nat.le_of_ble_eq_true rfl, Nat.le_of_ble_eq_true rfl⟩ (Nat.le_of_ble_eq_true rfl) d_V_wipe_19 ?_
        refine jv_iinc (n9 := 1) (v := v1 + 1) (lv' := [(1, .int (v1 + 1)), (0, .ref (ad 9))]) B d_V_wipe_22 rfl rfl (by decide) rfl ?_
        refine jv_goto (tgt := 7) B d_V_wipe_25 (by decide) ?_
        refine jv_sub [1, 0] rfl ?_
        exact ih _ _ h
set_option maxRecDepth 100000 in
theorem w_V_wipe_0 (X : jv_C p s m args meth c b_V_wipe 2 none y_V_wipe wb D jClasses (jTy cI cA cL) A) {post : jS → Prop} {σ : jS} (h : p_V_wipe σ post) : jv_V p l e (rmk 2 0 0) s m args below meth c D jClasses A 2 0 0 (MQ below (va_Qv post (jv_End D jClasses (jTy cI cA cL) A (fun σ => cw ad cI cA σ F)) A) args s 0 0 A) (cw ad cI cA σ F) [(0, .ref (ad 9))] 0 [] := by
  obtain ⟨B, hml, hown, hts, hK, hA, hr, hlk, hnm⟩ := id X
  unfold p_V_wipe at h
  refine jv_aload_n B d_V_wipe_0 rfl 0 rfl ?_
  refine jv_iconst (v := 0) B d_V_wipe_1 (by decide) ?_
  refine fs_V_lastNumber B hts hown hK d_V_wipe_2 ?_
  refine jv_iconst (v := 0) B d_V_wipe_5 (by decide) ?_
  refine jv_istore_n (lv' := [(1, .int 0), (0, .ref (ad 9))]) B d_V_wipe_6 rfl (by decide) rfl ?_
  refine jv_sub [1, 0] rfl ?_
  obtain ⟨n9, h⟩ := h
  exact w_V_wipe_7 X n9 _ _ h
theorem c_V_wipe {l : Launch} {D : va_G} {A : Nat → Prop} {ad : Nat → Nat} {cI cA cL : ClassId} {F : va_W} {σ : jS} {post : jS → Prop} (h : p_V_wipe σ post) : Met l y_V_wipe (Cond.code y_V_wipe b_V_wipe 2 none :: wb) (rmk 2 0 0) (jv_Pre D jClasses (jTy cI cA cL) A (cw ad cI cA σ F) [.ref (ad 9)]) (va_Qv post (jv_End D jClasses (jTy cI cA cL) A (fun σ => cw ad cI cA σ F)) A) 0 0 A :=
  jv_ofB (by decide) (Nat.le_of_ble_eq_true rfl) (fun p e s m below meth c X => w_V_wipe_0 X h)
set_option maxRecDepth 100000 in
theorem w_V_has_0 (X : jv_C p s m args meth c b_V_has 3 (some .boolean) y_V_has wb D jClasses (jTy cI cA cL) A) {post : Int32 → jS → Prop} {σ : jS} {v1 v2 : Int32} (h : p_V_has σ v1 v2 post) : jv_V p l e (rmk 1 0 0) s m args below meth c D jClasses A 3 0 0 (MQ below (va_Qi post (jv_End D jClasses (jTy cI cA cL) A (fun σ => cw ad cI cA σ F)) A) args s 0 0 A) (cw ad cI cA σ F) [(0, .ref (ad 9)), (1, .int v1), (2, .int v2)] 0 [] := by
  obtain ⟨B, hml, hown, hts, hK, hA, hr, hlk, hnm⟩ := id X
  unfold p_V_has at h
  refine jv_sub [1, 2] rfl ?_
  refine jv_iload_n B d_V_has_0 rfl 0 rfl ?_
  refine jv_if_lt (tgt := 24) B d_V_has_1 (by decide) (fun hc => ?_) (fun hc => ?_)
  · replace h := h.1 hc
    refine jv_iconst (v := 0) B d_V_has_24 (by decide) ?_
    exact jv_iret B hr (nz h.1) hlk hK _ rfl h.2 d_V_has_25
  · replace h := h.2 hc
    refine jv_iload_n B d_V_has_4 rfl 0 rfl ?_
    refine jv_iconst (v := 2) B d_V_has_5 (by decide) ?_
    refine jv_icmp_ge (tgt := 24) B d_V_has_6 (by decide) (fun hc => ?_) (fun hc => ?_)
    · replace h := h.1 hc
      refine jv_iconst (v := 0) B d_V_has_24 (by decide) ?_
      exact jv_iret B hr (nz h.1) hlk hK _ rfl h.2 d_V_has_25
    · replace h := h.2 hc
      refine jv_iload_n B d_V_has_9 rfl 1 rfl ?_
      refine jv_if_lt (tgt := 24) B d_V_has_10 (by decide) (fun hc => ?_) (fun hc => ?_)
      · replace h := h.1 hc
        refine jv_iconst (v := 0) B d_V_has_24 (by decide) ?_
        exact jv_iret B hr (nz h.1) hlk hK _ rfl h.2 d_V_has_25
      · replace h := h.2 hc
        refine jv_iload_n B d_V_has_13 rfl 1 rfl ?_
        refine jv_sipush (v := 140) B d_V_has_14 (by decide) ?_
        refine jv_icmp_ge (tgt := 24) B d_V_has_17 (by decide) (fun hc => ?_) (fun hc => ?_)
        · replace h := h.1 hc
          refine jv_iconst (v := 0) B d_V_has_24 (by decide) ?_
          exact jv_iret B hr (nz h.1) hlk hK _ rfl h.2 d_V_has_25
        · replace h := h.2 hc
          refine jv_iconst (v := 1) B d_V_has_20 (by decide) ?_
          refine jv_goto (tgt := 25) B d_V_has_21 (by decide) ?_
          exact jv_iret B hr (nz h.1) hlk hK _ rfl h.2 d_V_has_25
theorem c_V_has {l : Launch} {D : va_G} {A : Nat → Prop} {ad : Nat → Nat} {cI cA cL : ClassId} {F : va_W} {σ : jS} {v1 v2 : Int32} {post : Int32 → jS → Prop} (h : p_V_has σ v1 v2 post) : Met l y_V_has (Cond.code y_V_has b_V_has 3 (some .boolean) :: wb) (rmk 1 0 0) (jv_Pre D jClasses (jTy cI cA cL) A (cw ad cI cA σ F) [.ref (ad 9), .int v1, .int v2]) (va_Qi post (jv_End D jClasses (jTy cI cA cL) A (fun σ => cw ad cI cA σ F)) A) 0 0 A :=
  jv_ofB (by decide) (Nat.le_of_ble_eq_true rfl) (fun p e s m below meth c X => w_V_has_0 X h)
set_option maxRecDepth 100000 in
theorem w_V_byteAt_0 (X : jv_C p s m args meth c b_V_byteAt 3 (some .int) y_V_byteAt wb D jClasses (jTy cI cA cL) A) {post : Int32 → jS → Prop} {σ : jS} {v1 v2 : Int32} (h : p_V_byteAt σ v1 v2 post) : jv_V p l e (rmk 2 0 0) s m args below meth c D jClasses A 3 0 0 (MQ below (va_Qi post (jv_End D jClasses (jTy cI cA cL) A (fun σ => cw ad cI cA σ F)) A) args s 0 0 A) (cw ad cI cA σ F) [(0, .ref (ad 9)), (1, .int v1), (2, .int v2)] 0 [] := by
  obtain ⟨B, hml, hown, hts, hK, hA, hr, hlk, hnm⟩ := id X
  unfold p_V_byteAt at h
  refine jv_aload_n B d_V_byteAt_0 rfl 0 rfl ?_
  refine jv_iload_n B d_V_byteAt_1 rfl 1 rfl ?_
  refine jv_iload_n B d_V_byteAt_2 rfl 2 rfl ?_
  refine jv_civ (As := [.int v1, .int v2]) B hml hown hts hK hA (c_V_has (ad := ad) (cI := cI) (cA := cA) (cL := cL) (F := F) h) (cwV 2 hts g_V_30 rfl rfl rfl hd_V_has ⟨Nat.le_of_ble_eq_true rfl, Nat.le_of_ble_eq_true rfl⟩) 9 2 rfl rfl rfl rfl (Nat.le_of_ble_eq_true rfl) d_V_byteAt_3 ⟨Nat.le_of_ble_eq_true rfl, Nat.le_of_ble_eq_true rfl⟩ rfl (fun r2 σ1 h => ?_)
  refine jv_if_eq (tgt := 20) B d_V_byteAt_6 (by decide) (fun hc => ?_) (fun hc => ?_)
  · replace h := h.1 hc
    refine jv_iconst (v := (-1)) B d_V_byteAt_20 (by decide) ?_
    exact jv_iret B hr rfl hlk hK _ rfl h d_V_byteAt_21
  · replace h := h.2 hc
    refine jv_aload_n B d_V_byteAt_9 rfl 0 rfl ?_
    refine fg_V_slots B hts hown hK d_V_byteAt_10 ?_
    refine jv_iload_n B d_V_byteAt_13 rfl 1 rfl ?_
    refine aa_c B hK h.1 d_V_byteAt_14 (fun hc => ?_) (fun hc => ?_)
    · replace h := h.2.1 hc
      refine jv_iload_n B d_V_byteAt_15 rfl 2 rfl ?_
      refine ld_c_11 B hK h.1 d_V_byteAt_16 ?_
      replace h := h.2
      refine jv_goto (tgt := 21) B d_V_byteAt_17 (by decide) ?_
      exact jv_iret B hr rfl hlk hK _ rfl h d_V_byteAt_21
    · replace h := h.2.2 hc
      refine jv_iload_n B d_V_byteAt_15 rfl 2 rfl ?_
      refine ld_c_12 B hK h.1 d_V_byteAt_16 ?_
      replace h := h.2
      refine jv_goto (tgt := 21) B d_V_byteAt_17 (by decide) ?_
      exact jv_iret B hr rfl hlk hK _ rfl h d_V_byteAt_21
theorem c_V_byteAt {l : Launch} {D : va_G} {A : Nat → Prop} {ad : Nat → Nat} {cI cA cL : ClassId} {F : va_W} {σ : jS} {v1 v2 : Int32} {post : Int32 → jS → Prop} (h : p_V_byteAt σ v1 v2 post) : Met l y_V_byteAt (Cond.code y_V_byteAt b_V_byteAt 3 (some .int) :: wb) (rmk 2 0 0) (jv_Pre D jClasses (jTy cI cA cL) A (cw ad cI cA σ F) [.ref (ad 9), .int v1, .int v2]) (va_Qi post (jv_End D jClasses (jTy cI cA cL) A (fun σ => cw ad cI cA σ F)) A) 0 0 A :=
  jv_ofB (by decide) (Nat.le_of_ble_eq_true rfl) (fun p e s m below meth c X => w_V_byteAt_0 X h)
set_option maxRecDepth 100000 in
theorem w_V_put_0 (X : jv_C p s m args meth c b_V_put 4 none y_V_put wb D jClasses (jTy cI cA cL) A) {post : jS → Prop} {σ : jS} {v1 v2 v3 : Int32} (h : p_V_put σ v1 v2 v3 post) : jv_V p l e (rmk 2 0 0) s m args below meth c D jClasses A 4 0 0 (MQ below (va_Qv post (jv_End D jClasses (jTy cI cA cL) A (fun σ => cw ad cI cA σ F)) A) args s 0 0 A) (cw ad cI cA σ F) [(0, .ref (ad 9)), (1, .int v1), (2, .int v2), (3, .int v3)] 0 [] := by
  obtain ⟨B, hml, hown, hts, hK, hA, hr, hlk, hnm⟩ := id X
  unfold p_V_put at h
  refine jv_aload_n B d_V_put_0 rfl 0 rfl ?_
  refine jv_iload_n B d_V_put_1 rfl 1 rfl ?_
  refine jv_iload_n B d_V_put_2 rfl 2 rfl ?_
  refine jv_civ (As := [.int v1, .int v2]) B hml hown hts hK hA (c_V_has (ad := ad) (cI := cI) (cA := cA) (cL := cL) (F := F) h) (cwV 2 hts g_V_30 rfl rfl rfl hd_V_has ⟨Nat.le_of_ble_eq_true rfl, Nat.le_of_ble_eq_true rfl⟩) 9 2 rfl rfl rfl rfl (Nat.le_of_ble_eq_true rfl) d_V_put_3 ⟨Nat.le_of_ble_eq_true rfl, Nat.le_of_ble_eq_true rfl⟩ rfl (fun r2 σ1 h => ?_)
  refine jv_if_eq (tgt := 18) B d_V_put_6 (by decide) (fun hc => ?_) (fun hc => ?_)
  · replace h := h.1 hc
    exact jv_vret B hr hlk hK _ rfl h d_V_put_18
  · replace h := h.2 hc
    refine jv_aload_n B d_V_put_9 rfl 0 rfl ?_
    refine fg_V_slots B hts hown hK d_V_put_10 ?_
    refine jv_iload_n B d_V_put_13 rfl 1 rfl ?_
    refine aa_c B hK h.1 d_V_put_14 (fun hc => ?_) (fun hc => ?_)
    · replace h := h.2.1 hc
      refine jv_iload_n B d_V_put_15 rfl 2 rfl ?_
      refine jv_iload_n B d_V_put_16 rfl 3 rfl ?_
      refine sd_c_11 B hK h.1 d_V_put_17 ?_
      replace h := h.2
      exact jv_vret B hr hlk hK _ rfl h d_V_put_18
    · replace h := h.2.2 hc
      refine jv_iload_n B d_V_put_15 rfl 2 rfl ?_
      refine jv_iload_n B d_V_put_16 rfl 3 rfl ?_
      refine sd_c_12 B hK h.1 d_V_put_17 ?_
      replace h := h.2
      exact jv_vret B hr hlk hK _ rfl h d_V_put_18
theorem c_V_put {l : Launch} {D : va_G} {A : Nat → Prop} {ad : Nat → Nat} {cI cA cL : ClassId} {F : va_W} {σ : jS} {v1 v2 v3 : Int32} {post : jS → Prop} (h : p_V_put σ v1 v2 v3 post) : Met l y_V_put (Cond.code y_V_put b_V_put 4 none :: wb) (rmk 2 0 0) (jv_Pre D jClasses (jTy cI cA cL) A (cw ad cI cA σ F) [.ref (ad 9), .int v1, .int v2, .int v3]) (va_Qv post (jv_End D jClasses (jTy cI cA cL) A (fun σ => cw ad cI cA σ F)) A) 0 0 A :=
  jv_ofB (by decide) (Nat.le_of_ble_eq_true rfl) (fun p e s m below meth c X => w_V_put_0 X h)
set_option maxRecDepth 100000 in
theorem w_V_behindNumber_0 (X : jv_C p s m args meth c b_V_behindNumber 2 (some .int) y_V_behindNumber wb D jClasses (jTy cI cA cL) A) {post : Int32 → jS → Prop} {σ : jS} {v1 : Int32} (h : p_V_behindNumber σ v1 post) : jv_V p l e (rmk 1 0 0) s m args below meth c D jClasses A 2 0 0 (MQ below (va_Qi post (jv_End D jClasses (jTy cI cA cL) A (fun σ => cw ad cI cA σ F)) A) args s 0 0 A) (cw ad cI cA σ F) [(0, .ref (ad 9)), (1, .int v1)] 0 [] := by
  obtain ⟨B, hml, hown, hts, hK, hA, hr, hlk, hnm⟩ := id X
  unfold p_V_behindNumber at h
  refine jv_sub [1] rfl ?_
  refine jv_iload_n B d_V_behindNumber_0 rfl 0 rfl ?_
  refine jv_iconst (v := 1) B d_V_behindNumber_1 (by decide) ?_
  refine jv_iadd B d_V_behindNumber_2 ?_
  refine jv_sipush (v := 200) B d_V_behindNumber_3 (by decide) ?_
  refine jv_irem B d_V_behindNumber_6 (by decide) ?_
  exact jv_iret B hr rfl hlk hK _ rfl h d_V_behindNumber_7
theorem c_V_behindNumber {l : Launch} {D : va_G} {A : Nat → Prop} {ad : Nat → Nat} {cI cA cL : ClassId} {F : va_W} {σ : jS} {v1 : Int32} {post : Int32 → jS → Prop} (h : p_V_behindNumber σ v1 post) : Met l y_V_behindNumber (Cond.code y_V_behindNumber b_V_behindNumber 2 (some .int) :: wb) (rmk 1 0 0) (jv_Pre D jClasses (jTy cI cA cL) A (cw ad cI cA σ F) [.ref (ad 9), .int v1]) (va_Qi post (jv_End D jClasses (jTy cI cA cL) A (fun σ => cw ad cI cA σ F)) A) 0 0 A :=
  jv_ofB (by decide) (Nat.le_of_ble_eq_true rfl) (fun p e s m below meth c X => w_V_behindNumber_0 X h)
set_option maxRecDepth 100000 in
theorem w_S_startsRun_0 (X : jv_C p s m args meth c b_S_startsRun 2 (some .boolean) y_S_startsRun wb D jClasses (jTy cI cA cL) A) {post : Int32 → jS → Prop} {σ : jS} {v1 : Int32} (h : p_S_startsRun σ v1 post) : jv_V p l e (rmk 2 0 0) s m args below meth c D jClasses A 2 0 0 (MQ below (va_Qi post (jv_End D jClasses (jTy cI cA cL) A (fun σ => cw ad cI cA σ F)) A) args s 0 0 A) (cw ad cI cA σ F) [(0, .ref (ad 6)), (1, .int v1)] 0 [] := by
  obtain ⟨B, hml, hown, hts, hK, hA, hr, hlk, hnm⟩ := id X
  unfold p_S_startsRun at h
  refine jv_iload_n B d_S_startsRun_0 rfl 1 rfl ?_
  refine jv_if_eq (tgt := 19) B d_S_startsRun_1 (by decide) (fun hc => ?_) (fun hc => ?_)
  · replace h := h.1 hc
    refine jv_iconst (v := 1) B d_S_startsRun_19 (by decide) ?_
    refine jv_goto (tgt := 24) B d_S_startsRun_20 (by decide) ?_
    exact jv_iret B hr (nz h.1) hlk hK _ rfl h.2 d_S_startsRun_24
  · replace h := h.2 hc
    refine jv_aload_n B d_S_startsRun_4 rfl 0 rfl ?_
    refine jv_iload_n B d_S_startsRun_5 rfl 1 rfl ?_
    refine jv_civ (As := [.int v1]) B hml hown hts hK hA (c_S_stateOf (ad := ad) (cI := cI) (cA := cA) (cL := cL) (F := F) h) (cwV 1 hts g_S_34 rfl rfl rfl hd_S_stateOf ⟨Nat.le_of_ble_eq_true rfl, Nat.le_of_ble_eq_true rfl⟩) 6 3 rfl rfl rfl rfl (Nat.le_of_ble_eq_true rfl) d_S_startsRun_6 ⟨Nat.le_of_ble_eq_true rfl, Nat.le_of_ble_eq_true rfl⟩ rfl (fun r2 σ1 h => ?_)
    refine jv_aload_n B d_S_startsRun_9 rfl 0 rfl ?_
    refine jv_iload_n B d_S_startsRun_10 rfl 1 rfl ?_
    refine jv_iconst (v := 1) B d_S_startsRun_11 (by decide) ?_
    refine jv_isub B d_S_startsRun_12 ?_
    refine jv_civ (As := [.int (v1 - 1)]) B hml hown hts hK hA (c_S_stateOf (ad := ad) (cI := cI) (cA := cA) (cL := cL) (F := F) h) (cwV 1 hts g_S_34 rfl rfl rfl hd_S_stateOf ⟨Nat.le_of_ble_eq_true rfl, Nat.le_of_ble_eq_true rfl⟩) 6 3 rfl rfl rfl rfl (Nat.le_of_ble_eq_true rfl) d_S_startsRun_13 ⟨Nat.le_of_ble_eq_true rfl, Nat.le_of_ble_eq_true rfl⟩ rfl (fun r4 σ3 h => ?_)
    refine jv_icmp_eq (tgt := 23) B d_S_startsRun_16 (by decide) (fun hc => ?_) (fun hc => ?_)
    · replace h := h.1 hc
      refine jv_iconst (v := 0) B d_S_startsRun_23 (by decide) ?_
      exact jv_iret B hr (nz h.1) hlk hK _ rfl h.2 d_S_startsRun_24
    · replace h := h.2 hc
      refine jv_iconst (v := 1) B d_S_startsRun_19 (by decide) ?_
      refine jv_goto (tgt := 24) B d_S_startsRun_20 (by decide) ?_
      exact jv_iret B hr (nz h.1) hlk hK _ rfl h.2 d_S_startsRun_24
theorem c_S_startsRun {l : Launch} {D : va_G} {A : Nat → Prop} {ad : Nat → Nat} {cI cA cL : ClassId} {F : va_W} {σ : jS} {v1 : Int32} {post : Int32 → jS → Prop} (h : p_S_startsRun σ v1 post) : Met l y_S_startsRun (Cond.code y_S_startsRun b_S_startsRun 2 (some .boolean) :: wb) (rmk 2 0 0) (jv_Pre D jClasses (jTy cI cA cL) A (cw ad cI cA σ F) [.ref (ad 6), .int v1]) (va_Qi post (jv_End D jClasses (jTy cI cA cL) A (fun σ => cw ad cI cA σ F)) A) 0 0 A :=
  jv_ofB (by decide) (Nat.le_of_ble_eq_true rfl) (fun p e s m below meth c X => w_S_startsRun_0 X h)
set_option maxRecDepth 100000 in
theorem w_V_placeOfRun_0 (X : jv_C p s m args meth c b_V_placeOfRun 2 (some .int) y_V_placeOfRun wb D jClasses (jTy cI cA cL) A) {post : Int32 → jS → Prop} {σ : jS} {v1 : Int32} (h : p_V_placeOfRun σ v1 post) : jv_V p l e (rmk 1 0 0) s m args below meth c D jClasses A 2 0 0 (MQ below (va_Qi post (jv_End D jClasses (jTy cI cA cL) A (fun σ => cw ad cI cA σ F)) A) args s 0 0 A) (cw ad cI cA σ F) [(0, .ref (ad 9)), (1, .int v1)] 0 [] := by
  obtain ⟨B, hml, hown, hts, hK, hA, hr, hlk, hnm⟩ := id X
  unfold p_V_placeOfRun at h
  refine jv_sub [1] rfl ?_
  refine jv_iconst (v := 2) B d_V_placeOfRun_0 (by decide) ?_
  refine jv_iconst (v := 2) B d_V_placeOfRun_1 (by decide) ?_
  refine jv_iload_n B d_V_placeOfRun_2 rfl 0 rfl ?_
  refine jv_imul B d_V_placeOfRun_3 ?_
  refine jv_iadd B d_V_placeOfRun_4 ?_
  exact jv_iret B hr rfl hlk hK _ rfl h d_V_placeOfRun_5
theorem c_V_placeOfRun {l : Launch} {D : va_G} {A : Nat → Prop} {ad : Nat → Nat} {cI cA cL : ClassId} {F : va_W} {σ : jS} {v1 : Int32} {post : Int32 → jS → Prop} (h : p_V_placeOfRun σ v1 post) : Met l y_V_placeOfRun (Cond.code y_V_placeOfRun b_V_placeOfRun 2 (some .int) :: wb) (rmk 1 0 0) (jv_Pre D jClasses (jTy cI cA cL) A (cw ad cI cA σ F) [.ref (ad 9), .int v1]) (va_Qi post (jv_End D jClasses (jTy cI cA cL) A (fun σ => cw ad cI cA σ F)) A) 0 0 A :=
  jv_ofB (by decide) (Nat.le_of_ble_eq_true rfl) (fun p e s m below meth c X => w_V_placeOfRun_0 X h)
set_option maxRecDepth 100000 in
theorem w_V_putDrawn_0 (X : jv_C p s m args meth c b_V_putDrawn 3 none y_V_putDrawn wb D jClasses (jTy cI cA cL) A) {post : jS → Prop} {σ : jS} {v1 v2 : Int32} (h : p_V_putDrawn σ v1 v2 post) : jv_V p l e (rmk 1 0 0) s m args below meth c D jClasses A 3 0 0 (MQ below (va_Qv post (jv_End D jClasses (jTy cI cA cL) A (fun σ => cw ad cI cA σ F)) A) args s 0 0 A) (cw ad cI cA σ F) [(0, .ref (ad 9)), (1, .int v1), (2, .int v2)] 0 [] := by
  obtain ⟨B, hml, hown, hts, hK, hA, hr, hlk, hnm⟩ := id X
  unfold p_V_putDrawn at h
  refine jv_iload_n B d_V_putDrawn_0 rfl 1 rfl ?_
  refine jv_if_lt (tgt := 20) B d_V_putDrawn_1 (by decide) (fun hc => ?_) (fun hc => ?_)
  · replace h := h.1 hc
    exact jv_vret B hr hlk hK _ rfl h d_V_putDrawn_20
  · replace h := h.2 hc
    refine jv_iload_n B d_V_putDrawn_4 rfl 1 rfl ?_
    refine jv_aload_n B d_V_putDrawn_5 rfl 0 rfl ?_
    refine fg_V_drawn B hts hown hK d_V_putDrawn_6 ?_
    refine al_c_13 B hK d_V_putDrawn_9 ?_
    refine jv_icmp_ge (tgt := 20) B d_V_putDrawn_10 (by decide) (fun hc => ?_) (fun hc => ?_)
    · replace h := h.1 hc
      exact jv_vret B hr hlk hK _ rfl h d_V_putDrawn_20
    · replace h := h.2 hc
      refine jv_aload_n B d_V_putDrawn_13 rfl 0 rfl ?_
      refine fg_V_drawn B hts hown hK d_V_putDrawn_14 ?_
      refine jv_iload_n B d_V_putDrawn_17 rfl 1 rfl ?_
      refine jv_iload_n B d_V_putDrawn_18 rfl 2 rfl ?_
      refine sd_c_13 B hK h.1 d_V_putDrawn_19 ?_
      replace h := h.2
      exact jv_vret B hr hlk hK _ rfl h d_V_putDrawn_20
theorem c_V_putDrawn {l : Launch} {D : va_G} {A : Nat → Prop} {ad : Nat → Nat} {cI cA cL : ClassId} {F : va_W} {σ : jS} {v1 v2 : Int32} {post : jS → Prop} (h : p_V_putDrawn σ v1 v2 post) : Met l y_V_putDrawn (Cond.code y_V_putDrawn b_V_putDrawn 3 none :: wb) (rmk 1 0 0) (jv_Pre D jClasses (jTy cI cA cL) A (cw ad cI cA σ F) [.ref (ad 9), .int v1, .int v2]) (va_Qv post (jv_End D jClasses (jTy cI cA cL) A (fun σ => cw ad cI cA σ F)) A) 0 0 A :=
  jv_ofB (by decide) (Nat.le_of_ble_eq_true rfl) (fun p e s m below meth c X => w_V_putDrawn_0 X h)
set_option maxRecDepth 100000 in
theorem w_V_sumBefore_5 (X : jv_C p s m args meth c b_V_sumBefore 5 (some .int) y_V_sumBefore wb D jClasses (jTy cI cA cL) A) {post : Int32 → jS → Prop} {fa : Nat → Int32} {qa ga : Nat} {v2 : Int32} {σ0 : jS} (hga : (cw ad cI cA σ0 F)[qa]? = some (ga, .inl (cI, 140, .inl fa))) : ∀ (n : Nat), ∀ (σ : jS) (v3 v4 : Int32), σ = σ0 → p_V_sumBefore_5 post fa v2 n σ v3 v4 → jv_V p l e (rmk 1 0 0) s m args below meth c D jClasses A 5 0 0 (MQ below (va_Qi post (jv_End D jClasses (jTy cI cA cL) A (fun σ => cw ad cI cA σ F)) A) args s 0 0 A) (cw ad cI cA σ F) [(1, .ref ga), (2, .int v2), (3, .int v3), (4, .int v4)] 5 [] := by
  obtain ⟨B, hml, hown, hts, hK, hA, hr, hlk, hnm⟩ := id X
  intro n
  induction n with
  | zero => intro σ v3 v4 h0 h; exact h.elim
  | succ n ih =>
    intro σ v3 v4 h0 h
    subst h0
    rw [p_V_sumBefore_5] at h
    refine jv_iload B d_V_sumBefore_5 3 rfl ?_
    refine jv_iload_n B d_V_sumBefore_7 rfl 1 rfl ?_
    refine jv_icmp_ge (tgt := 36) B d_V_sumBefore_8 (by decide) (fun hc => ?_) (fun hc => ?_)
    · replace h := h.1 hc
      refine jv_iload_n B d_V_sumBefore_36 rfl 2 rfl ?_
      refine jv_sipush (v := 251) B d_V_sumBefore_37 (by decide) ?_
      refine jv_irem B d_V_sumBefore_40 (by decide) ?_
      exact jv_iret B hr rfl hlk hK _ rfl h d_V_sumBefore_41
    · replace h := h.2 hc
      refine jv_iload B d_V_sumBefore_11 3 rfl ?_
      refine jv_aload_n B d_V_sumBefore_13 rfl 0 rfl ?_
      refine jv_alen (v := 140) B hK qa 0 hga rfl rfl d_V_sumBefore_14 ?_
      refine jv_icmp_ge (tgt := 36) B d_V_sumBefore_15 (by decide) (fun hc => ?_) (fun hc => ?_)
      · replace h := h.1 hc
        refine jv_iload_n B d_V_sumBefore_36 rfl 2 rfl ?_
        refine jv_sipush (v := 251) B d_V_sumBefore_37 (by decide) ?_
        refine jv_irem B d_V_sumBefore_40 (by decide) ?_
        exact jv_iret B hr rfl hlk hK _ rfl h d_V_sumBefore_41
      · replace h := h.2 hc
        refine jv_iload_n B d_V_sumBefore_18 rfl 2 rfl ?_
        refine jv_aload_n B d_V_sumBefore_19 rfl 0 rfl ?_
        refine jv_iload B d_V_sumBefore_20 3 rfl ?_
        refine jv_iald B hK qa 0 hga rfl h.1 d_V_sumBefore_22 ?_
        replace h := h.2
        refine jv_iload B d_V_sumBefore_23 3 rfl ?_
        refine jv_iconst (v := 1) B d_V_sumBefore_25 (by decide) ?_
        refine jv_iadd B d_V_sumBefore_26 ?_
        refine jv_imul B d_V_sumBefore_27 ?_
        refine jv_iadd B d_V_sumBefore_28 ?_
        refine jv_istore_n (lv' := [(3, .int (v3 + ((fa v4.toNatClampNeg) * (v4 + 1)))), (1, .ref ga), (2, .int v2), (4, .int v4)]) B d_V_sumBefore_29 rfl (by decide) rfl ?_
        refine jv_iinc (n9 := 3) (v := v4 + 1) (lv' := [(4, .int (v4 + 1)), (3, .int (v3 + ((fa v4.toNatClampNeg) * (v4 + 1)))), (1, .ref ga), (2, .int v2)]) B d_V_sumBefore_30 rfl rfl (by decide) rfl ?_
        refine jv_goto (tgt := 5) B d_V_sumBefore_33 (by decide) ?_
        refine jv_sub [2, 3, 1, 0] rfl ?_
        exact ih _ _ _ rfl h
set_option maxRecDepth 100000 in
theorem w_V_sumBefore_0 (X : jv_C p s m args meth c b_V_sumBefore 5 (some .int) y_V_sumBefore wb D jClasses (jTy cI cA cL) A) {post : Int32 → jS → Prop} {fa : Nat → Int32} {qa ga : Nat} {σ : jS} {v2 : Int32} (hga : (cw ad cI cA σ F)[qa]? = some (ga, .inl (cI, 140, .inl fa))) (h : p_V_sumBefore fa σ v2 post) : jv_V p l e (rmk 1 0 0) s m args below meth c D jClasses A 5 0 0 (MQ below (va_Qi post (jv_End D jClasses (jTy cI cA cL) A (fun σ => cw ad cI cA σ F)) A) args s 0 0 A) (cw ad cI cA σ F) [(0, .ref (ad 9)), (1, .ref ga), (2, .int v2)] 0 [] := by
  obtain ⟨B, hml, hown, hts, hK, hA, hr, hlk, hnm⟩ := id X
  unfold p_V_sumBefore at h
  refine jv_sub [1, 2] rfl ?_
  refine jv_iconst (v := 0) B d_V_sumBefore_0 (by decide) ?_
  refine jv_istore_n (lv' := [(3, .int 0), (1, .ref ga), (2, .int v2)]) B d_V_sumBefore_1 rfl (by decide) rfl ?_
  refine jv_iconst (v := 0) B d_V_sumBefore_2 (by decide) ?_
  refine jv_istore (lv' := [(4, .int 0), (3, .int 0), (1, .ref ga), (2, .int v2)]) B d_V_sumBefore_3 (by decide) rfl ?_
  refine jv_sub [2, 3, 1, 0] rfl ?_
  obtain ⟨n9, h⟩ := h
  exact w_V_sumBefore_5 X hga n9 _ _ _ rfl h
theorem c_V_sumBefore {l : Launch} {D : va_G} {A : Nat → Prop} {ad : Nat → Nat} {cI cA cL : ClassId} {F : va_W} {σ : jS} {fa : Nat → Int32} {qa ga : Nat} (hga : (cw ad cI cA σ F)[qa]? = some (ga, .inl (cI, 140, .inl fa))) {v2 : Int32} {post : Int32 → jS → Prop} (h : p_V_sumBefore fa σ v2 post) : Met l y_V_sumBefore (Cond.code y_V_sumBefore b_V_sumBefore 5 (some .int) :: wb) (rmk 1 0 0) (jv_Pre D jClasses (jTy cI cA cL) A (cw ad cI cA σ F) [.ref (ad 9), .ref ga, .int v2]) (va_Qi post (jv_End D jClasses (jTy cI cA cL) A (fun σ => cw ad cI cA σ F)) A) 0 0 A :=
  jv_ofB (by decide) (Nat.le_of_ble_eq_true rfl) (fun p e s m below meth c X => w_V_sumBefore_0 X hga h)
set_option maxRecDepth 100000 in
theorem w_V_draw_57 (X : jv_C p s m args meth c b_V_draw 4 (some .int) y_V_draw wb D jClasses (jTy cI cA cL) A) {post : Int32 → jS → Prop} {σ : jS} {v2 v3 : Int32} {k4 : jS → Int32 → Int32 → Prop} (H4 : ∀ (σ : jS) (v2 v3 : Int32), k4 σ v2 v3 → jv_V p l e (rmk 3 0 0) s m args below meth c D jClasses A 4 0 0 (MQ below (va_Qi post (jv_End D jClasses (jTy cI cA cL) A (fun σ => cw ad cI cA σ F)) A) args s 0 0 A) (cw ad cI cA σ F) [(0, .ref (ad 9)), (1, .ref (ad 6)), (2, .int v2), (3, .int v3)] 4 []) (h : p_V_draw_57 post k4 σ v2 v3) : jv_V p l e (rmk 3 0 0) s m args below meth c D jClasses A 4 0 0 (MQ below (va_Qi post (jv_End D jClasses (jTy cI cA cL) A (fun σ => cw ad cI cA σ F)) A) args s 0 0 A) (cw ad cI cA σ F) [(0, .ref (ad 9)), (1, .ref (ad 6)), (2, .int v2), (3, .int v3)] 57 [] := by
  obtain ⟨B, hml, hown, hts, hK, hA, hr, hlk, hnm⟩ := id X
  unfold p_V_draw_57 at h
  refine jv_iinc (n9 := 3) (v := v3 + 1) (lv' := [(3, .int (v3 + 1)), (0, .ref (ad 9)), (1, .ref (ad 6)), (2, .int v2)]) B d_V_draw_57 rfl rfl (by decide) rfl ?_
  refine jv_goto (tgt := 4) B d_V_draw_60 (by decide) ?_
  refine jv_sub [1, 2, 3, 0] rfl ?_
  exact H4 _ _ _ h
set_option maxRecDepth 100000 in
theorem w_V_draw_4 (X : jv_C p s m args meth c b_V_draw 4 (some .int) y_V_draw wb D jClasses (jTy cI cA cL) A) {post : Int32 → jS → Prop} : ∀ (n : Nat), ∀ (σ : jS) (v2 v3 : Int32), p_V_draw_4 post n σ v2 v3 → jv_V p l e (rmk 3 0 0) s m args below meth c D jClasses A 4 0 0 (MQ below (va_Qi post (jv_End D jClasses (jTy cI cA cL) A (fun σ => cw ad cI cA σ F)) A) args s 0 0 A) (cw ad cI cA σ F) [(0, .ref (ad 9)), (1, .ref (ad 6)), (2, .int v2), (3, .int v3)] 4 [] := by
  obtain ⟨B, hml, hown, hts, hK, hA, hr, hlk, hnm⟩ := id X
  intro n
  induction n with
  | zero => intro σ v2 v3 h; exact h.elim
  | succ n ih =>
    intro σ v2 v3 h
    rw [p_V_draw_4] at h
    refine jv_iload_n B d_V_draw_4 rfl 3 rfl ?_
    refine jv_aload_n B d_V_draw_5 rfl 1 rfl ?_
    refine jv_civ (As := []) B hml hown hts hK hA (c_S_size (ad := ad) (cI := cI) (cA := cA) (cL := cL) (F := F) h) (cwV 0 hts g_V_52 rfl rfl rfl hd_S_size ⟨Nat.le_of_ble_eq_true rfl, Nat.le_of_ble_eq_true rfl⟩) 6 3 rfl rfl rfl rfl (Nat.le_of_ble_eq_true rfl) d_V_draw_6 ⟨Nat.le_of_ble_eq_true rfl, Nat.le_of_ble_eq_true rfl⟩ rfl (fun r2 σ1 h => ?_)
    refine jv_icmp_ge (tgt := 63) B d_V_draw_9 (by decide) (fun hc => ?_) (fun hc => ?_)
    · replace h := h.1 hc
      refine jv_aload_n B d_V_draw_63 rfl 0 rfl ?_
      refine jv_iconst (v := 0) B d_V_draw_64 (by decide) ?_
      refine jv_aload_n B d_V_draw_65 rfl 0 rfl ?_
      refine fg_V_lastNumber B hts hown hK d_V_draw_66 ?_
      refine jv_cvv (As := [.int 0, .int (σ1 9 2)]) B hml hown hts hK hA (c_V_putDrawn (ad := ad) (cI := cI) (cA := cA) (cL := cL) (F := F) h) (cwV 2 hts g_V_68 rfl rfl rfl hd_V_putDrawn ⟨Nat.le_of_ble_eq_true rfl, Nat.le_of_ble_eq_true rfl⟩) 9 2 rfl rfl rfl rfl (Nat.le_of_ble_eq_true rfl) d_V_draw_69 ⟨Nat.le_of_ble_eq_true rfl, Nat.le_of_ble_eq_true rfl⟩ rfl (fun σ3 h => ?_)
      refine jv_aload_n B d_V_draw_72 rfl 0 rfl ?_
      refine jv_iconst (v := 1) B d_V_draw_73 (by decide) ?_
      refine jv_iload_n B d_V_draw_74 rfl 2 rfl ?_
      refine jv_cvv (As := [.int 1, .int v2]) B hml hown hts hK hA (c_V_putDrawn (ad := ad) (cI := cI) (cA := cA) (cL := cL) (F := F) h) (cwV 2 hts g_V_68 rfl rfl rfl hd_V_putDrawn ⟨Nat.le_of_ble_eq_true rfl, Nat.le_of_ble_eq_true rfl⟩) 9 2 rfl rfl rfl rfl (Nat.le_of_ble_eq_true rfl) d_V_draw_75 ⟨Nat.le_of_ble_eq_true rfl, Nat.le_of_ble_eq_true rfl⟩ rfl (fun σ4 h => ?_)
      refine jv_aload_n B d_V_draw_78 rfl 0 rfl ?_
      refine jv_iload_n B d_V_draw_79 rfl 2 rfl ?_
      refine jv_civ (As := [.int v2]) B hml hown hts hK hA (c_V_placeOfRun (ad := ad) (cI := cI) (cA := cA) (cL := cL) (F := F) h) (cwV 1 hts g_V_62 rfl rfl rfl hd_V_placeOfRun ⟨Nat.le_of_ble_eq_true rfl, Nat.le_of_ble_eq_true rfl⟩) 9 2 rfl rfl rfl rfl (Nat.le_of_ble_eq_true rfl) d_V_draw_80 ⟨Nat.le_of_ble_eq_true rfl, Nat.le_of_ble_eq_true rfl⟩ rfl (fun r6 σ5 h => ?_)
      refine jv_istore_n (lv' := [(3, .int r6), (0, .ref (ad 9)), (1, .ref (ad 6)), (2, .int v2)]) B d_V_draw_83 rfl (by decide) rfl ?_
      refine jv_aload_n B d_V_draw_84 rfl 1 rfl ?_
      refine jv_iload_n B d_V_draw_85 rfl 0 rfl ?_
      refine jv_aload_n B d_V_draw_86 rfl 1 rfl ?_
      refine jv_aload_n B d_V_draw_87 rfl 1 rfl ?_
      refine fg_V_drawn B hts hown hK d_V_draw_88 ?_
      refine jv_iload_n B d_V_draw_91 rfl 0 rfl ?_
      refine jv_civ (As := [.ref (ad 13), .int r6]) B hml hown hts hK hA (c_V_sumBefore (qa := 13) (hga := rfl) (ad := ad) (cI := cI) (cA := cA) (cL := cL) (F := F) h) (cwV 2 hts g_V_75 rfl rfl rfl hd_V_sumBefore ⟨Nat.le_of_ble_eq_true rfl, Nat.le_of_ble_eq_true rfl⟩) 9 2 rfl rfl rfl rfl (Nat.le_of_ble_eq_true rfl) d_V_draw_92 ⟨Nat.le_of_ble_eq_true rfl, Nat.le_of_ble_eq_true rfl⟩ rfl (fun r8 σ7 h => ?_)
      refine jv_cvv (As := [.int r6, .int r8]) B hml hown hts hK hA (c_V_putDrawn (ad := ad) (cI := cI) (cA := cA) (cL := cL) (F := F) h) (cwV 2 hts g_V_68 rfl rfl rfl hd_V_putDrawn ⟨Nat.le_of_ble_eq_true rfl, Nat.le_of_ble_eq_true rfl⟩) 9 2 rfl rfl rfl rfl (Nat.le_of_ble_eq_true rfl) d_V_draw_95 ⟨Nat.le_of_ble_eq_true rfl, Nat.le_of_ble_eq_true rfl⟩ rfl (fun σ9 h => ?_)
      refine jv_iload_n B d_V_draw_98 rfl 0 rfl ?_
      refine jv_iconst (v := 1) B d_V_draw_99 (by decide) ?_
      refine jv_iadd B d_V_draw_100 ?_
      exact jv_iret B hr rfl hlk hK _ rfl h d_V_draw_101
    · replace h := h.2 hc
      refine jv_aload_n B d_V_draw_12 rfl 1 rfl ?_
      refine jv_iload_n B d_V_draw_13 rfl 3 rfl ?_
      refine jv_civ (As := [.int v3]) B hml hown hts hK hA (c_S_startsRun (ad := ad) (cI := cI) (cA := cA) (cL := cL) (F := F) h) (cwV 1 hts g_V_58 rfl rfl rfl hd_S_startsRun ⟨Nat.le_of_ble_eq_true rfl, Nat.le_of_ble_eq_true rfl⟩) 6 3 rfl rfl rfl rfl (Nat.le_of_ble_eq_true rfl) d_V_draw_14 ⟨Nat.le_of_ble_eq_true rfl, Nat.le_of_ble_eq_true rfl⟩ rfl (fun r11 σ10 h => ?_)
      refine jv_if_eq (tgt := 57) B d_V_draw_17 (by decide) (fun hc => ?_) (fun hc => ?_)
      · replace h := h.1 hc
        exact w_V_draw_57 X ih h
      · replace h := h.2 hc
        refine jv_aload_n B d_V_draw_20 rfl 0 rfl ?_
        refine jv_aload_n B d_V_draw_21 rfl 0 rfl ?_
        refine jv_iload_n B d_V_draw_22 rfl 2 rfl ?_
        refine jv_civ (As := [.int v2]) B hml hown hts hK hA (c_V_placeOfRun (ad := ad) (cI := cI) (cA := cA) (cL := cL) (F := F) h) (cwV 1 hts g_V_62 rfl rfl rfl hd_V_placeOfRun ⟨Nat.le_of_ble_eq_true rfl, Nat.le_of_ble_eq_true rfl⟩) 9 2 rfl rfl rfl rfl (Nat.le_of_ble_eq_true rfl) d_V_draw_23 ⟨Nat.le_of_ble_eq_true rfl, Nat.le_of_ble_eq_true rfl⟩ rfl (fun r13 σ12 h => ?_)
        refine jv_aload_n B d_V_draw_26 rfl 1 rfl ?_
        refine jv_iload_n B d_V_draw_27 rfl 3 rfl ?_
        refine jv_bipush (v := 64) B d_V_draw_28 (by decide) ?_
        refine jv_civ (As := [.int v3, .int 64]) B hml hown hts hK hA (c_S_behindStretch (ad := ad) (cI := cI) (cA := cA) (cL := cL) (F := F) h) (cwV 2 hts g_V_65 rfl rfl rfl hd_S_behindStretch ⟨Nat.le_of_ble_eq_true rfl, Nat.le_of_ble_eq_true rfl⟩) 6 3 rfl rfl rfl rfl (Nat.le_of_ble_eq_true rfl) d_V_draw_30 ⟨Nat.le_of_ble_eq_true rfl, Nat.le_of_ble_eq_true rfl⟩ rfl (fun r15 σ14 h => ?_)
        refine jv_iload_n B d_V_draw_33 rfl 3 rfl ?_
        refine jv_isub B d_V_draw_34 ?_
        refine jv_cvv (As := [.int r13, .int (r15 - v3)]) B hml hown hts hK hA (c_V_putDrawn (ad := ad) (cI := cI) (cA := cA) (cL := cL) (F := F) h) (cwV 2 hts g_V_68 rfl rfl rfl hd_V_putDrawn ⟨Nat.le_of_ble_eq_true rfl, Nat.le_of_ble_eq_true rfl⟩) 9 2 rfl rfl rfl rfl (Nat.le_of_ble_eq_true rfl) d_V_draw_35 ⟨Nat.le_of_ble_eq_true rfl, Nat.le_of_ble_eq_true rfl⟩ rfl (fun σ16 h => ?_)
        refine jv_aload_n B d_V_draw_38 rfl 0 rfl ?_
        refine jv_aload_n B d_V_draw_39 rfl 0 rfl ?_
        refine jv_iload_n B d_V_draw_40 rfl 2 rfl ?_
        refine jv_civ (As := [.int v2]) B hml hown hts hK hA (c_V_placeOfRun (ad := ad) (cI := cI) (cA := cA) (cL := cL) (F := F) h) (cwV 1 hts g_V_62 rfl rfl rfl hd_V_placeOfRun ⟨Nat.le_of_ble_eq_true rfl, Nat.le_of_ble_eq_true rfl⟩) 9 2 rfl rfl rfl rfl (Nat.le_of_ble_eq_true rfl) d_V_draw_41 ⟨Nat.le_of_ble_eq_true rfl, Nat.le_of_ble_eq_true rfl⟩ rfl (fun r18 σ17 h => ?_)
        refine jv_iconst (v := 1) B d_V_draw_44 (by decide) ?_
        refine jv_iadd B d_V_draw_45 ?_
        refine jv_aload_n B d_V_draw_46 rfl 1 rfl ?_
        refine jv_iload_n B d_V_draw_47 rfl 3 rfl ?_
        refine jv_civ (As := [.int v3]) B hml hown hts hK hA (c_S_stateOf (ad := ad) (cI := cI) (cA := cA) (cL := cL) (F := F) h) (cwV 1 hts g_V_72 rfl rfl rfl hd_S_stateOf ⟨Nat.le_of_ble_eq_true rfl, Nat.le_of_ble_eq_true rfl⟩) 6 3 rfl rfl rfl rfl (Nat.le_of_ble_eq_true rfl) d_V_draw_48 ⟨Nat.le_of_ble_eq_true rfl, Nat.le_of_ble_eq_true rfl⟩ rfl (fun r20 σ19 h => ?_)
        refine jv_cvv (As := [.int (r18 + 1), .int r20]) B hml hown hts hK hA (c_V_putDrawn (ad := ad) (cI := cI) (cA := cA) (cL := cL) (F := F) h) (cwV 2 hts g_V_68 rfl rfl rfl hd_V_putDrawn ⟨Nat.le_of_ble_eq_true rfl, Nat.le_of_ble_eq_true rfl⟩) 9 2 rfl rfl rfl rfl (Nat.le_of_ble_eq_true rfl) d_V_draw_51 ⟨Nat.le_of_ble_eq_true rfl, Nat.le_of_ble_eq_true rfl⟩ rfl (fun σ21 h => ?_)
        refine jv_iinc (n9 := 2) (v := v2 + 1) (lv' := [(2, .int (v2 + 1)), (0, .ref (ad 9)), (1, .ref (ad 6)), (3, .int v3)]) B d_V_draw_54 rfl rfl (by decide) rfl ?_
        refine jv_sub [1, 2, 0, 3] rfl ?_
        exact w_V_draw_57 X ih h
set_option maxRecDepth 100000 in
theorem w_V_draw_0 (X : jv_C p s m args meth c b_V_draw 4 (some .int) y_V_draw wb D jClasses (jTy cI cA cL) A) {post : Int32 → jS → Prop} {σ : jS} (h : p_V_draw σ post) : jv_V p l e (rmk 3 0 0) s m args below meth c D jClasses A 4 0 0 (MQ below (va_Qi post (jv_End D jClasses (jTy cI cA cL) A (fun σ => cw ad cI cA σ F)) A) args s 0 0 A) (cw ad cI cA σ F) [(0, .ref (ad 9)), (1, .ref (ad 6))] 0 [] := by
  obtain ⟨B, hml, hown, hts, hK, hA, hr, hlk, hnm⟩ := id X
  unfold p_V_draw at h
  refine jv_iconst (v := 0) B d_V_draw_0 (by decide) ?_
  refine jv_istore_n (lv' := [(2, .int 0), (0, .ref (ad 9)), (1, .ref (ad 6))]) B d_V_draw_1 rfl (by decide) rfl ?_
  refine jv_iconst (v := 0) B d_V_draw_2 (by decide) ?_
  refine jv_istore_n (lv' := [(3, .int 0), (2, .int 0), (0, .ref (ad 9)), (1, .ref (ad 6))]) B d_V_draw_3 rfl (by decide) rfl ?_
  refine jv_sub [2, 3, 1, 0] rfl ?_
  obtain ⟨n9, h⟩ := h
  exact w_V_draw_4 X n9 _ _ _ h
theorem c_V_draw {l : Launch} {D : va_G} {A : Nat → Prop} {ad : Nat → Nat} {cI cA cL : ClassId} {F : va_W} {σ : jS} {post : Int32 → jS → Prop} (h : p_V_draw σ post) : Met l y_V_draw (Cond.code y_V_draw b_V_draw 4 (some .int) :: wb) (rmk 3 0 0) (jv_Pre D jClasses (jTy cI cA cL) A (cw ad cI cA σ F) [.ref (ad 9), .ref (ad 6)]) (va_Qi post (jv_End D jClasses (jTy cI cA cL) A (fun σ => cw ad cI cA σ F)) A) 0 0 A :=
  jv_ofB (by decide) (Nat.le_of_ble_eq_true rfl) (fun p e s m below meth c X => w_V_draw_0 X h)
end JM

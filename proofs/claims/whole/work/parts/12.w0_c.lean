section JM
variable {p : Program} {l : Launch} {e : Env} {s : State} {m : MethodId} {args : Array Value} {below : List Frame} {meth : Method} {c : Code} {D : va_G} {A : Nat → Prop} {ad : Nat → Nat} {cI cA cL : ClassId} {F : va_W}
set_option maxRecDepth 100000 in
theorem w_K_currentPhase_0 (X : jv_C p s m args meth c b_K_currentPhase 1 (some .int) y_K_currentPhase wb D jClasses (jTy cI cA cL) A) {post : Int32 → jS → Prop} {σ : jS} (h : p_K_currentPhase σ post) : jv_V p l e (rmk 1 0 0) s m args below meth c D jClasses A 1 0 0 (MQ below (va_Qi post (jv_End D jClasses (jTy cI cA cL) A (fun σ => cw ad cI cA σ F)) A) args s 0 0 A) (cw ad cI cA σ F) [(0, .ref (ad 8))] 0 [] := by
  obtain ⟨B, hml, hown, hts, hK, hA, hr, hlk, hnm⟩ := id X
  unfold p_K_currentPhase at h
  refine jv_aload_n B d_K_currentPhase_0 rfl 0 rfl ?_
  refine fg_K_phaseNow B hts hown hK d_K_currentPhase_1 ?_
  exact jv_iret B hr rfl hlk hK _ rfl h d_K_currentPhase_4
theorem c_K_currentPhase {l : Launch} {D : va_G} {A : Nat → Prop} {ad : Nat → Nat} {cI cA cL : ClassId} {F : va_W} {σ : jS} {post : Int32 → jS → Prop} (h : p_K_currentPhase σ post) : Met l y_K_currentPhase (Cond.code y_K_currentPhase b_K_currentPhase 1 (some .int) :: wb) (rmk 1 0 0) (jv_Pre D jClasses (jTy cI cA cL) A (cw ad cI cA σ F) [.ref (ad 8)]) (va_Qi post (jv_End D jClasses (jTy cI cA cL) A (fun σ => cw ad cI cA σ F)) A) 0 0 A :=
  jv_ofB (by decide) (Nat.le_of_ble_eq_true rfl) (fun p e s m below meth c X => w_K_currentPhase_0 X h)
set_option maxRecDepth 100000 in
theorem w_K_goesOn_0 (X : jv_C p s m args meth c b_K_goesOn 1 (some .boolean) y_K_goesOn wb D jClasses (jTy cI cA cL) A) {post : Int32 → jS → Prop} {σ : jS} (h : p_K_goesOn σ post) : jv_V p l e (rmk 1 0 0) s m args below meth c D jClasses A 1 0 0 (MQ below (va_Qi post (jv_End D jClasses (jTy cI cA cL) A (fun σ => cw ad cI cA σ F)) A) args s 0 0 A) (cw ad cI cA σ F) [(0, .ref (ad 8))] 0 [] := by
  obtain ⟨B, hml, hown, hts, hK, hA, hr, hlk, hnm⟩ := id X
  unfold p_K_goesOn at h
  refine jv_aload_n B d_K_goesOn_0 rfl 0 rfl ?_
  refine fg_K_phaseNow B hts hown hK d_K_goesOn_1 ?_
  refine jv_if_lt (tgt := 20) B d_K_goesOn_4 (by decide) (fun hc => ?_) (fun hc => ?_)
  · replace h := h.1 hc
    refine jv_iconst (v := 0) B d_K_goesOn_20 (by decide) ?_
    exact jv_iret B hr (nz h.1) hlk hK _ rfl h.2 d_K_goesOn_21
  · replace h := h.2 hc
    refine jv_aload_n B d_K_goesOn_7 rfl 0 rfl ?_
    refine fg_K_phaseNow B hts hown hK d_K_goesOn_8 ?_
    refine jv_bipush (v := 6) B d_K_goesOn_11 (by decide) ?_
    refine jv_icmp_gt (tgt := 20) B d_K_goesOn_13 (by decide) (fun hc => ?_) (fun hc => ?_)
    · replace h := h.1 hc
      refine jv_iconst (v := 0) B d_K_goesOn_20 (by decide) ?_
      exact jv_iret B hr (nz h.1) hlk hK _ rfl h.2 d_K_goesOn_21
    · replace h := h.2 hc
      refine jv_iconst (v := 1) B d_K_goesOn_16 (by decide) ?_
      refine jv_goto (tgt := 21) B d_K_goesOn_17 (by decide) ?_
      exact jv_iret B hr (nz h.1) hlk hK _ rfl h.2 d_K_goesOn_21
theorem c_K_goesOn {l : Launch} {D : va_G} {A : Nat → Prop} {ad : Nat → Nat} {cI cA cL : ClassId} {F : va_W} {σ : jS} {post : Int32 → jS → Prop} (h : p_K_goesOn σ post) : Met l y_K_goesOn (Cond.code y_K_goesOn b_K_goesOn 1 (some .boolean) :: wb) (rmk 1 0 0) (jv_Pre D jClasses (jTy cI cA cL) A (cw ad cI cA σ F) [.ref (ad 8)]) (va_Qi post (jv_End D jClasses (jTy cI cA cL) A (fun σ => cw ad cI cA σ F)) A) 0 0 A :=
  jv_ofB (by decide) (Nat.le_of_ble_eq_true rfl) (fun p e s m below meth c X => w_K_goesOn_0 X h)
set_option maxRecDepth 100000 in
theorem w_K_forget_0 (X : jv_C p s m args meth c b_K_forget 1 none y_K_forget wb D jClasses (jTy cI cA cL) A) {post : jS → Prop} {σ : jS} (h : p_K_forget σ post) : jv_V p l e (rmk 1 0 0) s m args below meth c D jClasses A 1 0 0 (MQ below (va_Qv post (jv_End D jClasses (jTy cI cA cL) A (fun σ => cw ad cI cA σ F)) A) args s 0 0 A) (cw ad cI cA σ F) [(0, .ref (ad 8))] 0 [] := by
  obtain ⟨B, hml, hown, hts, hK, hA, hr, hlk, hnm⟩ := id X
  unfold p_K_forget at h
  refine jv_aload_n B d_K_forget_0 rfl 0 rfl ?_
  refine jv_iconst (v := (-1)) B d_K_forget_1 (by decide) ?_
  refine fs_K_phaseNow B hts hown hK d_K_forget_2 ?_
  exact jv_vret B hr hlk hK _ rfl h d_K_forget_5
theorem c_K_forget {l : Launch} {D : va_G} {A : Nat → Prop} {ad : Nat → Nat} {cI cA cL : ClassId} {F : va_W} {σ : jS} {post : jS → Prop} (h : p_K_forget σ post) : Met l y_K_forget (Cond.code y_K_forget b_K_forget 1 none :: wb) (rmk 1 0 0) (jv_Pre D jClasses (jTy cI cA cL) A (cw ad cI cA σ F) [.ref (ad 8)]) (va_Qv post (jv_End D jClasses (jTy cI cA cL) A (fun σ => cw ad cI cA σ F)) A) 0 0 A :=
  jv_ofB (by decide) (Nat.le_of_ble_eq_true rfl) (fun p e s m below meth c X => w_K_forget_0 X h)
set_option maxRecDepth 100000 in
theorem w_K_halt_0 (X : jv_C p s m args meth c b_K_halt 1 none y_K_halt wb D jClasses (jTy cI cA cL) A) {post : jS → Prop} {σ : jS} (h : p_K_halt σ post) : jv_V p l e (rmk 1 0 0) s m args below meth c D jClasses A 1 0 0 (MQ below (va_Qv post (jv_End D jClasses (jTy cI cA cL) A (fun σ => cw ad cI cA σ F)) A) args s 0 0 A) (cw ad cI cA σ F) [(0, .ref (ad 8))] 0 [] := by
  obtain ⟨B, hml, hown, hts, hK, hA, hr, hlk, hnm⟩ := id X
  unfold p_K_halt at h
  refine jv_aload_n B d_K_halt_0 rfl 0 rfl ?_
  refine jv_bipush (v := 7) B d_K_halt_1 (by decide) ?_
  refine fs_K_phaseNow B hts hown hK d_K_halt_3 ?_
  exact jv_vret B hr hlk hK _ rfl h d_K_halt_6
theorem c_K_halt {l : Launch} {D : va_G} {A : Nat → Prop} {ad : Nat → Nat} {cI cA cL : ClassId} {F : va_W} {σ : jS} {post : jS → Prop} (h : p_K_halt σ post) : Met l y_K_halt (Cond.code y_K_halt b_K_halt 1 none :: wb) (rmk 1 0 0) (jv_Pre D jClasses (jTy cI cA cL) A (cw ad cI cA σ F) [.ref (ad 8)]) (va_Qv post (jv_End D jClasses (jTy cI cA cL) A (fun σ => cw ad cI cA σ F)) A) 0 0 A :=
  jv_ofB (by decide) (Nat.le_of_ble_eq_true rfl) (fun p e s m below meth c X => w_K_halt_0 X h)
set_option maxRecDepth 100000 in
theorem w_S_size_0 (X : jv_C p s m args meth c b_S_size 1 (some .int) y_S_size wb D jClasses (jTy cI cA cL) A) {post : Int32 → jS → Prop} {σ : jS} (h : p_S_size σ post) : jv_V p l e (rmk 1 0 0) s m args below meth c D jClasses A 1 0 0 (MQ below (va_Qi post (jv_End D jClasses (jTy cI cA cL) A (fun σ => cw ad cI cA σ F)) A) args s 0 0 A) (cw ad cI cA σ F) [(0, .ref (ad 6))] 0 [] := by
  obtain ⟨B, hml, hown, hts, hK, hA, hr, hlk, hnm⟩ := id X
  unfold p_S_size at h
  refine jv_aload_n B d_S_size_0 rfl 0 rfl ?_
  refine fg_S_sectors B hts hown hK d_S_size_1 ?_
  exact jv_iret B hr rfl hlk hK _ rfl h d_S_size_4
theorem c_S_size {l : Launch} {D : va_G} {A : Nat → Prop} {ad : Nat → Nat} {cI cA cL : ClassId} {F : va_W} {σ : jS} {post : Int32 → jS → Prop} (h : p_S_size σ post) : Met l y_S_size (Cond.code y_S_size b_S_size 1 (some .int) :: wb) (rmk 1 0 0) (jv_Pre D jClasses (jTy cI cA cL) A (cw ad cI cA σ F) [.ref (ad 6)]) (va_Qi post (jv_End D jClasses (jTy cI cA cL) A (fun σ => cw ad cI cA σ F)) A) 0 0 A :=
  jv_ofB (by decide) (Nat.le_of_ble_eq_true rfl) (fun p e s m below meth c X => w_S_size_0 X h)
set_option maxRecDepth 100000 in
theorem w_K_enter_0 (X : jv_C p s m args meth c b_K_enter 2 none y_K_enter wb D jClasses (jTy cI cA cL) A) {post : jS → Prop} {σ : jS} {v1 : Int32} (h : p_K_enter σ v1 post) : jv_V p l e (rmk 2 0 0) s m args below meth c D jClasses A 2 0 0 (MQ below (va_Qv post (jv_End D jClasses (jTy cI cA cL) A (fun σ => cw ad cI cA σ F)) A) args s 0 0 A) (cw ad cI cA σ F) [(0, .ref (ad 8)), (1, .int v1)] 0 [] := by
  obtain ⟨B, hml, hown, hts, hK, hA, hr, hlk, hnm⟩ := id X
  unfold p_K_enter at h
  refine jv_aload_n B d_K_enter_0 rfl 0 rfl ?_
  refine jv_iload_n B d_K_enter_1 rfl 1 rfl ?_
  refine fs_K_phaseNow B hts hown hK d_K_enter_2 ?_
  refine jv_aload_n B d_K_enter_5 rfl 0 rfl ?_
  refine jv_bipush (v := 8) B d_K_enter_6 (by decide) ?_
  refine fs_K_leap B hts hown hK d_K_enter_8 ?_
  refine jv_aload_n B d_K_enter_11 rfl 0 rfl ?_
  refine jv_iload_n B d_K_enter_12 rfl 1 rfl ?_
  refine jv_iconst (v := 1) B d_K_enter_13 (by decide) ?_
  refine jv_icmp_ne (tgt := 27) B d_K_enter_14 (by decide) (fun hc => ?_) (fun hc => ?_)
  · replace h := h.1 hc
    refine jv_iconst (v := 0) B d_K_enter_27 (by decide) ?_
    refine fs_K_position B hts hown hK d_K_enter_28 ?_
    refine jv_aload_n B d_K_enter_31 rfl 0 rfl ?_
    refine jv_iconst (v := 0) B d_K_enter_32 (by decide) ?_
    refine fs_K_round B hts hown hK d_K_enter_33 ?_
    refine jv_aload_n B d_K_enter_36 rfl 0 rfl ?_
    refine jv_iconst (v := 0) B d_K_enter_37 (by decide) ?_
    refine fs_K_trimsLast B hts hown hK h.1 d_K_enter_38 ?_
    replace h := h.2
    exact jv_vret B hr hlk hK _ rfl h d_K_enter_41
  · replace h := h.2 hc
    refine jv_aload_n B d_K_enter_17 rfl 0 rfl ?_
    refine fg_K_map B hts hown hK d_K_enter_18 ?_
    refine jv_civ (As := []) B hml hown hts hK hA (c_S_size (ad := ad) (cI := cI) (cA := cA) (cL := cL) (F := F) h) (cwV 0 hts g_K_33 rfl rfl rfl hd_S_size ⟨Nat.le_of_ble_eq_true rfl, Nat.le_of_ble_eq_true rfl⟩) 6 3 rfl rfl rfl rfl (Nat.le_of_ble_eq_true rfl) d_K_enter_21 ⟨Nat.le_of_ble_eq_true rfl, Nat.le_of_ble_eq_true rfl⟩ rfl (fun r2 σ1 h => ?_)
    refine jv_goto (tgt := 28) B d_K_enter_24 (by decide) ?_
    refine fs_K_position B hts hown hK d_K_enter_28 ?_
    refine jv_aload_n B d_K_enter_31 rfl 0 rfl ?_
    refine jv_iconst (v := 0) B d_K_enter_32 (by decide) ?_
    refine fs_K_round B hts hown hK d_K_enter_33 ?_
    refine jv_aload_n B d_K_enter_36 rfl 0 rfl ?_
    refine jv_iconst (v := 0) B d_K_enter_37 (by decide) ?_
    refine fs_K_trimsLast B hts hown hK h.1 d_K_enter_38 ?_
    replace h := h.2
    exact jv_vret B hr hlk hK _ rfl h d_K_enter_41
theorem c_K_enter {l : Launch} {D : va_G} {A : Nat → Prop} {ad : Nat → Nat} {cI cA cL : ClassId} {F : va_W} {σ : jS} {v1 : Int32} {post : jS → Prop} (h : p_K_enter σ v1 post) : Met l y_K_enter (Cond.code y_K_enter b_K_enter 2 none :: wb) (rmk 2 0 0) (jv_Pre D jClasses (jTy cI cA cL) A (cw ad cI cA σ F) [.ref (ad 8), .int v1]) (va_Qv post (jv_End D jClasses (jTy cI cA cL) A (fun σ => cw ad cI cA σ F)) A) 0 0 A :=
  jv_ofB (by decide) (Nat.le_of_ble_eq_true rfl) (fun p e s m below meth c X => w_K_enter_0 X h)
set_option maxRecDepth 100000 in
theorem w_K_start_0 (X : jv_C p s m args meth c b_K_start 2 none y_K_start wb D jClasses (jTy cI cA cL) A) {post : jS → Prop} {σ : jS} {v1 : Int32} (h : p_K_start σ v1 post) : jv_V p l e (rmk 3 0 0) s m args below meth c D jClasses A 2 0 0 (MQ below (va_Qv post (jv_End D jClasses (jTy cI cA cL) A (fun σ => cw ad cI cA σ F)) A) args s 0 0 A) (cw ad cI cA σ F) [(0, .ref (ad 8)), (1, .int v1)] 0 [] := by
  obtain ⟨B, hml, hown, hts, hK, hA, hr, hlk, hnm⟩ := id X
  unfold p_K_start at h
  refine jv_aload_n B d_K_start_0 rfl 0 rfl ?_
  refine jv_iload_n B d_K_start_1 rfl 1 rfl ?_
  refine fs_K_retryRounds B hts hown hK d_K_start_2 ?_
  refine jv_aload_n B d_K_start_5 rfl 0 rfl ?_
  refine jv_iconst (v := 0) B d_K_start_6 (by decide) ?_
  refine jv_cvv (As := [.int 0]) B hml hown hts hK hA (c_K_enter (ad := ad) (cI := cI) (cA := cA) (cL := cL) (F := F) h) (cwV 1 hts g_K_26 rfl rfl rfl hd_K_enter ⟨Nat.le_of_ble_eq_true rfl, Nat.le_of_ble_eq_true rfl⟩) 8 0 rfl rfl rfl rfl (Nat.le_of_ble_eq_true rfl) d_K_start_7 ⟨Nat.le_of_ble_eq_true rfl, Nat.le_of_ble_eq_true rfl⟩ rfl (fun σ1 h => ?_)
  exact jv_vret B hr hlk hK _ rfl h d_K_start_10
theorem c_K_start {l : Launch} {D : va_G} {A : Nat → Prop} {ad : Nat → Nat} {cI cA cL : ClassId} {F : va_W} {σ : jS} {v1 : Int32} {post : jS → Prop} (h : p_K_start σ v1 post) : Met l y_K_start (Cond.code y_K_start b_K_start 2 none :: wb) (rmk 3 0 0) (jv_Pre D jClasses (jTy cI cA cL) A (cw ad cI cA σ F) [.ref (ad 8), .int v1]) (va_Qv post (jv_End D jClasses (jTy cI cA cL) A (fun σ => cw ad cI cA σ F)) A) 0 0 A :=
  jv_ofB (by decide) (Nat.le_of_ble_eq_true rfl) (fun p e s m below meth c X => w_K_start_0 X h)
set_option maxRecDepth 100000 in
theorem w_S_firstFrom_6 (X : jv_C p s m args meth c b_S_firstFrom 4 (some .int) y_S_firstFrom wb D jClasses (jTy cI cA cL) A) {post : Int32 → jS → Prop} {v1 v2 : Int32} : ∀ (n : Nat), ∀ (σ : jS) (v3 : Int32), p_S_firstFrom_6 post v1 v2 n σ v3 → jv_V p l e (rmk 2 0 0) s m args below meth c D jClasses A 4 0 0 (MQ below (va_Qi post (jv_End D jClasses (jTy cI cA cL) A (fun σ => cw ad cI cA σ F)) A) args s 0 0 A) (cw ad cI cA σ F) [(0, .ref (ad 6)), (1, .int v1), (3, .int v3)] 6 [] := by
  obtain ⟨B, hml, hown, hts, hK, hA, hr, hlk, hnm⟩ := id X
  intro n
  induction n with
  | zero => intro σ v3 h; exact h.elim
  | succ n ih =>
    intro σ v3 h
    rw [p_S_firstFrom_6] at h
    refine jv_iload_n B d_S_firstFrom_6 rfl 2 rfl ?_
    refine jv_aload_n B d_S_firstFrom_7 rfl 0 rfl ?_
    refine fg_S_sectors B hts hown hK d_S_firstFrom_8 ?_
    refine jv_icmp_ge (tgt := 32) B d_S_firstFrom_11 (by decide) (fun hc => ?_) (fun hc => ?_)
    · replace h := h.1 hc
      refine jv_iconst (v := (-1)) B d_S_firstFrom_32 (by decide) ?_
      exact jv_iret B hr rfl hlk hK _ rfl h d_S_firstFrom_33
    · replace h := h.2 hc
      refine jv_aload_n B d_S_firstFrom_14 rfl 0 rfl ?_
      refine fg_S_states B hts hown hK d_S_firstFrom_15 ?_
      refine jv_iload_n B d_S_firstFrom_18 rfl 2 rfl ?_
      refine ld_c_7 B hK h.1 d_S_firstFrom_19 ?_
      replace h := h.2
      refine jv_iload_n B d_S_firstFrom_20 rfl 1 rfl ?_
      refine jv_icmp_ne (tgt := 26) B d_S_firstFrom_21 (by decide) (fun hc => ?_) (fun hc => ?_)
      · replace h := h.1 hc
        refine jv_iinc (n9 := 2) (v := v3 + 1) (lv' := [(3, .int (v3 + 1)), (0, .ref (ad 6)), (1, .int v1)]) B d_S_firstFrom_26 rfl rfl (by decide) rfl ?_
        refine jv_goto (tgt := 6) B d_S_firstFrom_29 (by decide) ?_
        refine jv_sub [1, 2, 0] rfl ?_
        exact ih _ _ h
      · replace h := h.2 hc
        refine jv_iload_n B d_S_firstFrom_24 rfl 2 rfl ?_
        exact jv_iret B hr rfl hlk hK _ rfl h d_S_firstFrom_25
set_option maxRecDepth 100000 in
theorem w_S_firstFrom_0 (X : jv_C p s m args meth c b_S_firstFrom 4 (some .int) y_S_firstFrom wb D jClasses (jTy cI cA cL) A) {post : Int32 → jS → Prop} {σ : jS} {v1 v2 : Int32} (h : p_S_firstFrom σ v1 v2 post) : jv_V p l e (rmk 2 0 0) s m args below meth c D jClasses A 4 0 0 (MQ below (va_Qi post (jv_End D jClasses (jTy cI cA cL) A (fun σ => cw ad cI cA σ F)) A) args s 0 0 A) (cw ad cI cA σ F) [(0, .ref (ad 6)), (1, .int v1), (2, .int v2)] 0 [] := by
  obtain ⟨B, hml, hown, hts, hK, hA, hr, hlk, hnm⟩ := id X
  unfold p_S_firstFrom at h
  refine jv_iconst (v := 0) B d_S_firstFrom_0 (by decide) ?_
  refine jv_iload_n B d_S_firstFrom_1 rfl 2 rfl ?_
  refine jv_mmax B hml hown hts (hts _ kw_353) (Nat.le_of_ble_eq_true rfl) (Nat.le_of_ble_eq_true rfl) (Nat.le_of_ble_eq_true rfl) (Nat.le_of_ble_eq_true rfl) d_S_firstFrom_2 ?_
  refine jv_istore_n (lv' := [(3, .int (if 0 < v2 then v2 else 0)), (0, .ref (ad 6)), (1, .int v1), (2, .int v2)]) B d_S_firstFrom_5 rfl (by decide) rfl ?_
  refine jv_sub [1, 2, 0] rfl ?_
  obtain ⟨n9, h⟩ := h
  exact w_S_firstFrom_6 X n9 _ _ h
theorem c_S_firstFrom {l : Launch} {D : va_G} {A : Nat → Prop} {ad : Nat → Nat} {cI cA cL : ClassId} {F : va_W} {σ : jS} {v1 v2 : Int32} {post : Int32 → jS → Prop} (h : p_S_firstFrom σ v1 v2 post) : Met l y_S_firstFrom (Cond.code y_S_firstFrom b_S_firstFrom 4 (some .int) :: wb) (rmk 2 0 0) (jv_Pre D jClasses (jTy cI cA cL) A (cw ad cI cA σ F) [.ref (ad 6), .int v1, .int v2]) (va_Qi post (jv_End D jClasses (jTy cI cA cL) A (fun σ => cw ad cI cA σ F)) A) 0 0 A :=
  jv_ofB (by decide) (Nat.le_of_ble_eq_true rfl) (fun p e s m below meth c X => w_S_firstFrom_0 X h)
set_option maxRecDepth 100000 in
theorem w_S_stateOf_0 (X : jv_C p s m args meth c b_S_stateOf 2 (some .int) y_S_stateOf wb D jClasses (jTy cI cA cL) A) {post : Int32 → jS → Prop} {σ : jS} {v1 : Int32} (h : p_S_stateOf σ v1 post) : jv_V p l e (rmk 1 0 0) s m args below meth c D jClasses A 2 0 0 (MQ below (va_Qi post (jv_End D jClasses (jTy cI cA cL) A (fun σ => cw ad cI cA σ F)) A) args s 0 0 A) (cw ad cI cA σ F) [(0, .ref (ad 6)), (1, .int v1)] 0 [] := by
  obtain ⟨B, hml, hown, hts, hK, hA, hr, hlk, hnm⟩ := id X
  unfold p_S_stateOf at h
  refine jv_iload_n B d_S_stateOf_0 rfl 1 rfl ?_
  refine jv_if_lt (tgt := 21) B d_S_stateOf_1 (by decide) (fun hc => ?_) (fun hc => ?_)
  · replace h := h.1 hc
    refine jv_iconst (v := (-1)) B d_S_stateOf_21 (by decide) ?_
    exact jv_iret B hr rfl hlk hK _ rfl h d_S_stateOf_22
  · replace h := h.2 hc
    refine jv_iload_n B d_S_stateOf_4 rfl 1 rfl ?_
    refine jv_aload_n B d_S_stateOf_5 rfl 0 rfl ?_
    refine fg_S_sectors B hts hown hK d_S_stateOf_6 ?_
    refine jv_icmp_ge (tgt := 21) B d_S_stateOf_9 (by decide) (fun hc => ?_) (fun hc => ?_)
    · replace h := h.1 hc
      refine jv_iconst (v := (-1)) B d_S_stateOf_21 (by decide) ?_
      exact jv_iret B hr rfl hlk hK _ rfl h d_S_stateOf_22
    · replace h := h.2 hc
      refine jv_aload_n B d_S_stateOf_12 rfl 0 rfl ?_
      refine fg_S_states B hts hown hK d_S_stateOf_13 ?_
      refine jv_iload_n B d_S_stateOf_16 rfl 1 rfl ?_
      refine ld_c_7 B hK h.1 d_S_stateOf_17 ?_
      replace h := h.2
      refine jv_goto (tgt := 22) B d_S_stateOf_18 (by decide) ?_
      exact jv_iret B hr rfl hlk hK _ rfl h d_S_stateOf_22
theorem c_S_stateOf {l : Launch} {D : va_G} {A : Nat → Prop} {ad : Nat → Nat} {cI cA cL : ClassId} {F : va_W} {σ : jS} {v1 : Int32} {post : Int32 → jS → Prop} (h : p_S_stateOf σ v1 post) : Met l y_S_stateOf (Cond.code y_S_stateOf b_S_stateOf 2 (some .int) :: wb) (rmk 1 0 0) (jv_Pre D jClasses (jTy cI cA cL) A (cw ad cI cA σ F) [.ref (ad 6), .int v1]) (va_Qi post (jv_End D jClasses (jTy cI cA cL) A (fun σ => cw ad cI cA σ F)) A) 0 0 A :=
  jv_ofB (by decide) (Nat.le_of_ble_eq_true rfl) (fun p e s m below meth c X => w_S_stateOf_0 X h)
set_option maxRecDepth 100000 in
theorem w_S_behindStretch_4 (X : jv_C p s m args meth c b_S_behindStretch 4 (some .int) y_S_behindStretch wb D jClasses (jTy cI cA cL) A) {post : Int32 → jS → Prop} {v1 v2 : Int32} : ∀ (n : Nat), ∀ (σ : jS) (v3 : Int32), p_S_behindStretch_4 post v1 v2 n σ v3 → jv_V p l e (rmk 2 0 0) s m args below meth c D jClasses A 4 0 0 (MQ below (va_Qi post (jv_End D jClasses (jTy cI cA cL) A (fun σ => cw ad cI cA σ F)) A) args s 0 0 A) (cw ad cI cA σ F) [(0, .ref (ad 6)), (1, .int v1), (2, .int v2), (3, .int v3)] 4 [] := by
  obtain ⟨B, hml, hown, hts, hK, hA, hr, hlk, hnm⟩ := id X
  intro n
  induction n with
  | zero => intro σ v3 h; exact h.elim
  | succ n ih =>
    intro σ v3 h
    rw [p_S_behindStretch_4] at h
    refine jv_iload_n B d_S_behindStretch_4 rfl 3 rfl ?_
    refine jv_aload_n B d_S_behindStretch_5 rfl 0 rfl ?_
    refine fg_S_sectors B hts hown hK d_S_behindStretch_6 ?_
    refine jv_icmp_ge (tgt := 38) B d_S_behindStretch_9 (by decide) (fun hc => ?_) (fun hc => ?_)
    · replace h := h.1 hc
      refine jv_iload_n B d_S_behindStretch_38 rfl 3 rfl ?_
      exact jv_iret B hr rfl hlk hK _ rfl h d_S_behindStretch_39
    · replace h := h.2 hc
      refine jv_iload_n B d_S_behindStretch_12 rfl 3 rfl ?_
      refine jv_iload_n B d_S_behindStretch_13 rfl 1 rfl ?_
      refine jv_isub B d_S_behindStretch_14 ?_
      refine jv_iload_n B d_S_behindStretch_15 rfl 2 rfl ?_
      refine jv_icmp_ge (tgt := 38) B d_S_behindStretch_16 (by decide) (fun hc => ?_) (fun hc => ?_)
      · replace h := h.1 hc
        refine jv_iload_n B d_S_behindStretch_38 rfl 3 rfl ?_
        exact jv_iret B hr rfl hlk hK _ rfl h d_S_behindStretch_39
      · replace h := h.2 hc
        refine jv_aload_n B d_S_behindStretch_19 rfl 0 rfl ?_
        refine jv_iload_n B d_S_behindStretch_20 rfl 3 rfl ?_
        refine jv_civ (As := [.int v3]) B hml hown hts hK hA (c_S_stateOf (ad := ad) (cI := cI) (cA := cA) (cL := cL) (F := F) h) (cwV 1 hts g_S_34 rfl rfl rfl hd_S_stateOf ⟨Nat.le_of_ble_eq_true rfl, Nat.le_of_ble_eq_true rfl⟩) 6 3 rfl rfl rfl rfl (Nat.le_of_ble_eq_true rfl) d_S_behindStretch_21 ⟨Nat.le_of_ble_eq_true rfl, Nat.le_of_ble_eq_true rfl⟩ rfl (fun r2 σ1 h => ?_)
        refine jv_aload_n B d_S_behindStretch_24 rfl 0 rfl ?_
        refine jv_iload_n B d_S_behindStretch_25 rfl 1 rfl ?_
        refine jv_civ (As := [.int v1]) B hml hown hts hK hA (c_S_stateOf (ad := ad) (cI := cI) (cA := cA) (cL := cL) (F := F) h) (cwV 1 hts g_S_34 rfl rfl rfl hd_S_stateOf ⟨Nat.le_of_ble_eq_true rfl, Nat.le_of_ble_eq_true rfl⟩) 6 3 rfl rfl rfl rfl (Nat.le_of_ble_eq_true rfl) d_S_behindStretch_26 ⟨Nat.le_of_ble_eq_true rfl, Nat.le_of_ble_eq_true rfl⟩ rfl (fun r4 σ3 h => ?_)
        refine jv_icmp_ne (tgt := 38) B d_S_behindStretch_29 (by decide) (fun hc => ?_) (fun hc => ?_)
        · replace h := h.1 hc
          refine jv_iload_n B d_S_behindStretch_38 rfl 3 rfl ?_
          exact jv_iret B hr rfl hlk hK _ rfl h d_S_behindStretch_39
        · replace h := h.2 hc
          refine jv_iinc (n9 := 3) (v := v3 + 1) (lv' := [(3, .int (v3 + 1)), (0, .ref (ad 6)), (1, .int v1), (2, .int v2)]) B d_S_behindStretch_32 rfl rfl (by decide) rfl ?_
          refine jv_goto (tgt := 4) B d_S_behindStretch_35 (by decide) ?_
          refine jv_sub [1, 2, 3, 0] rfl ?_
          exact ih _ _ h
set_option maxRecDepth 100000 in
theorem w_S_behindStretch_0 (X : jv_C p s m args meth c b_S_behindStretch 4 (some .int) y_S_behindStretch wb D jClasses (jTy cI cA cL) A) {post : Int32 → jS → Prop} {σ : jS} {v1 v2 : Int32} (h : p_S_behindStretch σ v1 v2 post) : jv_V p l e (rmk 2 0 0) s m args below meth c D jClasses A 4 0 0 (MQ below (va_Qi post (jv_End D jClasses (jTy cI cA cL) A (fun σ => cw ad cI cA σ F)) A) args s 0 0 A) (cw ad cI cA σ F) [(0, .ref (ad 6)), (1, .int v1), (2, .int v2)] 0 [] := by
  obtain ⟨B, hml, hown, hts, hK, hA, hr, hlk, hnm⟩ := id X
  unfold p_S_behindStretch at h
  refine jv_iload_n B d_S_behindStretch_0 rfl 1 rfl ?_
  refine jv_iconst (v := 1) B d_S_behindStretch_1 (by decide) ?_
  refine jv_iadd B d_S_behindStretch_2 ?_
  refine jv_istore_n (lv' := [(3, .int (v1 + 1)), (0, .ref (ad 6)), (1, .int v1), (2, .int v2)]) B d_S_behindStretch_3 rfl (by decide) rfl ?_
  refine jv_sub [1, 2, 3, 0] rfl ?_
  obtain ⟨n9, h⟩ := h
  exact w_S_behindStretch_4 X n9 _ _ h
theorem c_S_behindStretch {l : Launch} {D : va_G} {A : Nat → Prop} {ad : Nat → Nat} {cI cA cL : ClassId} {F : va_W} {σ : jS} {v1 v2 : Int32} {post : Int32 → jS → Prop} (h : p_S_behindStretch σ v1 v2 post) : Met l y_S_behindStretch (Cond.code y_S_behindStretch b_S_behindStretch 4 (some .int) :: wb) (rmk 2 0 0) (jv_Pre D jClasses (jTy cI cA cL) A (cw ad cI cA σ F) [.ref (ad 6), .int v1, .int v2]) (va_Qi post (jv_End D jClasses (jTy cI cA cL) A (fun σ => cw ad cI cA σ F)) A) 0 0 A :=
  jv_ofB (by decide) (Nat.le_of_ble_eq_true rfl) (fun p e s m below meth c X => w_S_behindStretch_0 X h)
set_option maxRecDepth 100000 in
theorem w_D_readStretch_31 (X : jv_C p s m args meth c b_D_readStretch 4 (some .boolean) y_D_readStretch wb D jClasses (jTy cI cA cL) A) {post : Int32 → jS → Prop} {v1 v2 : Int32} : ∀ (n : Nat), ∀ (σ : jS) (v3 : Int32), p_D_readStretch_31 post v1 v2 n σ v3 → jv_V p l e (rmk 2 0 0) s m args below meth c D jClasses A 4 0 0 (MQ below (va_Qi post (jv_End D jClasses (jTy cI cA cL) A (fun σ => cw ad cI cA σ F)) A) args s 0 0 A) (cw ad cI cA σ F) [(0, .ref (ad 1)), (1, .int v1), (2, .int v2), (3, .int v3)] 31 [] := by
  obtain ⟨B, hml, hown, hts, hK, hA, hr, hlk, hnm⟩ := id X
  intro n
  induction n with
  | zero => intro σ v3 h; exact h.elim
  | succ n ih =>
    intro σ v3 h
    rw [p_D_readStretch_31] at h
    refine jv_iload_n B d_D_readStretch_31 rfl 3 rfl ?_
    refine jv_iload_n B d_D_readStretch_32 rfl 2 rfl ?_
    refine jv_icmp_ge (tgt := 93) B d_D_readStretch_33 (by decide) (fun hc => ?_) (fun hc => ?_)
    · replace h := h.1 hc
      refine jv_aload_n B d_D_readStretch_93 rfl 0 rfl ?_
      refine fg_D_words B hts hown hK d_D_readStretch_94 ?_
      refine jv_iload_n B d_D_readStretch_97 rfl 1 rfl ?_
      refine jv_aload_n B d_D_readStretch_98 rfl 0 rfl ?_
      refine fg_D_target B hts hown hK d_D_readStretch_99 ?_
      refine jv_iload_n B d_D_readStretch_102 rfl 1 rfl ?_
      refine jv_iload_n B d_D_readStretch_103 rfl 2 rfl ?_
      refine jv_iload_n B d_D_readStretch_104 rfl 1 rfl ?_
      refine jv_isub B d_D_readStretch_105 ?_
      refine jv_copy (ws' := cw ad cI cA (upC σ 5 2 v1.toNatClampNeg v1.toNatClampNeg (v2 - v1).toNatClampNeg) F) B hml hown hts hK (hts _ kw_402) 2 5 rfl rfl rfl h.1 rfl (Nat.le_of_ble_eq_true rfl) (Nat.le_of_ble_eq_true rfl) d_D_readStretch_106 ?_
      replace h := h.2
      refine jv_iconst (v := 1) B d_D_readStretch_109 (by decide) ?_
      exact jv_iret B hr (nz h.1) hlk hK _ rfl h.2 d_D_readStretch_110
    · replace h := h.2 hc
      refine jv_aload_n B d_D_readStretch_36 rfl 0 rfl ?_
      refine fg_D_readCounts B hts hown hK d_D_readStretch_37 ?_
      refine jv_iload_n B d_D_readStretch_40 rfl 3 rfl ?_
      refine jv_dup2 B d_D_readStretch_41 rfl rfl ?_
      refine ld_c_4 B hK h.1 d_D_readStretch_42 ?_
      replace h := h.2
      refine jv_iconst (v := 1) B d_D_readStretch_43 (by decide) ?_
      refine jv_iadd B d_D_readStretch_44 ?_
      refine sd_c_4 B hK h.1 d_D_readStretch_45 ?_
      replace h := h.2
      refine jv_aload_n B d_D_readStretch_46 rfl 0 rfl ?_
      refine fg_D_failuresLeft B hts hown hK d_D_readStretch_47 ?_
      refine jv_iload_n B d_D_readStretch_50 rfl 3 rfl ?_
      refine ld_c_3 B hK h.1 d_D_readStretch_51 ?_
      replace h := h.2
      refine jv_if_eq (tgt := 87) B d_D_readStretch_52 (by decide) (fun hc => ?_) (fun hc => ?_)
      · replace h := h.1 hc
        refine jv_iinc (n9 := 3) (v := v3 + 1) (lv' := [(3, .int (v3 + 1)), (0, .ref (ad 1)), (1, .int v1), (2, .int v2)]) B d_D_readStretch_87 rfl rfl (by decide) rfl ?_
        refine jv_goto (tgt := 31) B d_D_readStretch_90 (by decide) ?_
        refine jv_sub [1, 2, 3, 0] rfl ?_
        exact ih _ _ h
      · replace h := h.2 hc
        refine jv_aload_n B d_D_readStretch_55 rfl 0 rfl ?_
        refine fg_D_failuresLeft B hts hown hK d_D_readStretch_56 ?_
        refine jv_iload_n B d_D_readStretch_59 rfl 3 rfl ?_
        refine ld_c_3 B hK h.1 d_D_readStretch_60 ?_
        replace h := h.2
        refine jv_iconst (v := (-1)) B d_D_readStretch_61 (by decide) ?_
        refine jv_icmp_eq (tgt := 75) B d_D_readStretch_62 (by decide) (fun hc => ?_) (fun hc => ?_)
        · replace h := h.1 hc
          refine jv_aload_n B d_D_readStretch_75 rfl 0 rfl ?_
          refine jv_dup B d_D_readStretch_76 rfl ?_
          refine fg_D_failedStretches B hts hown hK d_D_readStretch_77 ?_
          refine jv_iconst (v := 1) B d_D_readStretch_80 (by decide) ?_
          refine jv_iadd B d_D_readStretch_81 ?_
          refine fs_D_failedStretches B hts hown hK d_D_readStretch_82 ?_
          refine jv_iconst (v := 0) B d_D_readStretch_85 (by decide) ?_
          exact jv_iret B hr (nz h.1) hlk hK _ rfl h.2 d_D_readStretch_86
        · replace h := h.2 hc
          refine jv_aload_n B d_D_readStretch_65 rfl 0 rfl ?_
          refine fg_D_failuresLeft B hts hown hK d_D_readStretch_66 ?_
          refine jv_iload_n B d_D_readStretch_69 rfl 3 rfl ?_
          refine jv_dup2 B d_D_readStretch_70 rfl rfl ?_
          refine ld_c_3 B hK h.1 d_D_readStretch_71 ?_
          replace h := h.2
          refine jv_iconst (v := 1) B d_D_readStretch_72 (by decide) ?_
          refine jv_isub B d_D_readStretch_73 ?_
          refine sd_c_3 B hK h.1 d_D_readStretch_74 ?_
          replace h := h.2
          refine jv_aload_n B d_D_readStretch_75 rfl 0 rfl ?_
          refine jv_dup B d_D_readStretch_76 rfl ?_
          refine fg_D_failedStretches B hts hown hK d_D_readStretch_77 ?_
          refine jv_iconst (v := 1) B d_D_readStretch_80 (by decide) ?_
          refine jv_iadd B d_D_readStretch_81 ?_
          refine fs_D_failedStretches B hts hown hK d_D_readStretch_82 ?_
          refine jv_iconst (v := 0) B d_D_readStretch_85 (by decide) ?_
          exact jv_iret B hr (nz h.1) hlk hK _ rfl h.2 d_D_readStretch_86
set_option maxRecDepth 100000 in
theorem w_D_readStretch_0 (X : jv_C p s m args meth c b_D_readStretch 4 (some .boolean) y_D_readStretch wb D jClasses (jTy cI cA cL) A) {post : Int32 → jS → Prop} {σ : jS} {v1 v2 : Int32} (h : p_D_readStretch σ v1 v2 post) : jv_V p l e (rmk 2 0 0) s m args below meth c D jClasses A 4 0 0 (MQ below (va_Qi post (jv_End D jClasses (jTy cI cA cL) A (fun σ => cw ad cI cA σ F)) A) args s 0 0 A) (cw ad cI cA σ F) [(0, .ref (ad 1)), (1, .int v1), (2, .int v2)] 0 [] := by
  obtain ⟨B, hml, hown, hts, hK, hA, hr, hlk, hnm⟩ := id X
  unfold p_D_readStretch at h
  refine jv_iload_n B d_D_readStretch_0 rfl 1 rfl ?_
  refine jv_if_lt (tgt := 17) B d_D_readStretch_1 (by decide) (fun hc => ?_) (fun hc => ?_)
  · replace h := h.1 hc
    refine jv_iconst (v := 0) B d_D_readStretch_17 (by decide) ?_
    exact jv_iret B hr (nz h.1) hlk hK _ rfl h.2 d_D_readStretch_18
  · replace h := h.2 hc
    refine jv_iload_n B d_D_readStretch_4 rfl 1 rfl ?_
    refine jv_iload_n B d_D_readStretch_5 rfl 2 rfl ?_
    refine jv_icmp_ge (tgt := 17) B d_D_readStretch_6 (by decide) (fun hc => ?_) (fun hc => ?_)
    · replace h := h.1 hc
      refine jv_iconst (v := 0) B d_D_readStretch_17 (by decide) ?_
      exact jv_iret B hr (nz h.1) hlk hK _ rfl h.2 d_D_readStretch_18
    · replace h := h.2 hc
      refine jv_iload_n B d_D_readStretch_9 rfl 2 rfl ?_
      refine jv_aload_n B d_D_readStretch_10 rfl 0 rfl ?_
      refine fg_D_sectors B hts hown hK d_D_readStretch_11 ?_
      refine jv_icmp_le (tgt := 19) B d_D_readStretch_14 (by decide) (fun hc => ?_) (fun hc => ?_)
      · replace h := h.1 hc
        refine jv_aload_n B d_D_readStretch_19 rfl 0 rfl ?_
        refine jv_dup B d_D_readStretch_20 rfl ?_
        refine fg_D_stretches B hts hown hK d_D_readStretch_21 ?_
        refine jv_iconst (v := 1) B d_D_readStretch_24 (by decide) ?_
        refine jv_iadd B d_D_readStretch_25 ?_
        refine fs_D_stretches B hts hown hK d_D_readStretch_26 ?_
        refine jv_iload_n B d_D_readStretch_29 rfl 1 rfl ?_
        refine jv_istore_n (lv' := [(3, .int v1), (0, .ref (ad 1)), (1, .int v1), (2, .int v2)]) B d_D_readStretch_30 rfl (by decide) rfl ?_
        refine jv_sub [1, 2, 3, 0] rfl ?_
        obtain ⟨n9, h⟩ := h
        exact w_D_readStretch_31 X n9 _ _ h
      · replace h := h.2 hc
        refine jv_iconst (v := 0) B d_D_readStretch_17 (by decide) ?_
        exact jv_iret B hr (nz h.1) hlk hK _ rfl h.2 d_D_readStretch_18
theorem c_D_readStretch {l : Launch} {D : va_G} {A : Nat → Prop} {ad : Nat → Nat} {cI cA cL : ClassId} {F : va_W} {σ : jS} {v1 v2 : Int32} {post : Int32 → jS → Prop} (h : p_D_readStretch σ v1 v2 post) : Met l y_D_readStretch (Cond.code y_D_readStretch b_D_readStretch 4 (some .boolean) :: wb) (rmk 2 0 0) (jv_Pre D jClasses (jTy cI cA cL) A (cw ad cI cA σ F) [.ref (ad 1), .int v1, .int v2]) (va_Qi post (jv_End D jClasses (jTy cI cA cL) A (fun σ => cw ad cI cA σ F)) A) 0 0 A :=
  jv_ofB (by decide) (Nat.le_of_ble_eq_true rfl) (fun p e s m below meth c X => w_D_readStretch_0 X h)
set_option maxRecDepth 100000 in
theorem w_S_mark_17 (X : jv_C p s m args meth c b_S_mark 6 none y_S_mark wb D jClasses (jTy cI cA cL) A) {post : jS → Prop} {v1 v2 v3 : Int32} : ∀ (n : Nat), ∀ (σ : jS) (v4 v5 : Int32), p_S_mark_17 post v1 v2 v3 n σ v4 v5 → jv_V p l e (rmk 2 0 0) s m args below meth c D jClasses A 6 0 0 (MQ below (va_Qv post (jv_End D jClasses (jTy cI cA cL) A (fun σ => cw ad cI cA σ F)) A) args s 0 0 A) (cw ad cI cA σ F) [(0, .ref (ad 6)), (3, .int v3), (4, .int v4), (5, .int v5)] 17 [] := by
  obtain ⟨B, hml, hown, hts, hK, hA, hr, hlk, hnm⟩ := id X
  intro n
  induction n with
  | zero => intro σ v4 v5 h; exact h.elim
  | succ n ih =>
    intro σ v4 v5 h
    rw [p_S_mark_17] at h
    refine jv_iload B d_S_mark_17 3 rfl ?_
    refine jv_iload B d_S_mark_19 2 rfl ?_
    refine jv_icmp_ge (tgt := 38) B d_S_mark_21 (by decide) (fun hc => ?_) (fun hc => ?_)
    · replace h := h.1 hc
      exact jv_vret B hr hlk hK _ rfl h d_S_mark_38
    · replace h := h.2 hc
      refine jv_aload_n B d_S_mark_24 rfl 0 rfl ?_
      refine fg_S_states B hts hown hK d_S_mark_25 ?_
      refine jv_iload B d_S_mark_28 3 rfl ?_
      refine jv_iload_n B d_S_mark_30 rfl 1 rfl ?_
      refine sd_c_7 B hK h.1 d_S_mark_31 ?_
      replace h := h.2
      refine jv_iinc (n9 := 3) (v := v5 + 1) (lv' := [(5, .int (v5 + 1)), (0, .ref (ad 6)), (3, .int v3), (4, .int v4)]) B d_S_mark_32 rfl rfl (by decide) rfl ?_
      refine jv_goto (tgt := 17) B d_S_mark_35 (by decide) ?_
      refine jv_sub [1, 2, 3, 0] rfl ?_
      exact ih _ _ _ h
set_option maxRecDepth 100000 in
theorem w_S_mark_0 (X : jv_C p s m args meth c b_S_mark 6 none y_S_mark wb D jClasses (jTy cI cA cL) A) {post : jS → Prop} {σ : jS} {v1 v2 v3 : Int32} (h : p_S_mark σ v1 v2 v3 post) : jv_V p l e (rmk 2 0 0) s m args below meth c D jClasses A 6 0 0 (MQ below (va_Qv post (jv_End D jClasses (jTy cI cA cL) A (fun σ => cw ad cI cA σ F)) A) args s 0 0 A) (cw ad cI cA σ F) [(0, .ref (ad 6)), (1, .int v1), (2, .int v2), (3, .int v3)] 0 [] := by
  obtain ⟨B, hml, hown, hts, hK, hA, hr, hlk, hnm⟩ := id X
  unfold p_S_mark at h
  refine jv_iload_n B d_S_mark_0 rfl 2 rfl ?_
  refine jv_aload_n B d_S_mark_1 rfl 0 rfl ?_
  refine fg_S_sectors B hts hown hK d_S_mark_2 ?_
  refine jv_mmin B hml hown hts (hts _ kw_350) (Nat.le_of_ble_eq_true rfl) (Nat.le_of_ble_eq_true rfl) (Nat.le_of_ble_eq_true rfl) (Nat.le_of_ble_eq_true rfl) d_S_mark_5 ?_
  refine jv_istore (lv' := [(4, .int (if σ 6 1 < v2 then σ 6 1 else v2)), (0, .ref (ad 6)), (1, .int v1), (2, .int v2), (3, .int v3)]) B d_S_mark_8 (by decide) rfl ?_
  refine jv_iconst (v := 0) B d_S_mark_10 (by decide) ?_
  refine jv_iload_n B d_S_mark_11 rfl 2 rfl ?_
  refine jv_mmax B hml hown hts (hts _ kw_353) (Nat.le_of_ble_eq_true rfl) (Nat.le_of_ble_eq_true rfl) (Nat.le_of_ble_eq_true rfl) (Nat.le_of_ble_eq_true rfl) d_S_mark_12 ?_
  refine jv_istore (lv' := [(5, .int (if 0 < v1 then v1 else 0)), (4, .int (if σ 6 1 < v2 then σ 6 1 else v2)), (0, .ref (ad 6)), (1, .int v1), (2, .int v2), (3, .int v3)]) B d_S_mark_15 (by decide) rfl ?_
  refine jv_sub [2, 5, 1, 0] rfl ?_
  obtain ⟨n9, h⟩ := h
  exact w_S_mark_17 X n9 _ _ _ h
theorem c_S_mark {l : Launch} {D : va_G} {A : Nat → Prop} {ad : Nat → Nat} {cI cA cL : ClassId} {F : va_W} {σ : jS} {v1 v2 v3 : Int32} {post : jS → Prop} (h : p_S_mark σ v1 v2 v3 post) : Met l y_S_mark (Cond.code y_S_mark b_S_mark 6 none :: wb) (rmk 2 0 0) (jv_Pre D jClasses (jTy cI cA cL) A (cw ad cI cA σ F) [.ref (ad 6), .int v1, .int v2, .int v3]) (va_Qv post (jv_End D jClasses (jTy cI cA cL) A (fun σ => cw ad cI cA σ F)) A) 0 0 A :=
  jv_ofB (by decide) (Nat.le_of_ble_eq_true rfl) (fun p e s m below meth c X => w_S_mark_0 X h)
set_option maxRecDepth 100000 in
theorem w_K_rescue_27 (X : jv_C p s m args meth c b_K_rescue 5 (some .boolean) y_K_rescue wb D jClasses (jTy cI cA cL) A) {post : Int32 → jS → Prop} {v1 v2 v3 : Int32} {σ : jS} {v4 y0 y1 y2 : Int32} (h : p_K_rescue_27 post v1 v2 v3 σ v4 y0 y1 y2) : jv_V p l e (rmk 3 0 0) s m args below meth c D jClasses A 5 0 0 (MQ below (va_Qi post (jv_End D jClasses (jTy cI cA cL) A (fun σ => cw ad cI cA σ F)) A) args s 0 0 A) (cw ad cI cA σ F) [(4, .int v4)] 27 [.int y0, .int y1, .int y2, .ref (ad 6)] := by
  obtain ⟨B, hml, hown, hts, hK, hA, hr, hlk, hnm⟩ := id X
  unfold p_K_rescue_27 at h
  refine jv_cvv (As := [.int y2, .int y1, .int y0]) B hml hown hts hK hA (c_S_mark (ad := ad) (cI := cI) (cA := cA) (cL := cL) (F := F) h) (cwV 3 hts g_K_96 rfl rfl rfl hd_S_mark ⟨Nat.le_of_ble_eq_true rfl, Nat.le_of_ble_eq_true rfl⟩) 6 3 rfl rfl rfl rfl (Nat.le_of_ble_eq_true rfl) d_K_rescue_27 ⟨Nat.le_of_ble_eq_true rfl, Nat.le_of_ble_eq_true rfl⟩ rfl (fun σ3 h => ?_)
  refine jv_iload B d_K_rescue_30 0 rfl ?_
  exact jv_iret B hr (nz h.1) hlk hK _ rfl h.2 d_K_rescue_32
set_option maxRecDepth 100000 in
theorem w_K_rescue_0 (X : jv_C p s m args meth c b_K_rescue 5 (some .boolean) y_K_rescue wb D jClasses (jTy cI cA cL) A) {post : Int32 → jS → Prop} {σ : jS} {v1 v2 v3 : Int32} (h : p_K_rescue σ v1 v2 v3 post) : jv_V p l e (rmk 3 0 0) s m args below meth c D jClasses A 5 0 0 (MQ below (va_Qi post (jv_End D jClasses (jTy cI cA cL) A (fun σ => cw ad cI cA σ F)) A) args s 0 0 A) (cw ad cI cA σ F) [(0, .ref (ad 8)), (1, .int v1), (2, .int v2), (3, .int v3)] 0 [] := by
  obtain ⟨B, hml, hown, hts, hK, hA, hr, hlk, hnm⟩ := id X
  unfold p_K_rescue at h
  refine jv_aload_n B d_K_rescue_0 rfl 0 rfl ?_
  refine fg_K_disk B hts hown hK d_K_rescue_1 ?_
  refine jv_iload_n B d_K_rescue_4 rfl 1 rfl ?_
  refine jv_iload_n B d_K_rescue_5 rfl 2 rfl ?_
  refine jv_civ (As := [.int v1, .int v2]) B hml hown hts hK hA (c_D_readStretch (ad := ad) (cI := cI) (cA := cA) (cL := cL) (F := F) h) (cwV 2 hts g_K_109 rfl rfl rfl hd_D_readStretch ⟨Nat.le_of_ble_eq_true rfl, Nat.le_of_ble_eq_true rfl⟩) 1 1 rfl rfl rfl rfl (Nat.le_of_ble_eq_true rfl) d_K_rescue_6 ⟨Nat.le_of_ble_eq_true rfl, Nat.le_of_ble_eq_true rfl⟩ rfl (fun r2 σ1 h => ?_)
  refine jv_istore (lv' := [(4, .int r2), (0, .ref (ad 8)), (1, .int v1), (2, .int v2), (3, .int v3)]) B d_K_rescue_9 (by decide) rfl ?_
  refine jv_aload_n B d_K_rescue_11 rfl 1 rfl ?_
  refine fg_K_map B hts hown hK d_K_rescue_12 ?_
  refine jv_iload_n B d_K_rescue_15 rfl 2 rfl ?_
  refine jv_iload_n B d_K_rescue_16 rfl 3 rfl ?_
  refine jv_iload B d_K_rescue_17 0 rfl ?_
  refine jv_if_eq (tgt := 26) B d_K_rescue_19 (by decide) (fun hc => ?_) (fun hc => ?_)
  · replace h := h.1 hc
    refine jv_iload_n B d_K_rescue_26 rfl 4 rfl ?_
    refine jv_sub [0] rfl ?_
    exact w_K_rescue_27 X h
  · replace h := h.2 hc
    refine jv_iconst (v := 4) B d_K_rescue_22 (by decide) ?_
    refine jv_goto (tgt := 27) B d_K_rescue_23 (by decide) ?_
    refine jv_sub [0] rfl ?_
    exact w_K_rescue_27 X h
theorem c_K_rescue {l : Launch} {D : va_G} {A : Nat → Prop} {ad : Nat → Nat} {cI cA cL : ClassId} {F : va_W} {σ : jS} {v1 v2 v3 : Int32} {post : Int32 → jS → Prop} (h : p_K_rescue σ v1 v2 v3 post) : Met l y_K_rescue (Cond.code y_K_rescue b_K_rescue 5 (some .boolean) :: wb) (rmk 3 0 0) (jv_Pre D jClasses (jTy cI cA cL) A (cw ad cI cA σ F) [.ref (ad 8), .int v1, .int v2, .int v3]) (va_Qi post (jv_End D jClasses (jTy cI cA cL) A (fun σ => cw ad cI cA σ F)) A) 0 0 A :=
  jv_ofB (by decide) (Nat.le_of_ble_eq_true rfl) (fun p e s m below meth c X => w_K_rescue_0 X h)
set_option maxRecDepth 100000 in
theorem w_K_takeLeap_12 (X : jv_C p s m args meth c b_K_takeLeap 3 (some .int) y_K_takeLeap wb D jClasses (jTy cI cA cL) A) {post : Int32 → jS → Prop} {v1 : Int32} {σ : jS} {y0 : Int32} (h : p_K_takeLeap_12 post v1 σ y0) : jv_V p l e (rmk 2 0 0) s m args below meth c D jClasses A 3 0 0 (MQ below (va_Qi post (jv_End D jClasses (jTy cI cA cL) A (fun σ => cw ad cI cA σ F)) A) args s 0 0 A) (cw ad cI cA σ F) [(0, .ref (ad 8)), (1, .int v1)] 12 [.int y0] := by
  obtain ⟨B, hml, hown, hts, hK, hA, hr, hlk, hnm⟩ := id X
  unfold p_K_takeLeap_12 at h
  refine jv_istore_n (lv' := [(2, .int y0), (0, .ref (ad 8)), (1, .int v1)]) B d_K_takeLeap_12 rfl (by decide) rfl ?_
  refine jv_aload_n B d_K_takeLeap_13 rfl 1 rfl ?_
  refine jv_iload_n B d_K_takeLeap_14 rfl 2 rfl ?_
  refine jv_if_eq (tgt := 23) B d_K_takeLeap_15 (by decide) (fun hc => ?_) (fun hc => ?_)
  · replace h := h.1 hc
    refine jv_iconst (v := 2) B d_K_takeLeap_23 (by decide) ?_
    refine jv_aload_n B d_K_takeLeap_24 rfl 1 rfl ?_
    refine fg_K_leap B hts hown hK d_K_takeLeap_25 ?_
    refine jv_imul B d_K_takeLeap_28 ?_
    refine jv_bipush (v := 32) B d_K_takeLeap_29 (by decide) ?_
    refine jv_mmin B hml hown hts (hts _ kw_413) (Nat.le_of_ble_eq_true rfl) (Nat.le_of_ble_eq_true rfl) (Nat.le_of_ble_eq_true rfl) (Nat.le_of_ble_eq_true rfl) d_K_takeLeap_31 ?_
    refine fs_K_leap B hts hown hK d_K_takeLeap_34 ?_
    refine jv_iload_n B d_K_takeLeap_37 rfl 0 rfl ?_
    exact jv_iret B hr rfl hlk hK _ rfl h d_K_takeLeap_38
  · replace h := h.2 hc
    refine jv_bipush (v := 8) B d_K_takeLeap_18 (by decide) ?_
    refine jv_goto (tgt := 34) B d_K_takeLeap_20 (by decide) ?_
    refine fs_K_leap B hts hown hK d_K_takeLeap_34 ?_
    refine jv_iload_n B d_K_takeLeap_37 rfl 0 rfl ?_
    exact jv_iret B hr rfl hlk hK _ rfl h d_K_takeLeap_38
set_option maxRecDepth 100000 in
theorem w_K_takeLeap_0 (X : jv_C p s m args meth c b_K_takeLeap 3 (some .int) y_K_takeLeap wb D jClasses (jTy cI cA cL) A) {post : Int32 → jS → Prop} {σ : jS} {v1 : Int32} (h : p_K_takeLeap σ v1 post) : jv_V p l e (rmk 2 0 0) s m args below meth c D jClasses A 3 0 0 (MQ below (va_Qi post (jv_End D jClasses (jTy cI cA cL) A (fun σ => cw ad cI cA σ F)) A) args s 0 0 A) (cw ad cI cA σ F) [(0, .ref (ad 8)), (1, .int v1)] 0 [] := by
  obtain ⟨B, hml, hown, hts, hK, hA, hr, hlk, hnm⟩ := id X
  unfold p_K_takeLeap at h
  refine jv_iload_n B d_K_takeLeap_0 rfl 1 rfl ?_
  refine jv_if_eq (tgt := 8) B d_K_takeLeap_1 (by decide) (fun hc => ?_) (fun hc => ?_)
  · replace h := h.1 hc
    refine jv_aload_n B d_K_takeLeap_8 rfl 0 rfl ?_
    refine fg_K_leap B hts hown hK d_K_takeLeap_9 ?_
    exact w_K_takeLeap_12 X h
  · replace h := h.2 hc
    refine jv_iconst (v := 0) B d_K_takeLeap_4 (by decide) ?_
    refine jv_goto (tgt := 12) B d_K_takeLeap_5 (by decide) ?_
    exact w_K_takeLeap_12 X h
theorem c_K_takeLeap {l : Launch} {D : va_G} {A : Nat → Prop} {ad : Nat → Nat} {cI cA cL : ClassId} {F : va_W} {σ : jS} {v1 : Int32} {post : Int32 → jS → Prop} (h : p_K_takeLeap σ v1 post) : Met l y_K_takeLeap (Cond.code y_K_takeLeap b_K_takeLeap 3 (some .int) :: wb) (rmk 2 0 0) (jv_Pre D jClasses (jTy cI cA cL) A (cw ad cI cA σ F) [.ref (ad 8), .int v1]) (va_Qi post (jv_End D jClasses (jTy cI cA cL) A (fun σ => cw ad cI cA σ F)) A) 0 0 A :=
  jv_ofB (by decide) (Nat.le_of_ble_eq_true rfl) (fun p e s m below meth c X => w_K_takeLeap_0 X h)
set_option maxRecDepth 100000 in
theorem w_K_readForward_0 (X : jv_C p s m args meth c b_K_readForward 5 (some .boolean) y_K_readForward wb D jClasses (jTy cI cA cL) A) {post : Int32 → jS → Prop} {σ : jS} {v1 : Int32} (h : p_K_readForward σ v1 post) : jv_V p l e (rmk 4 0 0) s m args below meth c D jClasses A 5 0 0 (MQ below (va_Qi post (jv_End D jClasses (jTy cI cA cL) A (fun σ => cw ad cI cA σ F)) A) args s 0 0 A) (cw ad cI cA σ F) [(0, .ref (ad 8)), (1, .int v1)] 0 [] := by
  obtain ⟨B, hml, hown, hts, hK, hA, hr, hlk, hnm⟩ := id X
  unfold p_K_readForward at h
  refine jv_aload_n B d_K_readForward_0 rfl 0 rfl ?_
  refine fg_K_map B hts hown hK d_K_readForward_1 ?_
  refine jv_iconst (v := 0) B d_K_readForward_4 (by decide) ?_
  refine jv_aload_n B d_K_readForward_5 rfl 0 rfl ?_
  refine fg_K_position B hts hown hK d_K_readForward_6 ?_
  refine jv_civ (As := [.int 0, .int (σ 8 3)]) B hml hown hts hK hA (c_S_firstFrom (ad := ad) (cI := cI) (cA := cA) (cL := cL) (F := F) h) (cwV 2 hts g_K_70 rfl rfl rfl hd_S_firstFrom ⟨Nat.le_of_ble_eq_true rfl, Nat.le_of_ble_eq_true rfl⟩) 6 3 rfl rfl rfl rfl (Nat.le_of_ble_eq_true rfl) d_K_readForward_9 ⟨Nat.le_of_ble_eq_true rfl, Nat.le_of_ble_eq_true rfl⟩ rfl (fun r2 σ1 h => ?_)
  refine jv_istore_n (lv' := [(2, .int r2), (0, .ref (ad 8)), (1, .int v1)]) B d_K_readForward_12 rfl (by decide) rfl ?_
  refine jv_iload_n B d_K_readForward_13 rfl 0 rfl ?_
  refine jv_iconst (v := (-1)) B d_K_readForward_14 (by decide) ?_
  refine jv_icmp_ne (tgt := 20) B d_K_readForward_15 (by decide) (fun hc => ?_) (fun hc => ?_)
  · replace h := h.1 hc
    refine jv_aload_n B d_K_readForward_20 rfl 1 rfl ?_
    refine fg_K_map B hts hown hK d_K_readForward_21 ?_
    refine jv_iload_n B d_K_readForward_24 rfl 0 rfl ?_
    refine jv_bipush (v := 8) B d_K_readForward_25 (by decide) ?_
    refine jv_civ (As := [.int r2, .int 8]) B hml hown hts hK hA (c_S_behindStretch (ad := ad) (cI := cI) (cA := cA) (cL := cL) (F := F) h) (cwV 2 hts g_K_74 rfl rfl rfl hd_S_behindStretch ⟨Nat.le_of_ble_eq_true rfl, Nat.le_of_ble_eq_true rfl⟩) 6 3 rfl rfl rfl rfl (Nat.le_of_ble_eq_true rfl) d_K_readForward_27 ⟨Nat.le_of_ble_eq_true rfl, Nat.le_of_ble_eq_true rfl⟩ rfl (fun r4 σ3 h => ?_)
    refine jv_istore_n (lv' := [(3, .int r4), (2, .int r2), (0, .ref (ad 8)), (1, .int v1)]) B d_K_readForward_30 rfl (by decide) rfl ?_
    refine jv_aload_n B d_K_readForward_31 rfl 2 rfl ?_
    refine jv_iload_n B d_K_readForward_32 rfl 1 rfl ?_
    refine jv_iload_n B d_K_readForward_33 rfl 0 rfl ?_
    refine jv_iconst (v := 1) B d_K_readForward_34 (by decide) ?_
    refine jv_civ (As := [.int r2, .int r4, .int 1]) B hml hown hts hK hA (c_K_rescue (ad := ad) (cI := cI) (cA := cA) (cL := cL) (F := F) h) (cwV 3 hts g_K_77 rfl rfl rfl hd_K_rescue ⟨Nat.le_of_ble_eq_true rfl, Nat.le_of_ble_eq_true rfl⟩) 8 0 rfl rfl rfl rfl (Nat.le_of_ble_eq_true rfl) d_K_readForward_35 ⟨Nat.le_of_ble_eq_true rfl, Nat.le_of_ble_eq_true rfl⟩ rfl (fun r6 σ5 h => ?_)
    refine jv_istore (lv' := [(4, .int r6), (3, .int r4), (2, .int r2), (0, .ref (ad 8)), (1, .int v1)]) B d_K_readForward_38 (by decide) rfl ?_
    refine jv_aload_n B d_K_readForward_40 rfl 3 rfl ?_
    refine jv_iload_n B d_K_readForward_41 rfl 1 rfl ?_
    refine jv_iload_n B d_K_readForward_42 rfl 4 rfl ?_
    refine jv_if_eq (tgt := 55) B d_K_readForward_43 (by decide) (fun hc => ?_) (fun hc => ?_)
    · replace h := h.1 hc
      refine jv_iconst (v := 0) B d_K_readForward_55 (by decide) ?_
      refine jv_iadd B d_K_readForward_56 ?_
      refine fs_K_position B hts hown hK d_K_readForward_57 ?_
      refine jv_iconst (v := 1) B d_K_readForward_60 (by decide) ?_
      exact jv_iret B hr (nz h.1) hlk hK _ rfl h.2 d_K_readForward_61
    · replace h := h.2 hc
      refine jv_aload_n B d_K_readForward_46 rfl 3 rfl ?_
      refine jv_iload B d_K_readForward_47 0 rfl ?_
      refine jv_civ (As := [.int r6]) B hml hown hts hK hA (c_K_takeLeap (ad := ad) (cI := cI) (cA := cA) (cL := cL) (F := F) h) (cwV 1 hts g_K_81 rfl rfl rfl hd_K_takeLeap ⟨Nat.le_of_ble_eq_true rfl, Nat.le_of_ble_eq_true rfl⟩) 8 0 rfl rfl rfl rfl (Nat.le_of_ble_eq_true rfl) d_K_readForward_49 ⟨Nat.le_of_ble_eq_true rfl, Nat.le_of_ble_eq_true rfl⟩ rfl (fun r8 σ7 h => ?_)
      refine jv_goto (tgt := 56) B d_K_readForward_52 (by decide) ?_
      refine jv_iadd B d_K_readForward_56 ?_
      refine fs_K_position B hts hown hK d_K_readForward_57 ?_
      refine jv_iconst (v := 1) B d_K_readForward_60 (by decide) ?_
      exact jv_iret B hr (nz h.1) hlk hK _ rfl h.2 d_K_readForward_61
  · replace h := h.2 hc
    refine jv_iconst (v := 0) B d_K_readForward_18 (by decide) ?_
    exact jv_iret B hr (nz h.1) hlk hK _ rfl h.2 d_K_readForward_19
theorem c_K_readForward {l : Launch} {D : va_G} {A : Nat → Prop} {ad : Nat → Nat} {cI cA cL : ClassId} {F : va_W} {σ : jS} {v1 : Int32} {post : Int32 → jS → Prop} (h : p_K_readForward σ v1 post) : Met l y_K_readForward (Cond.code y_K_readForward b_K_readForward 5 (some .boolean) :: wb) (rmk 4 0 0) (jv_Pre D jClasses (jTy cI cA cL) A (cw ad cI cA σ F) [.ref (ad 8), .int v1]) (va_Qi post (jv_End D jClasses (jTy cI cA cL) A (fun σ => cw ad cI cA σ F)) A) 0 0 A :=
  jv_ofB (by decide) (Nat.le_of_ble_eq_true rfl) (fun p e s m below meth c X => w_K_readForward_0 X h)
set_option maxRecDepth 100000 in
theorem w_S_lastBelow_11 (X : jv_C p s m args meth c b_S_lastBelow 4 (some .int) y_S_lastBelow wb D jClasses (jTy cI cA cL) A) {post : Int32 → jS → Prop} {v1 v2 : Int32} : ∀ (n : Nat), ∀ (σ : jS) (v3 : Int32), p_S_lastBelow_11 post v1 v2 n σ v3 → jv_V p l e (rmk 2 0 0) s m args below meth c D jClasses A 4 0 0 (MQ below (va_Qi post (jv_End D jClasses (jTy cI cA cL) A (fun σ => cw ad cI cA σ F)) A) args s 0 0 A) (cw ad cI cA σ F) [(0, .ref (ad 6)), (1, .int v1), (3, .int v3)] 11 [] := by
  obtain ⟨B, hml, hown, hts, hK, hA, hr, hlk, hnm⟩ := id X
  intro n
  induction n with
  | zero => intro σ v3 h; exact h.elim
  | succ n ih =>
    intro σ v3 h
    rw [p_S_lastBelow_11] at h
    refine jv_iload_n B d_S_lastBelow_11 rfl 2 rfl ?_
    refine jv_if_lt (tgt := 33) B d_S_lastBelow_12 (by decide) (fun hc => ?_) (fun hc => ?_)
    · replace h := h.1 hc
      refine jv_iconst (v := (-1)) B d_S_lastBelow_33 (by decide) ?_
      exact jv_iret B hr rfl hlk hK _ rfl h d_S_lastBelow_34
    · replace h := h.2 hc
      refine jv_aload_n B d_S_lastBelow_15 rfl 0 rfl ?_
      refine fg_S_states B hts hown hK d_S_lastBelow_16 ?_
      refine jv_iload_n B d_S_lastBelow_19 rfl 2 rfl ?_
      refine ld_c_7 B hK h.1 d_S_lastBelow_20 ?_
      replace h := h.2
      refine jv_iload_n B d_S_lastBelow_21 rfl 1 rfl ?_
      refine jv_icmp_ne (tgt := 27) B d_S_lastBelow_22 (by decide) (fun hc => ?_) (fun hc => ?_)
      · replace h := h.1 hc
        refine jv_iinc (n9 := 2) (v := v3 + (-1)) (lv' := [(3, .int (v3 + (-1))), (0, .ref (ad 6)), (1, .int v1)]) B d_S_lastBelow_27 rfl rfl (by decide) rfl ?_
        refine jv_goto (tgt := 11) B d_S_lastBelow_30 (by decide) ?_
        refine jv_sub [1, 2, 0] rfl ?_
        exact ih _ _ h
      · replace h := h.2 hc
        refine jv_iload_n B d_S_lastBelow_25 rfl 2 rfl ?_
        exact jv_iret B hr rfl hlk hK _ rfl h d_S_lastBelow_26
set_option maxRecDepth 100000 in
theorem w_S_lastBelow_0 (X : jv_C p s m args meth c b_S_lastBelow 4 (some .int) y_S_lastBelow wb D jClasses (jTy cI cA cL) A) {post : Int32 → jS → Prop} {σ : jS} {v1 v2 : Int32} (h : p_S_lastBelow σ v1 v2 post) : jv_V p l e (rmk 2 0 0) s m args below meth c D jClasses A 4 0 0 (MQ below (va_Qi post (jv_End D jClasses (jTy cI cA cL) A (fun σ => cw ad cI cA σ F)) A) args s 0 0 A) (cw ad cI cA σ F) [(0, .ref (ad 6)), (1, .int v1), (2, .int v2)] 0 [] := by
  obtain ⟨B, hml, hown, hts, hK, hA, hr, hlk, hnm⟩ := id X
  unfold p_S_lastBelow at h
  refine jv_iload_n B d_S_lastBelow_0 rfl 2 rfl ?_
  refine jv_aload_n B d_S_lastBelow_1 rfl 0 rfl ?_
  refine fg_S_sectors B hts hown hK d_S_lastBelow_2 ?_
  refine jv_mmin B hml hown hts (hts _ kw_350) (Nat.le_of_ble_eq_true rfl) (Nat.le_of_ble_eq_true rfl) (Nat.le_of_ble_eq_true rfl) (Nat.le_of_ble_eq_true rfl) d_S_lastBelow_5 ?_
  refine jv_iconst (v := 1) B d_S_lastBelow_8 (by decide) ?_
  refine jv_isub B d_S_lastBelow_9 ?_
  refine jv_istore_n (lv' := [(3, .int ((if σ 6 1 < v2 then σ 6 1 else v2) - 1)), (0, .ref (ad 6)), (1, .int v1), (2, .int v2)]) B d_S_lastBelow_10 rfl (by decide) rfl ?_
  refine jv_sub [1, 2, 0] rfl ?_
  obtain ⟨n9, h⟩ := h
  exact w_S_lastBelow_11 X n9 _ _ h
theorem c_S_lastBelow {l : Launch} {D : va_G} {A : Nat → Prop} {ad : Nat → Nat} {cI cA cL : ClassId} {F : va_W} {σ : jS} {v1 v2 : Int32} {post : Int32 → jS → Prop} (h : p_S_lastBelow σ v1 v2 post) : Met l y_S_lastBelow (Cond.code y_S_lastBelow b_S_lastBelow 4 (some .int) :: wb) (rmk 2 0 0) (jv_Pre D jClasses (jTy cI cA cL) A (cw ad cI cA σ F) [.ref (ad 6), .int v1, .int v2]) (va_Qi post (jv_End D jClasses (jTy cI cA cL) A (fun σ => cw ad cI cA σ F)) A) 0 0 A :=
  jv_ofB (by decide) (Nat.le_of_ble_eq_true rfl) (fun p e s m below meth c X => w_S_lastBelow_0 X h)
set_option maxRecDepth 100000 in
theorem w_S_firstOfStretch_2 (X : jv_C p s m args meth c b_S_firstOfStretch 4 (some .int) y_S_firstOfStretch wb D jClasses (jTy cI cA cL) A) {post : Int32 → jS → Prop} {v1 v2 : Int32} : ∀ (n : Nat), ∀ (σ : jS) (v3 : Int32), p_S_firstOfStretch_2 post v1 v2 n σ v3 → jv_V p l e (rmk 2 0 0) s m args below meth c D jClasses A 4 0 0 (MQ below (va_Qi post (jv_End D jClasses (jTy cI cA cL) A (fun σ => cw ad cI cA σ F)) A) args s 0 0 A) (cw ad cI cA σ F) [(0, .ref (ad 6)), (1, .int v1), (2, .int v2), (3, .int v3)] 2 [] := by
  obtain ⟨B, hml, hown, hts, hK, hA, hr, hlk, hnm⟩ := id X
  intro n
  induction n with
  | zero => intro σ v3 h; exact h.elim
  | succ n ih =>
    intro σ v3 h
    rw [p_S_firstOfStretch_2] at h
    refine jv_iload_n B d_S_firstOfStretch_2 rfl 3 rfl ?_
    refine jv_if_le (tgt := 36) B d_S_firstOfStretch_3 (by decide) (fun hc => ?_) (fun hc => ?_)
    · replace h := h.1 hc
      refine jv_iload_n B d_S_firstOfStretch_36 rfl 3 rfl ?_
      exact jv_iret B hr rfl hlk hK _ rfl h d_S_firstOfStretch_37
    · replace h := h.2 hc
      refine jv_iload_n B d_S_firstOfStretch_6 rfl 1 rfl ?_
      refine jv_iload_n B d_S_firstOfStretch_7 rfl 3 rfl ?_
      refine jv_isub B d_S_firstOfStretch_8 ?_
      refine jv_iconst (v := 1) B d_S_firstOfStretch_9 (by decide) ?_
      refine jv_iadd B d_S_firstOfStretch_10 ?_
      refine jv_iload_n B d_S_firstOfStretch_11 rfl 2 rfl ?_
      refine jv_icmp_ge (tgt := 36) B d_S_firstOfStretch_12 (by decide) (fun hc => ?_) (fun hc => ?_)
      · replace h := h.1 hc
        refine jv_iload_n B d_S_firstOfStretch_36 rfl 3 rfl ?_
        exact jv_iret B hr rfl hlk hK _ rfl h d_S_firstOfStretch_37
      · replace h := h.2 hc
        refine jv_aload_n B d_S_firstOfStretch_15 rfl 0 rfl ?_
        refine jv_iload_n B d_S_firstOfStretch_16 rfl 3 rfl ?_
        refine jv_iconst (v := 1) B d_S_firstOfStretch_17 (by decide) ?_
        refine jv_isub B d_S_firstOfStretch_18 ?_
        refine jv_civ (As := [.int (v3 - 1)]) B hml hown hts hK hA (c_S_stateOf (ad := ad) (cI := cI) (cA := cA) (cL := cL) (F := F) h) (cwV 1 hts g_S_34 rfl rfl rfl hd_S_stateOf ⟨Nat.le_of_ble_eq_true rfl, Nat.le_of_ble_eq_true rfl⟩) 6 3 rfl rfl rfl rfl (Nat.le_of_ble_eq_true rfl) d_S_firstOfStretch_19 ⟨Nat.le_of_ble_eq_true rfl, Nat.le_of_ble_eq_true rfl⟩ rfl (fun r2 σ1 h => ?_)
        refine jv_aload_n B d_S_firstOfStretch_22 rfl 0 rfl ?_
        refine jv_iload_n B d_S_firstOfStretch_23 rfl 1 rfl ?_
        refine jv_civ (As := [.int v1]) B hml hown hts hK hA (c_S_stateOf (ad := ad) (cI := cI) (cA := cA) (cL := cL) (F := F) h) (cwV 1 hts g_S_34 rfl rfl rfl hd_S_stateOf ⟨Nat.le_of_ble_eq_true rfl, Nat.le_of_ble_eq_true rfl⟩) 6 3 rfl rfl rfl rfl (Nat.le_of_ble_eq_true rfl) d_S_firstOfStretch_24 ⟨Nat.le_of_ble_eq_true rfl, Nat.le_of_ble_eq_true rfl⟩ rfl (fun r4 σ3 h => ?_)
        refine jv_icmp_ne (tgt := 36) B d_S_firstOfStretch_27 (by decide) (fun hc => ?_) (fun hc => ?_)
        · replace h := h.1 hc
          refine jv_iload_n B d_S_firstOfStretch_36 rfl 3 rfl ?_
          exact jv_iret B hr rfl hlk hK _ rfl h d_S_firstOfStretch_37
        · replace h := h.2 hc
          refine jv_iinc (n9 := 3) (v := v3 + (-1)) (lv' := [(3, .int (v3 + (-1))), (0, .ref (ad 6)), (1, .int v1), (2, .int v2)]) B d_S_firstOfStretch_30 rfl rfl (by decide) rfl ?_
          refine jv_goto (tgt := 2) B d_S_firstOfStretch_33 (by decide) ?_
          refine jv_sub [1, 2, 3, 0] rfl ?_
          exact ih _ _ h
set_option maxRecDepth 100000 in
theorem w_S_firstOfStretch_0 (X : jv_C p s m args meth c b_S_firstOfStretch 4 (some .int) y_S_firstOfStretch wb D jClasses (jTy cI cA cL) A) {post : Int32 → jS → Prop} {σ : jS} {v1 v2 : Int32} (h : p_S_firstOfStretch σ v1 v2 post) : jv_V p l e (rmk 2 0 0) s m args below meth c D jClasses A 4 0 0 (MQ below (va_Qi post (jv_End D jClasses (jTy cI cA cL) A (fun σ => cw ad cI cA σ F)) A) args s 0 0 A) (cw ad cI cA σ F) [(0, .ref (ad 6)), (1, .int v1), (2, .int v2)] 0 [] := by
  obtain ⟨B, hml, hown, hts, hK, hA, hr, hlk, hnm⟩ := id X
  unfold p_S_firstOfStretch at h
  refine jv_iload_n B d_S_firstOfStretch_0 rfl 1 rfl ?_
  refine jv_istore_n (lv' := [(3, .int v1), (0, .ref (ad 6)), (1, .int v1), (2, .int v2)]) B d_S_firstOfStretch_1 rfl (by decide) rfl ?_
  refine jv_sub [1, 2, 3, 0] rfl ?_
  obtain ⟨n9, h⟩ := h
  exact w_S_firstOfStretch_2 X n9 _ _ h
theorem c_S_firstOfStretch {l : Launch} {D : va_G} {A : Nat → Prop} {ad : Nat → Nat} {cI cA cL : ClassId} {F : va_W} {σ : jS} {v1 v2 : Int32} {post : Int32 → jS → Prop} (h : p_S_firstOfStretch σ v1 v2 post) : Met l y_S_firstOfStretch (Cond.code y_S_firstOfStretch b_S_firstOfStretch 4 (some .int) :: wb) (rmk 2 0 0) (jv_Pre D jClasses (jTy cI cA cL) A (cw ad cI cA σ F) [.ref (ad 6), .int v1, .int v2]) (va_Qi post (jv_End D jClasses (jTy cI cA cL) A (fun σ => cw ad cI cA σ F)) A) 0 0 A :=
  jv_ofB (by decide) (Nat.le_of_ble_eq_true rfl) (fun p e s m below meth c X => w_S_firstOfStretch_0 X h)
set_option maxRecDepth 100000 in
theorem w_K_readBackward_0 (X : jv_C p s m args meth c b_K_readBackward 4 (some .boolean) y_K_readBackward wb D jClasses (jTy cI cA cL) A) {post : Int32 → jS → Prop} {σ : jS} (h : p_K_readBackward σ post) : jv_V p l e (rmk 4 0 0) s m args below meth c D jClasses A 4 0 0 (MQ below (va_Qi post (jv_End D jClasses (jTy cI cA cL) A (fun σ => cw ad cI cA σ F)) A) args s 0 0 A) (cw ad cI cA σ F) [(0, .ref (ad 8))] 0 [] := by
  obtain ⟨B, hml, hown, hts, hK, hA, hr, hlk, hnm⟩ := id X
  unfold p_K_readBackward at h
  refine jv_aload_n B d_K_readBackward_0 rfl 0 rfl ?_
  refine fg_K_map B hts hown hK d_K_readBackward_1 ?_
  refine jv_iconst (v := 0) B d_K_readBackward_4 (by decide) ?_
  refine jv_aload_n B d_K_readBackward_5 rfl 0 rfl ?_
  refine fg_K_position B hts hown hK d_K_readBackward_6 ?_
  refine jv_civ (As := [.int 0, .int (σ 8 3)]) B hml hown hts hK hA (c_S_lastBelow (ad := ad) (cI := cI) (cA := cA) (cL := cL) (F := F) h) (cwV 2 hts g_K_85 rfl rfl rfl hd_S_lastBelow ⟨Nat.le_of_ble_eq_true rfl, Nat.le_of_ble_eq_true rfl⟩) 6 3 rfl rfl rfl rfl (Nat.le_of_ble_eq_true rfl) d_K_readBackward_9 ⟨Nat.le_of_ble_eq_true rfl, Nat.le_of_ble_eq_true rfl⟩ rfl (fun r2 σ1 h => ?_)
  refine jv_istore_n (lv' := [(1, .int r2), (0, .ref (ad 8))]) B d_K_readBackward_12 rfl (by decide) rfl ?_
  refine jv_iload_n B d_K_readBackward_13 rfl 0 rfl ?_
  refine jv_iconst (v := (-1)) B d_K_readBackward_14 (by decide) ?_
  refine jv_icmp_ne (tgt := 20) B d_K_readBackward_15 (by decide) (fun hc => ?_) (fun hc => ?_)
  · replace h := h.1 hc
    refine jv_aload_n B d_K_readBackward_20 rfl 1 rfl ?_
    refine fg_K_map B hts hown hK d_K_readBackward_21 ?_
    refine jv_iload_n B d_K_readBackward_24 rfl 0 rfl ?_
    refine jv_bipush (v := 8) B d_K_readBackward_25 (by decide) ?_
    refine jv_civ (As := [.int r2, .int 8]) B hml hown hts hK hA (c_S_firstOfStretch (ad := ad) (cI := cI) (cA := cA) (cL := cL) (F := F) h) (cwV 2 hts g_K_88 rfl rfl rfl hd_S_firstOfStretch ⟨Nat.le_of_ble_eq_true rfl, Nat.le_of_ble_eq_true rfl⟩) 6 3 rfl rfl rfl rfl (Nat.le_of_ble_eq_true rfl) d_K_readBackward_27 ⟨Nat.le_of_ble_eq_true rfl, Nat.le_of_ble_eq_true rfl⟩ rfl (fun r4 σ3 h => ?_)
    refine jv_istore_n (lv' := [(2, .int r4), (1, .int r2), (0, .ref (ad 8))]) B d_K_readBackward_30 rfl (by decide) rfl ?_
    refine jv_aload_n B d_K_readBackward_31 rfl 2 rfl ?_
    refine jv_iload_n B d_K_readBackward_32 rfl 0 rfl ?_
    refine jv_iload_n B d_K_readBackward_33 rfl 1 rfl ?_
    refine jv_iconst (v := 1) B d_K_readBackward_34 (by decide) ?_
    refine jv_iadd B d_K_readBackward_35 ?_
    refine jv_iconst (v := 1) B d_K_readBackward_36 (by decide) ?_
    refine jv_civ (As := [.int r4, .int (r2 + 1), .int 1]) B hml hown hts hK hA (c_K_rescue (ad := ad) (cI := cI) (cA := cA) (cL := cL) (F := F) h) (cwV 3 hts g_K_77 rfl rfl rfl hd_K_rescue ⟨Nat.le_of_ble_eq_true rfl, Nat.le_of_ble_eq_true rfl⟩) 8 0 rfl rfl rfl rfl (Nat.le_of_ble_eq_true rfl) d_K_readBackward_37 ⟨Nat.le_of_ble_eq_true rfl, Nat.le_of_ble_eq_true rfl⟩ rfl (fun r6 σ5 h => ?_)
    refine jv_istore_n (lv' := [(3, .int r6), (2, .int r4), (1, .int r2), (0, .ref (ad 8))]) B d_K_readBackward_40 rfl (by decide) rfl ?_
    refine jv_aload_n B d_K_readBackward_41 rfl 3 rfl ?_
    refine jv_iload_n B d_K_readBackward_42 rfl 1 rfl ?_
    refine jv_aload_n B d_K_readBackward_43 rfl 3 rfl ?_
    refine jv_iload_n B d_K_readBackward_44 rfl 0 rfl ?_
    refine jv_civ (As := [.int r6]) B hml hown hts hK hA (c_K_takeLeap (ad := ad) (cI := cI) (cA := cA) (cL := cL) (F := F) h) (cwV 1 hts g_K_81 rfl rfl rfl hd_K_takeLeap ⟨Nat.le_of_ble_eq_true rfl, Nat.le_of_ble_eq_true rfl⟩) 8 0 rfl rfl rfl rfl (Nat.le_of_ble_eq_true rfl) d_K_readBackward_45 ⟨Nat.le_of_ble_eq_true rfl, Nat.le_of_ble_eq_true rfl⟩ rfl (fun r8 σ7 h => ?_)
    refine jv_isub B d_K_readBackward_48 ?_
    refine fs_K_position B hts hown hK d_K_readBackward_49 ?_
    refine jv_iconst (v := 1) B d_K_readBackward_52 (by decide) ?_
    exact jv_iret B hr (nz h.1) hlk hK _ rfl h.2 d_K_readBackward_53
  · replace h := h.2 hc
    refine jv_iconst (v := 0) B d_K_readBackward_18 (by decide) ?_
    exact jv_iret B hr (nz h.1) hlk hK _ rfl h.2 d_K_readBackward_19
theorem c_K_readBackward {l : Launch} {D : va_G} {A : Nat → Prop} {ad : Nat → Nat} {cI cA cL : ClassId} {F : va_W} {σ : jS} {post : Int32 → jS → Prop} (h : p_K_readBackward σ post) : Met l y_K_readBackward (Cond.code y_K_readBackward b_K_readBackward 4 (some .boolean) :: wb) (rmk 4 0 0) (jv_Pre D jClasses (jTy cI cA cL) A (cw ad cI cA σ F) [.ref (ad 8)]) (va_Qi post (jv_End D jClasses (jTy cI cA cL) A (fun σ => cw ad cI cA σ F)) A) 0 0 A :=
  jv_ofB (by decide) (Nat.le_of_ble_eq_true rfl) (fun p e s m below meth c X => w_K_readBackward_0 X h)
set_option maxRecDepth 100000 in
theorem w_K_trim_76 (X : jv_C p s m args meth c b_K_trim 5 (some .boolean) y_K_trim wb D jClasses (jTy cI cA cL) A) {post : Int32 → jS → Prop} {σ : jS} {v1 v2 v4 : Int32} (h : p_K_trim_76 post σ v1 v2 v4) : jv_V p l e (rmk 4 0 0) s m args below meth c D jClasses A 5 0 0 (MQ below (va_Qi post (jv_End D jClasses (jTy cI cA cL) A (fun σ => cw ad cI cA σ F)) A) args s 0 0 A) (cw ad cI cA σ F) [(0, .ref (ad 8)), (1, .int v1), (2, .int v2), (4, .int v4)] 76 [] := by
  obtain ⟨B, hml, hown, hts, hK, hA, hr, hlk, hnm⟩ := id X
  unfold p_K_trim_76 at h
  refine jv_iload_n B d_K_trim_76 rfl 1 rfl ?_
  refine jv_iload_n B d_K_trim_77 rfl 2 rfl ?_
  refine jv_icmp_ne (tgt := 89) B d_K_trim_78 (by decide) (fun hc => ?_) (fun hc => ?_)
  · replace h := h.1 hc
    refine jv_iload B d_K_trim_89 3 rfl ?_
    refine jv_if_ne (tgt := 110) B d_K_trim_91 (by decide) (fun hc => ?_) (fun hc => ?_)
    · replace h := h.1 hc
      refine jv_iconst (v := 1) B d_K_trim_110 (by decide) ?_
      exact jv_iret B hr (nz h.1) hlk hK _ rfl h.2 d_K_trim_111
    · replace h := h.2 hc
      refine jv_aload_n B d_K_trim_94 rfl 0 rfl ?_
      refine jv_aload_n B d_K_trim_95 rfl 0 rfl ?_
      refine fg_K_trimsLast B hts hown hK d_K_trim_96 ?_
      refine jv_if_ne (tgt := 106) B d_K_trim_99 (by decide) (fun hc => ?_) (fun hc => ?_)
      · replace h := h.1 hc
        refine jv_iconst (v := 0) B d_K_trim_106 (by decide) ?_
        refine fs_K_trimsLast B hts hown hK h.1 d_K_trim_107 ?_
        replace h := h.2
        refine jv_iconst (v := 1) B d_K_trim_110 (by decide) ?_
        exact jv_iret B hr (nz h.1) hlk hK _ rfl h.2 d_K_trim_111
      · replace h := h.2 hc
        refine jv_iconst (v := 1) B d_K_trim_102 (by decide) ?_
        refine jv_goto (tgt := 107) B d_K_trim_103 (by decide) ?_
        refine fs_K_trimsLast B hts hown hK h.1 d_K_trim_107 ?_
        replace h := h.2
        refine jv_iconst (v := 1) B d_K_trim_110 (by decide) ?_
        exact jv_iret B hr (nz h.1) hlk hK _ rfl h.2 d_K_trim_111
  · replace h := h.2 hc
    refine jv_aload_n B d_K_trim_81 rfl 0 rfl ?_
    refine jv_iconst (v := 0) B d_K_trim_82 (by decide) ?_
    refine fs_K_trimsLast B hts hown hK h.1 d_K_trim_83 ?_
    replace h := h.2
    refine jv_goto (tgt := 110) B d_K_trim_86 (by decide) ?_
    refine jv_iconst (v := 1) B d_K_trim_110 (by decide) ?_
    exact jv_iret B hr (nz h.1) hlk hK _ rfl h.2 d_K_trim_111
set_option maxRecDepth 100000 in
theorem w_K_trim_42 (X : jv_C p s m args meth c b_K_trim 5 (some .boolean) y_K_trim wb D jClasses (jTy cI cA cL) A) {post : Int32 → jS → Prop} {σ : jS} {v1 v2 y0 : Int32} (h : p_K_trim_42 post σ v1 v2 y0) : jv_V p l e (rmk 4 0 0) s m args below meth c D jClasses A 5 0 0 (MQ below (va_Qi post (jv_End D jClasses (jTy cI cA cL) A (fun σ => cw ad cI cA σ F)) A) args s 0 0 A) (cw ad cI cA σ F) [(0, .ref (ad 8)), (1, .int v1), (2, .int v2)] 42 [.int y0] := by
  obtain ⟨B, hml, hown, hts, hK, hA, hr, hlk, hnm⟩ := id X
  unfold p_K_trim_42 at h
  refine jv_istore_n (lv' := [(3, .int y0), (0, .ref (ad 8)), (1, .int v1), (2, .int v2)]) B d_K_trim_42 rfl (by decide) rfl ?_
  refine jv_aload_n B d_K_trim_43 rfl 1 rfl ?_
  refine jv_iload_n B d_K_trim_44 rfl 0 rfl ?_
  refine jv_iload_n B d_K_trim_45 rfl 0 rfl ?_
  refine jv_iconst (v := 1) B d_K_trim_46 (by decide) ?_
  refine jv_iadd B d_K_trim_47 ?_
  refine jv_iconst (v := 3) B d_K_trim_48 (by decide) ?_
  refine jv_civ (As := [.int y0, .int (y0 + 1), .int 3]) B hml hown hts hK hA (c_K_rescue (ad := ad) (cI := cI) (cA := cA) (cL := cL) (F := F) h) (cwV 3 hts g_K_77 rfl rfl rfl hd_K_rescue ⟨Nat.le_of_ble_eq_true rfl, Nat.le_of_ble_eq_true rfl⟩) 8 0 rfl rfl rfl rfl (Nat.le_of_ble_eq_true rfl) d_K_trim_49 ⟨Nat.le_of_ble_eq_true rfl, Nat.le_of_ble_eq_true rfl⟩ rfl (fun r6 σ5 h => ?_)
  refine jv_istore (lv' := [(4, .int r6), (3, .int y0), (0, .ref (ad 8)), (1, .int v1), (2, .int v2)]) B d_K_trim_52 (by decide) rfl ?_
  refine jv_iload B d_K_trim_54 0 rfl ?_
  refine jv_if_ne (tgt := 76) B d_K_trim_56 (by decide) (fun hc => ?_) (fun hc => ?_)
  · replace h := h.1 hc
    refine jv_sub [2, 3, 4, 0] rfl ?_
    exact w_K_trim_76 X h
  · replace h := h.2 hc
    refine jv_aload_n B d_K_trim_59 rfl 2 rfl ?_
    refine fg_K_trimsLast B hts hown hK d_K_trim_60 ?_
    refine jv_if_eq (tgt := 76) B d_K_trim_63 (by decide) (fun hc => ?_) (fun hc => ?_)
    · replace h := h.1 hc
      refine jv_sub [2, 3, 4, 0] rfl ?_
      exact w_K_trim_76 X h
    · replace h := h.2 hc
      refine jv_aload_n B d_K_trim_66 rfl 2 rfl ?_
      refine fg_K_map B hts hown hK d_K_trim_67 ?_
      refine jv_iload_n B d_K_trim_70 rfl 3 rfl ?_
      refine jv_iload_n B d_K_trim_71 rfl 4 rfl ?_
      refine jv_iconst (v := 2) B d_K_trim_72 (by decide) ?_
      refine jv_cvv (As := [.int v1, .int v2, .int 2]) B hml hown hts hK hA (c_S_mark (ad := ad) (cI := cI) (cA := cA) (cL := cL) (F := F) h) (cwV 3 hts g_K_96 rfl rfl rfl hd_S_mark ⟨Nat.le_of_ble_eq_true rfl, Nat.le_of_ble_eq_true rfl⟩) 6 3 rfl rfl rfl rfl (Nat.le_of_ble_eq_true rfl) d_K_trim_73 ⟨Nat.le_of_ble_eq_true rfl, Nat.le_of_ble_eq_true rfl⟩ rfl (fun σ7 h => ?_)
      refine jv_sub [2, 3, 4, 0] rfl ?_
      exact w_K_trim_76 X h
set_option maxRecDepth 100000 in
theorem w_K_trim_0 (X : jv_C p s m args meth c b_K_trim 5 (some .boolean) y_K_trim wb D jClasses (jTy cI cA cL) A) {post : Int32 → jS → Prop} {σ : jS} (h : p_K_trim σ post) : jv_V p l e (rmk 4 0 0) s m args below meth c D jClasses A 5 0 0 (MQ below (va_Qi post (jv_End D jClasses (jTy cI cA cL) A (fun σ => cw ad cI cA σ F)) A) args s 0 0 A) (cw ad cI cA σ F) [(0, .ref (ad 8))] 0 [] := by
  obtain ⟨B, hml, hown, hts, hK, hA, hr, hlk, hnm⟩ := id X
  unfold p_K_trim at h
  refine jv_aload_n B d_K_trim_0 rfl 0 rfl ?_
  refine fg_K_map B hts hown hK d_K_trim_1 ?_
  refine jv_iconst (v := 1) B d_K_trim_4 (by decide) ?_
  refine jv_iconst (v := 0) B d_K_trim_5 (by decide) ?_
  refine jv_civ (As := [.int 1, .int 0]) B hml hown hts hK hA (c_S_firstFrom (ad := ad) (cI := cI) (cA := cA) (cL := cL) (F := F) h) (cwV 2 hts g_K_70 rfl rfl rfl hd_S_firstFrom ⟨Nat.le_of_ble_eq_true rfl, Nat.le_of_ble_eq_true rfl⟩) 6 3 rfl rfl rfl rfl (Nat.le_of_ble_eq_true rfl) d_K_trim_6 ⟨Nat.le_of_ble_eq_true rfl, Nat.le_of_ble_eq_true rfl⟩ rfl (fun r2 σ1 h => ?_)
  refine jv_istore_n (lv' := [(1, .int r2), (0, .ref (ad 8))]) B d_K_trim_9 rfl (by decide) rfl ?_
  refine jv_iload_n B d_K_trim_10 rfl 0 rfl ?_
  refine jv_iconst (v := (-1)) B d_K_trim_11 (by decide) ?_
  refine jv_icmp_ne (tgt := 17) B d_K_trim_12 (by decide) (fun hc => ?_) (fun hc => ?_)
  · replace h := h.1 hc
    refine jv_aload_n B d_K_trim_17 rfl 1 rfl ?_
    refine fg_K_map B hts hown hK d_K_trim_18 ?_
    refine jv_iload_n B d_K_trim_21 rfl 0 rfl ?_
    refine jv_bipush (v := 64) B d_K_trim_22 (by decide) ?_
    refine jv_civ (As := [.int r2, .int 64]) B hml hown hts hK hA (c_S_behindStretch (ad := ad) (cI := cI) (cA := cA) (cL := cL) (F := F) h) (cwV 2 hts g_K_74 rfl rfl rfl hd_S_behindStretch ⟨Nat.le_of_ble_eq_true rfl, Nat.le_of_ble_eq_true rfl⟩) 6 3 rfl rfl rfl rfl (Nat.le_of_ble_eq_true rfl) d_K_trim_24 ⟨Nat.le_of_ble_eq_true rfl, Nat.le_of_ble_eq_true rfl⟩ rfl (fun r4 σ3 h => ?_)
    refine jv_iconst (v := 1) B d_K_trim_27 (by decide) ?_
    refine jv_isub B d_K_trim_28 ?_
    refine jv_istore_n (lv' := [(2, .int (r4 - 1)), (1, .int r2), (0, .ref (ad 8))]) B d_K_trim_29 rfl (by decide) rfl ?_
    refine jv_aload_n B d_K_trim_30 rfl 2 rfl ?_
    refine fg_K_trimsLast B hts hown hK d_K_trim_31 ?_
    refine jv_if_eq (tgt := 41) B d_K_trim_34 (by decide) (fun hc => ?_) (fun hc => ?_)
    · replace h := h.1 hc
      refine jv_iload_n B d_K_trim_41 rfl 1 rfl ?_
      refine jv_sub [2, 1, 0] rfl ?_
      exact w_K_trim_42 X h
    · replace h := h.2 hc
      refine jv_iload_n B d_K_trim_37 rfl 0 rfl ?_
      refine jv_goto (tgt := 42) B d_K_trim_38 (by decide) ?_
      refine jv_sub [2, 1, 0] rfl ?_
      exact w_K_trim_42 X h
  · replace h := h.2 hc
    refine jv_iconst (v := 0) B d_K_trim_15 (by decide) ?_
    exact jv_iret B hr (nz h.1) hlk hK _ rfl h.2 d_K_trim_16
theorem c_K_trim {l : Launch} {D : va_G} {A : Nat → Prop} {ad : Nat → Nat} {cI cA cL : ClassId} {F : va_W} {σ : jS} {post : Int32 → jS → Prop} (h : p_K_trim σ post) : Met l y_K_trim (Cond.code y_K_trim b_K_trim 5 (some .boolean) :: wb) (rmk 4 0 0) (jv_Pre D jClasses (jTy cI cA cL) A (cw ad cI cA σ F) [.ref (ad 8)]) (va_Qi post (jv_End D jClasses (jTy cI cA cL) A (fun σ => cw ad cI cA σ F)) A) 0 0 A :=
  jv_ofB (by decide) (Nat.le_of_ble_eq_true rfl) (fun p e s m below meth c X => w_K_trim_0 X h)
end JM

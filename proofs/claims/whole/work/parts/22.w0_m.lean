section JM
variable {p : Program} {l : Launch} {e : Env} {s : State} {m : MethodId} {args : Array Value} {below : List Frame} {meth : Method} {c : Code} {D : va_G} {A : Nat → Prop} {ad : Nat → Nat} {cI cA cL : ClassId} {F : va_W}
set_option maxRecDepth 100000 in
theorem w_M_thrown_0 (X : jv_C p s m args meth c b_M_thrown 1 (some .int) y_M_thrown wb D jClasses (jTy cI cA cL) A) {post : Int32 → jS → Prop} {σ : jS} (h : p_M_thrown σ post) : jv_V p l e (rmk 1 0 0) s m args below meth c D jClasses A 1 0 0 (MQ below (va_Qi post (jv_End D jClasses (jTy cI cA cL) A (fun σ => mw ad cI cA σ F)) A) args s 0 0 A) (mw ad cI cA σ F) [(0, .ref (ad 0))] 0 [] := by
  obtain ⟨B, hml, hown, hts, hK, hA, hr, hlk, hnm⟩ := id X
  unfold p_M_thrown at h
  refine jv_aload_n B d_M_thrown_0 rfl 0 rfl ?_
  refine fg_M_code B hts hown hK d_M_thrown_1 ?_
  exact jv_iret B hr rfl hlk hK _ rfl h d_M_thrown_4
theorem c_M_thrown {l : Launch} {D : va_G} {A : Nat → Prop} {ad : Nat → Nat} {cI cA cL : ClassId} {F : va_W} {σ : jS} {post : Int32 → jS → Prop} (h : p_M_thrown σ post) : Met l y_M_thrown (Cond.code y_M_thrown b_M_thrown 1 (some .int) :: wb) (rmk 1 0 0) (jv_Pre D jClasses (jTy cI cA cL) A (mw ad cI cA σ F) [.ref (ad 0)]) (va_Qi post (jv_End D jClasses (jTy cI cA cL) A (fun σ => mw ad cI cA σ F)) A) 0 0 A :=
  jv_ofB (by decide) (Nat.le_of_ble_eq_true rfl) (fun p e s m below meth c X => w_M_thrown_0 X h)
set_option maxRecDepth 100000 in
theorem w_M_goesOn_0 (X : jv_C p s m args meth c b_M_goesOn 1 (some .boolean) y_M_goesOn wb D jClasses (jTy cI cA cL) A) {post : Int32 → jS → Prop} {σ : jS} (h : p_M_goesOn σ post) : jv_V p l e (rmk 1 0 0) s m args below meth c D jClasses A 1 0 0 (MQ below (va_Qi post (jv_End D jClasses (jTy cI cA cL) A (fun σ => mw ad cI cA σ F)) A) args s 0 0 A) (mw ad cI cA σ F) [(0, .ref (ad 0))] 0 [] := by
  obtain ⟨B, hml, hown, hts, hK, hA, hr, hlk, hnm⟩ := id X
  unfold p_M_goesOn at h
  refine jv_aload_n B d_M_goesOn_0 rfl 0 rfl ?_
  refine fg_M_phase B hts hown hK d_M_goesOn_1 ?_
  refine jv_if_lt (tgt := 20) B d_M_goesOn_4 (by decide) (fun hc => ?_) (fun hc => ?_)
  · replace h := h.1 hc
    refine jv_iconst (v := 0) B d_M_goesOn_20 (by decide) ?_
    exact jv_iret B hr (nz h.1) hlk hK _ rfl h.2 d_M_goesOn_21
  · replace h := h.2 hc
    refine jv_aload_n B d_M_goesOn_7 rfl 0 rfl ?_
    refine fg_M_phase B hts hown hK d_M_goesOn_8 ?_
    refine jv_bipush (v := 7) B d_M_goesOn_11 (by decide) ?_
    refine jv_icmp_ge (tgt := 20) B d_M_goesOn_13 (by decide) (fun hc => ?_) (fun hc => ?_)
    · replace h := h.1 hc
      refine jv_iconst (v := 0) B d_M_goesOn_20 (by decide) ?_
      exact jv_iret B hr (nz h.1) hlk hK _ rfl h.2 d_M_goesOn_21
    · replace h := h.2 hc
      refine jv_iconst (v := 1) B d_M_goesOn_16 (by decide) ?_
      refine jv_goto (tgt := 21) B d_M_goesOn_17 (by decide) ?_
      exact jv_iret B hr (nz h.1) hlk hK _ rfl h.2 d_M_goesOn_21
theorem c_M_goesOn {l : Launch} {D : va_G} {A : Nat → Prop} {ad : Nat → Nat} {cI cA cL : ClassId} {F : va_W} {σ : jS} {post : Int32 → jS → Prop} (h : p_M_goesOn σ post) : Met l y_M_goesOn (Cond.code y_M_goesOn b_M_goesOn 1 (some .boolean) :: wb) (rmk 1 0 0) (jv_Pre D jClasses (jTy cI cA cL) A (mw ad cI cA σ F) [.ref (ad 0)]) (va_Qi post (jv_End D jClasses (jTy cI cA cL) A (fun σ => mw ad cI cA σ F)) A) 0 0 A :=
  jv_ofB (by decide) (Nat.le_of_ble_eq_true rfl) (fun p e s m below meth c X => w_M_goesOn_0 X h)
set_option maxRecDepth 100000 in
theorem w_M_source_89 (X : jv_C p s m args meth c b_M_source 3 none y_M_source wb D jClasses (jTy cI cA cL) A) {post : jS → Prop} {v1 : Int32} : ∀ (n : Nat), ∀ (σ : jS) (v2 : Int32), p_M_source_89 post v1 n σ v2 → jv_V p l e (rmk 1 0 0) s m args below meth c D jClasses A 3 0 0 (MQ below (va_Qv post (jv_End D jClasses (jTy cI cA cL) A (fun σ => mw ad cI cA σ F)) A) args s 0 0 A) (mw ad cI cA σ F) [(0, .ref (ad 0)), (2, .int v2)] 89 [] := by
  obtain ⟨B, hml, hown, hts, hK, hA, hr, hlk, hnm⟩ := id X
  intro n
  induction n with
  | zero => intro σ v2 h; exact h.elim
  | succ n ih =>
    intro σ v2 h
    rw [p_M_source_89] at h
    refine jv_iload_n B d_M_source_89 rfl 1 rfl ?_
    refine jv_sipush (v := 280) B d_M_source_90 (by decide) ?_
    refine jv_icmp_ge (tgt := 109) B d_M_source_93 (by decide) (fun hc => ?_) (fun hc => ?_)
    · replace h := h.1 hc
      refine jv_aload_n B d_M_source_109 rfl 0 rfl ?_
      refine jv_iconst (v := 0) B d_M_source_110 (by decide) ?_
      refine fs_M_made B hts hown hK d_M_source_111 ?_
      refine jv_aload_n B d_M_source_114 rfl 0 rfl ?_
      refine jv_iconst (v := 0) B d_M_source_115 (by decide) ?_
      refine fs_M_failed B hts hown hK d_M_source_116 ?_
      refine jv_aload_n B d_M_source_119 rfl 0 rfl ?_
      refine jv_iconst (v := 0) B d_M_source_120 (by decide) ?_
      refine fs_M_number B hts hown hK d_M_source_121 ?_
      exact jv_vret B hr hlk hK _ rfl h d_M_source_124
    · replace h := h.2 hc
      refine jv_aload_n B d_M_source_96 rfl 0 rfl ?_
      refine fg_M_slots B hts hown hK d_M_source_97 ?_
      refine jv_iload_n B d_M_source_100 rfl 1 rfl ?_
      refine jv_iconst (v := 0) B d_M_source_101 (by decide) ?_
      refine sd_m_6 B hK h.1 d_M_source_102 ?_
      replace h := h.2
      refine jv_iinc (n9 := 1) (v := v2 + 1) (lv' := [(2, .int (v2 + 1)), (0, .ref (ad 0))]) B d_M_source_103 rfl rfl (by decide) rfl ?_
      refine jv_goto (tgt := 89) B d_M_source_106 (by decide) ?_
      refine jv_sub [1, 0] rfl ?_
      exact ih _ _ h
set_option maxRecDepth 100000 in
theorem w_M_source_40 (X : jv_C p s m args meth c b_M_source 3 none y_M_source wb D jClasses (jTy cI cA cL) A) {post : jS → Prop} {v1 : Int32} : ∀ (n : Nat), ∀ (σ : jS) (v2 : Int32), p_M_source_40 post v1 n σ v2 → jv_V p l e (rmk 1 0 0) s m args below meth c D jClasses A 3 0 0 (MQ below (va_Qv post (jv_End D jClasses (jTy cI cA cL) A (fun σ => mw ad cI cA σ F)) A) args s 0 0 A) (mw ad cI cA σ F) [(0, .ref (ad 0)), (2, .int v2)] 40 [] := by
  obtain ⟨B, hml, hown, hts, hK, hA, hr, hlk, hnm⟩ := id X
  intro n
  induction n with
  | zero => intro σ v2 h; exact h.elim
  | succ n ih =>
    intro σ v2 h
    rw [p_M_source_40] at h
    refine jv_iload_n B d_M_source_40 rfl 1 rfl ?_
    refine jv_bipush (v := 64) B d_M_source_41 (by decide) ?_
    refine jv_icmp_ge (tgt := 87) B d_M_source_43 (by decide) (fun hc => ?_) (fun hc => ?_)
    · replace h := h.1 hc
      refine jv_iconst (v := 0) B d_M_source_87 (by decide) ?_
      refine jv_istore_n (lv' := [(2, .int 0), (0, .ref (ad 0))]) B d_M_source_88 rfl (by decide) rfl ?_
      refine jv_sub [1, 0] rfl ?_
      obtain ⟨n9, h⟩ := h
      exact w_M_source_89 X n9 _ _ h
    · replace h := h.2 hc
      refine jv_aload_n B d_M_source_46 rfl 0 rfl ?_
      refine fg_M_words B hts hown hK d_M_source_47 ?_
      refine jv_iload_n B d_M_source_50 rfl 1 rfl ?_
      refine jv_iconst (v := 0) B d_M_source_51 (by decide) ?_
      refine sd_m_1 B hK h.1 d_M_source_52 ?_
      replace h := h.2
      refine jv_aload_n B d_M_source_53 rfl 0 rfl ?_
      refine fg_M_failures B hts hown hK d_M_source_54 ?_
      refine jv_iload_n B d_M_source_57 rfl 1 rfl ?_
      refine jv_iconst (v := 0) B d_M_source_58 (by decide) ?_
      refine sd_m_2 B hK h.1 d_M_source_59 ?_
      replace h := h.2
      refine jv_aload_n B d_M_source_60 rfl 0 rfl ?_
      refine fg_M_reads B hts hown hK d_M_source_61 ?_
      refine jv_iload_n B d_M_source_64 rfl 1 rfl ?_
      refine jv_iconst (v := 0) B d_M_source_65 (by decide) ?_
      refine sd_m_3 B hK h.1 d_M_source_66 ?_
      replace h := h.2
      refine jv_aload_n B d_M_source_67 rfl 0 rfl ?_
      refine fg_M_target B hts hown hK d_M_source_68 ?_
      refine jv_iload_n B d_M_source_71 rfl 1 rfl ?_
      refine jv_iconst (v := 0) B d_M_source_72 (by decide) ?_
      refine sd_m_4 B hK h.1 d_M_source_73 ?_
      replace h := h.2
      refine jv_aload_n B d_M_source_74 rfl 0 rfl ?_
      refine fg_M_states B hts hown hK d_M_source_75 ?_
      refine jv_iload_n B d_M_source_78 rfl 1 rfl ?_
      refine jv_iconst (v := 0) B d_M_source_79 (by decide) ?_
      refine sd_m_5 B hK h.1 d_M_source_80 ?_
      replace h := h.2
      refine jv_iinc (n9 := 1) (v := v2 + 1) (lv' := [(2, .int (v2 + 1)), (0, .ref (ad 0))]) B d_M_source_81 rfl rfl (by decide) rfl ?_
      refine jv_goto (tgt := 40) B d_M_source_84 (by decide) ?_
      refine jv_sub [1, 0] rfl ?_
      exact ih _ _ h
set_option maxRecDepth 100000 in
theorem w_M_source_17 (X : jv_C p s m args meth c b_M_source 3 none y_M_source wb D jClasses (jTy cI cA cL) A) {post : jS → Prop} {v1 : Int32} {σ : jS} {y0 : Int32} (h : p_M_source_17 post v1 σ y0) : jv_V p l e (rmk 1 0 0) s m args below meth c D jClasses A 3 0 0 (MQ below (va_Qv post (jv_End D jClasses (jTy cI cA cL) A (fun σ => mw ad cI cA σ F)) A) args s 0 0 A) (mw ad cI cA σ F) [(0, .ref (ad 0)), (1, .int v1)] 17 [.int y0, .ref (ad 0)] := by
  obtain ⟨B, hml, hown, hts, hK, hA, hr, hlk, hnm⟩ := id X
  unfold p_M_source_17 at h
  refine fs_M_code B hts hown hK d_M_source_17 ?_
  refine jv_aload_n B d_M_source_20 rfl 0 rfl ?_
  refine fg_M_code B hts hown hK d_M_source_21 ?_
  refine jv_if_eq (tgt := 28) B d_M_source_24 (by decide) (fun hc => ?_) (fun hc => ?_)
  · replace h := h.1 hc
    refine jv_aload_n B d_M_source_28 rfl 0 rfl ?_
    refine jv_iload_n B d_M_source_29 rfl 1 rfl ?_
    refine fs_M_sectors B hts hown hK d_M_source_30 ?_
    refine jv_aload_n B d_M_source_33 rfl 0 rfl ?_
    refine jv_iconst (v := (-1)) B d_M_source_34 (by decide) ?_
    refine fs_M_phase B hts hown hK d_M_source_35 ?_
    refine jv_iconst (v := 0) B d_M_source_38 (by decide) ?_
    refine jv_istore_n (lv' := [(2, .int 0), (0, .ref (ad 0)), (1, .int v1)]) B d_M_source_39 rfl (by decide) rfl ?_
    refine jv_sub [1, 0] rfl ?_
    obtain ⟨n9, h⟩ := h
    exact w_M_source_40 X n9 _ _ h
  · replace h := h.2 hc
    exact jv_vret B hr hlk hK _ rfl h d_M_source_27
set_option maxRecDepth 100000 in
theorem w_M_source_12 (X : jv_C p s m args meth c b_M_source 3 none y_M_source wb D jClasses (jTy cI cA cL) A) {post : jS → Prop} {v1 : Int32} {σ : jS} (h : p_M_source_12 post v1 σ) : jv_V p l e (rmk 1 0 0) s m args below meth c D jClasses A 3 0 0 (MQ below (va_Qv post (jv_End D jClasses (jTy cI cA cL) A (fun σ => mw ad cI cA σ F)) A) args s 0 0 A) (mw ad cI cA σ F) [(0, .ref (ad 0)), (1, .int v1)] 12 [.ref (ad 0)] := by
  obtain ⟨B, hml, hown, hts, hK, hA, hr, hlk, hnm⟩ := id X
  unfold p_M_source_12 at h
  refine jv_iconst (v := 1) B d_M_source_12 (by decide) ?_
  refine jv_goto (tgt := 17) B d_M_source_13 (by decide) ?_
  exact w_M_source_17 X h
set_option maxRecDepth 100000 in
theorem w_M_source_0 (X : jv_C p s m args meth c b_M_source 3 none y_M_source wb D jClasses (jTy cI cA cL) A) {post : jS → Prop} {σ : jS} {v1 : Int32} (h : p_M_source σ v1 post) : jv_V p l e (rmk 1 0 0) s m args below meth c D jClasses A 3 0 0 (MQ below (va_Qv post (jv_End D jClasses (jTy cI cA cL) A (fun σ => mw ad cI cA σ F)) A) args s 0 0 A) (mw ad cI cA σ F) [(0, .ref (ad 0)), (1, .int v1)] 0 [] := by
  obtain ⟨B, hml, hown, hts, hK, hA, hr, hlk, hnm⟩ := id X
  unfold p_M_source at h
  refine jv_aload_n B d_M_source_0 rfl 0 rfl ?_
  refine jv_iload_n B d_M_source_1 rfl 1 rfl ?_
  refine jv_iconst (v := 1) B d_M_source_2 (by decide) ?_
  refine jv_icmp_lt (tgt := 12) B d_M_source_3 (by decide) (fun hc => ?_) (fun hc => ?_)
  · replace h := h.1 hc
    exact w_M_source_12 X h
  · replace h := h.2 hc
    refine jv_iload_n B d_M_source_6 rfl 1 rfl ?_
    refine jv_bipush (v := 64) B d_M_source_7 (by decide) ?_
    refine jv_icmp_le (tgt := 16) B d_M_source_9 (by decide) (fun hc => ?_) (fun hc => ?_)
    · replace h := h.1 hc
      refine jv_iconst (v := 0) B d_M_source_16 (by decide) ?_
      exact w_M_source_17 X h
    · replace h := h.2 hc
      exact w_M_source_12 X h
theorem c_M_source {l : Launch} {D : va_G} {A : Nat → Prop} {ad : Nat → Nat} {cI cA cL : ClassId} {F : va_W} {σ : jS} {v1 : Int32} {post : jS → Prop} (h : p_M_source σ v1 post) : Met l y_M_source (Cond.code y_M_source b_M_source 3 none :: wb) (rmk 1 0 0) (jv_Pre D jClasses (jTy cI cA cL) A (mw ad cI cA σ F) [.ref (ad 0), .int v1]) (va_Qv post (jv_End D jClasses (jTy cI cA cL) A (fun σ => mw ad cI cA σ F)) A) 0 0 A :=
  jv_ofB (by decide) (Nat.le_of_ble_eq_true rfl) (fun p e s m below meth c X => w_M_source_0 X h)
set_option maxRecDepth 100000 in
theorem w_M_isSector_0 (X : jv_C p s m args meth c b_M_isSector 2 (some .boolean) y_M_isSector wb D jClasses (jTy cI cA cL) A) {post : Int32 → jS → Prop} {σ : jS} {v1 : Int32} (h : p_M_isSector σ v1 post) : jv_V p l e (rmk 1 0 0) s m args below meth c D jClasses A 2 0 0 (MQ below (va_Qi post (jv_End D jClasses (jTy cI cA cL) A (fun σ => mw ad cI cA σ F)) A) args s 0 0 A) (mw ad cI cA σ F) [(0, .ref (ad 0)), (1, .int v1)] 0 [] := by
  obtain ⟨B, hml, hown, hts, hK, hA, hr, hlk, hnm⟩ := id X
  unfold p_M_isSector at h
  refine jv_iload_n B d_M_isSector_0 rfl 1 rfl ?_
  refine jv_if_lt (tgt := 16) B d_M_isSector_1 (by decide) (fun hc => ?_) (fun hc => ?_)
  · replace h := h.1 hc
    refine jv_iconst (v := 0) B d_M_isSector_16 (by decide) ?_
    exact jv_iret B hr (nz h.1) hlk hK _ rfl h.2 d_M_isSector_17
  · replace h := h.2 hc
    refine jv_iload_n B d_M_isSector_4 rfl 1 rfl ?_
    refine jv_aload_n B d_M_isSector_5 rfl 0 rfl ?_
    refine fg_M_sectors B hts hown hK d_M_isSector_6 ?_
    refine jv_icmp_ge (tgt := 16) B d_M_isSector_9 (by decide) (fun hc => ?_) (fun hc => ?_)
    · replace h := h.1 hc
      refine jv_iconst (v := 0) B d_M_isSector_16 (by decide) ?_
      exact jv_iret B hr (nz h.1) hlk hK _ rfl h.2 d_M_isSector_17
    · replace h := h.2 hc
      refine jv_iconst (v := 1) B d_M_isSector_12 (by decide) ?_
      refine jv_goto (tgt := 17) B d_M_isSector_13 (by decide) ?_
      exact jv_iret B hr (nz h.1) hlk hK _ rfl h.2 d_M_isSector_17
theorem c_M_isSector {l : Launch} {D : va_G} {A : Nat → Prop} {ad : Nat → Nat} {cI cA cL : ClassId} {F : va_W} {σ : jS} {v1 : Int32} {post : Int32 → jS → Prop} (h : p_M_isSector σ v1 post) : Met l y_M_isSector (Cond.code y_M_isSector b_M_isSector 2 (some .boolean) :: wb) (rmk 1 0 0) (jv_Pre D jClasses (jTy cI cA cL) A (mw ad cI cA σ F) [.ref (ad 0), .int v1]) (va_Qi post (jv_End D jClasses (jTy cI cA cL) A (fun σ => mw ad cI cA σ F)) A) 0 0 A :=
  jv_ofB (by decide) (Nat.le_of_ble_eq_true rfl) (fun p e s m below meth c X => w_M_isSector_0 X h)
set_option maxRecDepth 100000 in
theorem w_M_sector_25 (X : jv_C p s m args meth c b_M_sector 4 none y_M_sector wb D jClasses (jTy cI cA cL) A) {post : jS → Prop} {v1 v2 v3 : Int32} {σ : jS} {y0 : Int32} (h : p_M_sector_25 post v1 v2 v3 σ y0) : jv_V p l e (rmk 2 0 0) s m args below meth c D jClasses A 4 0 0 (MQ below (va_Qv post (jv_End D jClasses (jTy cI cA cL) A (fun σ => mw ad cI cA σ F)) A) args s 0 0 A) (mw ad cI cA σ F) [(0, .ref (ad 0)), (1, .int v1), (2, .int v2), (3, .int v3)] 25 [.int y0, .ref (ad 0)] := by
  obtain ⟨B, hml, hown, hts, hK, hA, hr, hlk, hnm⟩ := id X
  unfold p_M_sector_25 at h
  refine fs_M_code B hts hown hK d_M_sector_25 ?_
  refine jv_aload_n B d_M_sector_28 rfl 0 rfl ?_
  refine fg_M_code B hts hown hK d_M_sector_29 ?_
  refine jv_if_eq (tgt := 36) B d_M_sector_32 (by decide) (fun hc => ?_) (fun hc => ?_)
  · replace h := h.1 hc
    refine jv_aload_n B d_M_sector_36 rfl 0 rfl ?_
    refine fg_M_words B hts hown hK d_M_sector_37 ?_
    refine jv_iload_n B d_M_sector_40 rfl 1 rfl ?_
    refine jv_iload_n B d_M_sector_41 rfl 2 rfl ?_
    refine sd_m_1 B hK h.1 d_M_sector_42 ?_
    replace h := h.2
    refine jv_aload_n B d_M_sector_43 rfl 0 rfl ?_
    refine fg_M_failures B hts hown hK d_M_sector_44 ?_
    refine jv_iload_n B d_M_sector_47 rfl 1 rfl ?_
    refine jv_iload_n B d_M_sector_48 rfl 3 rfl ?_
    refine sd_m_2 B hK h.1 d_M_sector_49 ?_
    replace h := h.2
    exact jv_vret B hr hlk hK _ rfl h d_M_sector_50
  · replace h := h.2 hc
    exact jv_vret B hr hlk hK _ rfl h d_M_sector_35
set_option maxRecDepth 100000 in
theorem w_M_sector_20 (X : jv_C p s m args meth c b_M_sector 4 none y_M_sector wb D jClasses (jTy cI cA cL) A) {post : jS → Prop} {v1 v2 v3 : Int32} {σ : jS} (h : p_M_sector_20 post v1 v2 v3 σ) : jv_V p l e (rmk 2 0 0) s m args below meth c D jClasses A 4 0 0 (MQ below (va_Qv post (jv_End D jClasses (jTy cI cA cL) A (fun σ => mw ad cI cA σ F)) A) args s 0 0 A) (mw ad cI cA σ F) [(0, .ref (ad 0)), (1, .int v1), (2, .int v2), (3, .int v3)] 20 [.ref (ad 0)] := by
  obtain ⟨B, hml, hown, hts, hK, hA, hr, hlk, hnm⟩ := id X
  unfold p_M_sector_20 at h
  refine jv_iconst (v := 1) B d_M_sector_20 (by decide) ?_
  refine jv_goto (tgt := 25) B d_M_sector_21 (by decide) ?_
  exact w_M_sector_25 X h
set_option maxRecDepth 100000 in
theorem w_M_sector_0 (X : jv_C p s m args meth c b_M_sector 4 none y_M_sector wb D jClasses (jTy cI cA cL) A) {post : jS → Prop} {σ : jS} {v1 v2 v3 : Int32} (h : p_M_sector σ v1 v2 v3 post) : jv_V p l e (rmk 2 0 0) s m args below meth c D jClasses A 4 0 0 (MQ below (va_Qv post (jv_End D jClasses (jTy cI cA cL) A (fun σ => mw ad cI cA σ F)) A) args s 0 0 A) (mw ad cI cA σ F) [(0, .ref (ad 0)), (1, .int v1), (2, .int v2), (3, .int v3)] 0 [] := by
  obtain ⟨B, hml, hown, hts, hK, hA, hr, hlk, hnm⟩ := id X
  unfold p_M_sector at h
  refine jv_aload_n B d_M_sector_0 rfl 0 rfl ?_
  refine jv_aload_n B d_M_sector_1 rfl 0 rfl ?_
  refine jv_iload_n B d_M_sector_2 rfl 1 rfl ?_
  refine jv_civ (As := [.int v1]) B hml hown hts hK hA (c_M_isSector (ad := ad) (cI := cI) (cA := cA) (cL := cL) (F := F) h) (cwV 1 hts g_M_50 rfl rfl rfl hd_M_isSector ⟨Nat.le_of_ble_eq_true rfl, Nat.le_of_ble_eq_true rfl⟩) 0 5 rfl rfl rfl rfl (Nat.le_of_ble_eq_true rfl) d_M_sector_3 ⟨Nat.le_of_ble_eq_true rfl, Nat.le_of_ble_eq_true rfl⟩ rfl (fun r2 σ1 h => ?_)
  refine jv_if_eq (tgt := 20) B d_M_sector_6 (by decide) (fun hc => ?_) (fun hc => ?_)
  · replace h := h.1 hc
    exact w_M_sector_20 X h
  · replace h := h.2 hc
    refine jv_iload_n B d_M_sector_9 rfl 3 rfl ?_
    refine jv_iconst (v := (-1)) B d_M_sector_10 (by decide) ?_
    refine jv_icmp_lt (tgt := 20) B d_M_sector_11 (by decide) (fun hc => ?_) (fun hc => ?_)
    · replace h := h.1 hc
      exact w_M_sector_20 X h
    · replace h := h.2 hc
      refine jv_iload_n B d_M_sector_14 rfl 3 rfl ?_
      refine jv_bipush (v := 9) B d_M_sector_15 (by decide) ?_
      refine jv_icmp_le (tgt := 24) B d_M_sector_17 (by decide) (fun hc => ?_) (fun hc => ?_)
      · replace h := h.1 hc
        refine jv_iconst (v := 0) B d_M_sector_24 (by decide) ?_
        exact w_M_sector_25 X h
      · replace h := h.2 hc
        exact w_M_sector_20 X h
theorem c_M_sector {l : Launch} {D : va_G} {A : Nat → Prop} {ad : Nat → Nat} {cI cA cL : ClassId} {F : va_W} {σ : jS} {v1 v2 v3 : Int32} {post : jS → Prop} (h : p_M_sector σ v1 v2 v3 post) : Met l y_M_sector (Cond.code y_M_sector b_M_sector 4 none :: wb) (rmk 2 0 0) (jv_Pre D jClasses (jTy cI cA cL) A (mw ad cI cA σ F) [.ref (ad 0), .int v1, .int v2, .int v3]) (va_Qv post (jv_End D jClasses (jTy cI cA cL) A (fun σ => mw ad cI cA σ F)) A) 0 0 A :=
  jv_ofB (by decide) (Nat.le_of_ble_eq_true rfl) (fun p e s m below meth c X => w_M_sector_0 X h)
set_option maxRecDepth 100000 in
theorem w_M_reading_121 (X : jv_C p s m args meth c b_M_reading 3 (some .boolean) y_M_reading wb D jClasses (jTy cI cA cL) A) {post : Int32 → jS → Prop} {σ : jS} {v1 : Int32} (h : p_M_reading_121 post σ v1) : jv_V p l e (rmk 1 0 0) s m args below meth c D jClasses A 3 0 0 (MQ below (va_Qi post (jv_End D jClasses (jTy cI cA cL) A (fun σ => mw ad cI cA σ F)) A) args s 0 0 A) (mw ad cI cA σ F) [(0, .ref (ad 0)), (1, .int v1)] 121 [] := by
  obtain ⟨B, hml, hown, hts, hK, hA, hr, hlk, hnm⟩ := id X
  unfold p_M_reading_121 at h
  refine jv_iload_n B d_M_reading_121 rfl 1 rfl ?_
  refine jv_if_ne (tgt := 135) B d_M_reading_122 (by decide) (fun hc => ?_) (fun hc => ?_)
  · replace h := h.1 hc
    refine jv_iload_n B d_M_reading_135 rfl 1 rfl ?_
    exact jv_iret B hr (nz h.1) hlk hK _ rfl h.2 d_M_reading_136
  · replace h := h.2 hc
    refine jv_aload_n B d_M_reading_125 rfl 0 rfl ?_
    refine jv_dup B d_M_reading_126 rfl ?_
    refine fg_M_failed B hts hown hK d_M_reading_127 ?_
    refine jv_iconst (v := 1) B d_M_reading_130 (by decide) ?_
    refine jv_iadd B d_M_reading_131 ?_
    refine fs_M_failed B hts hown hK d_M_reading_132 ?_
    refine jv_iload_n B d_M_reading_135 rfl 1 rfl ?_
    exact jv_iret B hr (nz h.1) hlk hK _ rfl h.2 d_M_reading_136
set_option maxRecDepth 100000 in
theorem w_M_reading_84 (X : jv_C p s m args meth c b_M_reading 3 (some .boolean) y_M_reading wb D jClasses (jTy cI cA cL) A) {post : Int32 → jS → Prop} : ∀ (n : Nat), ∀ (σ : jS) (v1 v2 : Int32), p_M_reading_84 post n σ v1 v2 → jv_V p l e (rmk 1 0 0) s m args below meth c D jClasses A 3 0 0 (MQ below (va_Qi post (jv_End D jClasses (jTy cI cA cL) A (fun σ => mw ad cI cA σ F)) A) args s 0 0 A) (mw ad cI cA σ F) [(0, .ref (ad 0)), (1, .int v1), (2, .int v2)] 84 [] := by
  obtain ⟨B, hml, hown, hts, hK, hA, hr, hlk, hnm⟩ := id X
  intro n
  induction n with
  | zero => intro σ v1 v2 h; exact h.elim
  | succ n ih =>
    intro σ v1 v2 h
    rw [p_M_reading_84] at h
    refine jv_iload_n B d_M_reading_84 rfl 2 rfl ?_
    refine jv_aload_n B d_M_reading_85 rfl 0 rfl ?_
    refine fg_M_to B hts hown hK d_M_reading_86 ?_
    refine jv_icmp_ge (tgt := 121) B d_M_reading_89 (by decide) (fun hc => ?_) (fun hc => ?_)
    · replace h := h.1 hc
      refine jv_sub [0, 1] rfl ?_
      exact w_M_reading_121 X h
    · replace h := h.2 hc
      refine jv_iload_n B d_M_reading_92 rfl 1 rfl ?_
      refine jv_if_eq (tgt := 121) B d_M_reading_93 (by decide) (fun hc => ?_) (fun hc => ?_)
      · replace h := h.1 hc
        refine jv_sub [0, 1] rfl ?_
        exact w_M_reading_121 X h
      · replace h := h.2 hc
        refine jv_aload_n B d_M_reading_96 rfl 0 rfl ?_
        refine fg_M_target B hts hown hK d_M_reading_97 ?_
        refine jv_iload_n B d_M_reading_100 rfl 2 rfl ?_
        refine jv_aload_n B d_M_reading_101 rfl 0 rfl ?_
        refine fg_M_words B hts hown hK d_M_reading_102 ?_
        refine jv_iload_n B d_M_reading_105 rfl 2 rfl ?_
        refine ld_m_1 B hK h.1 d_M_reading_106 ?_
        replace h := h.2
        refine sd_m_4 B hK h.1 d_M_reading_107 ?_
        replace h := h.2
        refine jv_aload_n B d_M_reading_108 rfl 0 rfl ?_
        refine fg_M_states B hts hown hK d_M_reading_109 ?_
        refine jv_iload_n B d_M_reading_112 rfl 2 rfl ?_
        refine jv_iconst (v := 4) B d_M_reading_113 (by decide) ?_
        refine sd_m_5 B hK h.1 d_M_reading_114 ?_
        replace h := h.2
        refine jv_iinc (n9 := 2) (v := v2 + 1) (lv' := [(2, .int (v2 + 1)), (0, .ref (ad 0)), (1, .int v1)]) B d_M_reading_115 rfl rfl (by decide) rfl ?_
        refine jv_goto (tgt := 84) B d_M_reading_118 (by decide) ?_
        refine jv_sub [1, 2, 0] rfl ?_
        exact ih _ _ _ h
set_option maxRecDepth 100000 in
theorem w_M_reading_79 (X : jv_C p s m args meth c b_M_reading 3 (some .boolean) y_M_reading wb D jClasses (jTy cI cA cL) A) {post : Int32 → jS → Prop} {σ : jS} {v1 : Int32} (h : p_M_reading_79 post σ v1) : jv_V p l e (rmk 1 0 0) s m args below meth c D jClasses A 3 0 0 (MQ below (va_Qi post (jv_End D jClasses (jTy cI cA cL) A (fun σ => mw ad cI cA σ F)) A) args s 0 0 A) (mw ad cI cA σ F) [(0, .ref (ad 0)), (1, .int v1)] 79 [] := by
  obtain ⟨B, hml, hown, hts, hK, hA, hr, hlk, hnm⟩ := id X
  unfold p_M_reading_79 at h
  refine jv_aload_n B d_M_reading_79 rfl 0 rfl ?_
  refine fg_M_from B hts hown hK d_M_reading_80 ?_
  refine jv_istore_n (lv' := [(2, .int (σ 0 15)), (0, .ref (ad 0)), (1, .int v1)]) B d_M_reading_83 rfl (by decide) rfl ?_
  refine jv_sub [1, 2, 0] rfl ?_
  obtain ⟨n9, h⟩ := h
  exact w_M_reading_84 X n9 _ _ _ h
set_option maxRecDepth 100000 in
theorem w_M_reading_73 (X : jv_C p s m args meth c b_M_reading 3 (some .boolean) y_M_reading wb D jClasses (jTy cI cA cL) A) {post : Int32 → jS → Prop} {σ : jS} {v1 v2 : Int32} {k17 : jS → Int32 → Int32 → Prop} (H17 : ∀ (σ : jS) (v1 v2 : Int32), k17 σ v1 v2 → jv_V p l e (rmk 1 0 0) s m args below meth c D jClasses A 3 0 0 (MQ below (va_Qi post (jv_End D jClasses (jTy cI cA cL) A (fun σ => mw ad cI cA σ F)) A) args s 0 0 A) (mw ad cI cA σ F) [(0, .ref (ad 0)), (1, .int v1), (2, .int v2)] 17 []) (h : p_M_reading_73 post k17 σ v1 v2) : jv_V p l e (rmk 1 0 0) s m args below meth c D jClasses A 3 0 0 (MQ below (va_Qi post (jv_End D jClasses (jTy cI cA cL) A (fun σ => mw ad cI cA σ F)) A) args s 0 0 A) (mw ad cI cA σ F) [(0, .ref (ad 0)), (1, .int v1), (2, .int v2)] 73 [] := by
  obtain ⟨B, hml, hown, hts, hK, hA, hr, hlk, hnm⟩ := id X
  unfold p_M_reading_73 at h
  refine jv_iinc (n9 := 2) (v := v2 + 1) (lv' := [(2, .int (v2 + 1)), (0, .ref (ad 0)), (1, .int v1)]) B d_M_reading_73 rfl rfl (by decide) rfl ?_
  refine jv_goto (tgt := 17) B d_M_reading_76 (by decide) ?_
  refine jv_sub [1, 2, 0] rfl ?_
  exact H17 _ _ _ h
set_option maxRecDepth 100000 in
theorem w_M_reading_53 (X : jv_C p s m args meth c b_M_reading 3 (some .boolean) y_M_reading wb D jClasses (jTy cI cA cL) A) {post : Int32 → jS → Prop} {σ : jS} {v2 y0 : Int32} {k17 : jS → Int32 → Int32 → Prop} (H17 : ∀ (σ : jS) (v1 v2 : Int32), k17 σ v1 v2 → jv_V p l e (rmk 1 0 0) s m args below meth c D jClasses A 3 0 0 (MQ below (va_Qi post (jv_End D jClasses (jTy cI cA cL) A (fun σ => mw ad cI cA σ F)) A) args s 0 0 A) (mw ad cI cA σ F) [(0, .ref (ad 0)), (1, .int v1), (2, .int v2)] 17 []) (h : p_M_reading_53 post k17 σ v2 y0) : jv_V p l e (rmk 1 0 0) s m args below meth c D jClasses A 3 0 0 (MQ below (va_Qi post (jv_End D jClasses (jTy cI cA cL) A (fun σ => mw ad cI cA σ F)) A) args s 0 0 A) (mw ad cI cA σ F) [(0, .ref (ad 0)), (2, .int v2)] 53 [.int y0] := by
  obtain ⟨B, hml, hown, hts, hK, hA, hr, hlk, hnm⟩ := id X
  unfold p_M_reading_53 at h
  refine jv_istore_n (lv' := [(1, .int y0), (0, .ref (ad 0)), (2, .int v2)]) B d_M_reading_53 rfl (by decide) rfl ?_
  refine jv_aload_n B d_M_reading_54 rfl 1 rfl ?_
  refine fg_M_failures B hts hown hK d_M_reading_55 ?_
  refine jv_iload_n B d_M_reading_58 rfl 2 rfl ?_
  refine ld_m_2 B hK h.1 d_M_reading_59 ?_
  replace h := h.2
  refine jv_if_le (tgt := 73) B d_M_reading_60 (by decide) (fun hc => ?_) (fun hc => ?_)
  · replace h := h.1 hc
    refine jv_sub [1, 0, 2] rfl ?_
    exact w_M_reading_73 X H17 h
  · replace h := h.2 hc
    refine jv_aload_n B d_M_reading_63 rfl 1 rfl ?_
    refine fg_M_failures B hts hown hK d_M_reading_64 ?_
    refine jv_iload_n B d_M_reading_67 rfl 2 rfl ?_
    refine jv_dup2 B d_M_reading_68 rfl rfl ?_
    refine ld_m_2 B hK h.1 d_M_reading_69 ?_
    replace h := h.2
    refine jv_iconst (v := 1) B d_M_reading_70 (by decide) ?_
    refine jv_isub B d_M_reading_71 ?_
    refine sd_m_2 B hK h.1 d_M_reading_72 ?_
    replace h := h.2
    refine jv_sub [1, 0, 2] rfl ?_
    exact w_M_reading_73 X H17 h
set_option maxRecDepth 100000 in
theorem w_M_reading_17 (X : jv_C p s m args meth c b_M_reading 3 (some .boolean) y_M_reading wb D jClasses (jTy cI cA cL) A) {post : Int32 → jS → Prop} : ∀ (n : Nat), ∀ (σ : jS) (v1 v2 : Int32), p_M_reading_17 post n σ v1 v2 → jv_V p l e (rmk 1 0 0) s m args below meth c D jClasses A 3 0 0 (MQ below (va_Qi post (jv_End D jClasses (jTy cI cA cL) A (fun σ => mw ad cI cA σ F)) A) args s 0 0 A) (mw ad cI cA σ F) [(0, .ref (ad 0)), (1, .int v1), (2, .int v2)] 17 [] := by
  obtain ⟨B, hml, hown, hts, hK, hA, hr, hlk, hnm⟩ := id X
  intro n
  induction n with
  | zero => intro σ v1 v2 h; exact h.elim
  | succ n ih =>
    intro σ v1 v2 h
    rw [p_M_reading_17] at h
    refine jv_iload_n B d_M_reading_17 rfl 2 rfl ?_
    refine jv_aload_n B d_M_reading_18 rfl 0 rfl ?_
    refine fg_M_to B hts hown hK d_M_reading_19 ?_
    refine jv_icmp_ge (tgt := 79) B d_M_reading_22 (by decide) (fun hc => ?_) (fun hc => ?_)
    · replace h := h.1 hc
      refine jv_sub [0, 1] rfl ?_
      exact w_M_reading_79 X h
    · replace h := h.2 hc
      refine jv_iload_n B d_M_reading_25 rfl 1 rfl ?_
      refine jv_if_eq (tgt := 79) B d_M_reading_26 (by decide) (fun hc => ?_) (fun hc => ?_)
      · replace h := h.1 hc
        refine jv_sub [0, 1] rfl ?_
        exact w_M_reading_79 X h
      · replace h := h.2 hc
        refine jv_aload_n B d_M_reading_29 rfl 0 rfl ?_
        refine fg_M_reads B hts hown hK d_M_reading_30 ?_
        refine jv_iload_n B d_M_reading_33 rfl 2 rfl ?_
        refine jv_dup2 B d_M_reading_34 rfl rfl ?_
        refine ld_m_3 B hK h.1 d_M_reading_35 ?_
        replace h := h.2
        refine jv_iconst (v := 1) B d_M_reading_36 (by decide) ?_
        refine jv_iadd B d_M_reading_37 ?_
        refine sd_m_3 B hK h.1 d_M_reading_38 ?_
        replace h := h.2
        refine jv_aload_n B d_M_reading_39 rfl 0 rfl ?_
        refine fg_M_failures B hts hown hK d_M_reading_40 ?_
        refine jv_iload_n B d_M_reading_43 rfl 2 rfl ?_
        refine ld_m_2 B hK h.1 d_M_reading_44 ?_
        replace h := h.2
        refine jv_if_ne (tgt := 52) B d_M_reading_45 (by decide) (fun hc => ?_) (fun hc => ?_)
        · replace h := h.1 hc
          refine jv_iconst (v := 0) B d_M_reading_52 (by decide) ?_
          refine jv_sub [0, 2] rfl ?_
          exact w_M_reading_53 X ih h
        · replace h := h.2 hc
          refine jv_iconst (v := 1) B d_M_reading_48 (by decide) ?_
          refine jv_goto (tgt := 53) B d_M_reading_49 (by decide) ?_
          refine jv_sub [0, 2] rfl ?_
          exact w_M_reading_53 X ih h
set_option maxRecDepth 100000 in
theorem w_M_reading_0 (X : jv_C p s m args meth c b_M_reading 3 (some .boolean) y_M_reading wb D jClasses (jTy cI cA cL) A) {post : Int32 → jS → Prop} {σ : jS} (h : p_M_reading σ post) : jv_V p l e (rmk 1 0 0) s m args below meth c D jClasses A 3 0 0 (MQ below (va_Qi post (jv_End D jClasses (jTy cI cA cL) A (fun σ => mw ad cI cA σ F)) A) args s 0 0 A) (mw ad cI cA σ F) [(0, .ref (ad 0))] 0 [] := by
  obtain ⟨B, hml, hown, hts, hK, hA, hr, hlk, hnm⟩ := id X
  unfold p_M_reading at h
  refine jv_aload_n B d_M_reading_0 rfl 0 rfl ?_
  refine jv_dup B d_M_reading_1 rfl ?_
  refine fg_M_made B hts hown hK d_M_reading_2 ?_
  refine jv_iconst (v := 1) B d_M_reading_5 (by decide) ?_
  refine jv_iadd B d_M_reading_6 ?_
  refine fs_M_made B hts hown hK d_M_reading_7 ?_
  refine jv_iconst (v := 1) B d_M_reading_10 (by decide) ?_
  refine jv_istore_n (lv' := [(1, .int 1), (0, .ref (ad 0))]) B d_M_reading_11 rfl (by decide) rfl ?_
  refine jv_aload_n B d_M_reading_12 rfl 1 rfl ?_
  refine fg_M_from B hts hown hK d_M_reading_13 ?_
  refine jv_istore_n (lv' := [(2, .int ((up2 σ 0 6 ((σ 0 6) + 1)) 0 15)), (1, .int 1), (0, .ref (ad 0))]) B d_M_reading_16 rfl (by decide) rfl ?_
  refine jv_sub [2, 1, 0] rfl ?_
  obtain ⟨n9, h⟩ := h
  exact w_M_reading_17 X n9 _ _ _ h
theorem c_M_reading {l : Launch} {D : va_G} {A : Nat → Prop} {ad : Nat → Nat} {cI cA cL : ClassId} {F : va_W} {σ : jS} {post : Int32 → jS → Prop} (h : p_M_reading σ post) : Met l y_M_reading (Cond.code y_M_reading b_M_reading 3 (some .boolean) :: wb) (rmk 1 0 0) (jv_Pre D jClasses (jTy cI cA cL) A (mw ad cI cA σ F) [.ref (ad 0)]) (va_Qi post (jv_End D jClasses (jTy cI cA cL) A (fun σ => mw ad cI cA σ F)) A) 0 0 A :=
  jv_ofB (by decide) (Nat.le_of_ble_eq_true rfl) (fun p e s m below meth c X => w_M_reading_0 X h)
set_option maxRecDepth 100000 in
theorem w_M_enter_19 (X : jv_C p s m args meth c b_M_enter 2 none y_M_enter wb D jClasses (jTy cI cA cL) A) {post : jS → Prop} {v1 : Int32} {σ : jS} {y0 : Int32} (h : p_M_enter_19 post v1 σ y0) : jv_V p l e (rmk 1 0 0) s m args below meth c D jClasses A 2 0 0 (MQ below (va_Qv post (jv_End D jClasses (jTy cI cA cL) A (fun σ => mw ad cI cA σ F)) A) args s 0 0 A) (mw ad cI cA σ F) [(0, .ref (ad 0))] 19 [.int y0, .ref (ad 0)] := by
  obtain ⟨B, hml, hown, hts, hK, hA, hr, hlk, hnm⟩ := id X
  unfold p_M_enter_19 at h
  refine fs_M_position B hts hown hK d_M_enter_19 ?_
  refine jv_aload_n B d_M_enter_22 rfl 0 rfl ?_
  refine jv_bipush (v := 8) B d_M_enter_23 (by decide) ?_
  refine fs_M_leap B hts hown hK d_M_enter_25 ?_
  refine jv_aload_n B d_M_enter_28 rfl 0 rfl ?_
  refine jv_iconst (v := 0) B d_M_enter_29 (by decide) ?_
  refine fs_M_round B hts hown hK d_M_enter_30 ?_
  refine jv_aload_n B d_M_enter_33 rfl 0 rfl ?_
  refine jv_iconst (v := 0) B d_M_enter_34 (by decide) ?_
  refine fs_M_backwards B hts hown hK h.1 d_M_enter_35 ?_
  replace h := h.2
  exact jv_vret B hr hlk hK _ rfl h d_M_enter_38
set_option maxRecDepth 100000 in
theorem w_M_enter_0 (X : jv_C p s m args meth c b_M_enter 2 none y_M_enter wb D jClasses (jTy cI cA cL) A) {post : jS → Prop} {σ : jS} {v1 : Int32} (h : p_M_enter σ v1 post) : jv_V p l e (rmk 1 0 0) s m args below meth c D jClasses A 2 0 0 (MQ below (va_Qv post (jv_End D jClasses (jTy cI cA cL) A (fun σ => mw ad cI cA σ F)) A) args s 0 0 A) (mw ad cI cA σ F) [(0, .ref (ad 0)), (1, .int v1)] 0 [] := by
  obtain ⟨B, hml, hown, hts, hK, hA, hr, hlk, hnm⟩ := id X
  unfold p_M_enter at h
  refine jv_aload_n B d_M_enter_0 rfl 0 rfl ?_
  refine jv_iload_n B d_M_enter_1 rfl 1 rfl ?_
  refine fs_M_phase B hts hown hK d_M_enter_2 ?_
  refine jv_aload_n B d_M_enter_5 rfl 0 rfl ?_
  refine jv_iload_n B d_M_enter_6 rfl 1 rfl ?_
  refine jv_iconst (v := 1) B d_M_enter_7 (by decide) ?_
  refine jv_icmp_ne (tgt := 18) B d_M_enter_8 (by decide) (fun hc => ?_) (fun hc => ?_)
  · replace h := h.1 hc
    refine jv_iconst (v := 0) B d_M_enter_18 (by decide) ?_
    refine jv_sub [0] rfl ?_
    exact w_M_enter_19 X h
  · replace h := h.2 hc
    refine jv_aload_n B d_M_enter_11 rfl 0 rfl ?_
    refine fg_M_sectors B hts hown hK d_M_enter_12 ?_
    refine jv_goto (tgt := 19) B d_M_enter_15 (by decide) ?_
    refine jv_sub [0] rfl ?_
    exact w_M_enter_19 X h
theorem c_M_enter {l : Launch} {D : va_G} {A : Nat → Prop} {ad : Nat → Nat} {cI cA cL : ClassId} {F : va_W} {σ : jS} {v1 : Int32} {post : jS → Prop} (h : p_M_enter σ v1 post) : Met l y_M_enter (Cond.code y_M_enter b_M_enter 2 none :: wb) (rmk 1 0 0) (jv_Pre D jClasses (jTy cI cA cL) A (mw ad cI cA σ F) [.ref (ad 0), .int v1]) (va_Qv post (jv_End D jClasses (jTy cI cA cL) A (fun σ => mw ad cI cA σ F)) A) 0 0 A :=
  jv_ofB (by decide) (Nat.le_of_ble_eq_true rfl) (fun p e s m below meth c X => w_M_enter_0 X h)
set_option maxRecDepth 100000 in
theorem w_M_begin_52 (X : jv_C p s m args meth c b_M_begin 3 none y_M_begin wb D jClasses (jTy cI cA cL) A) {post : jS → Prop} {v1 : Int32} : ∀ (n : Nat), ∀ (σ : jS) (v2 : Int32), p_M_begin_52 post v1 n σ v2 → jv_V p l e (rmk 2 0 0) s m args below meth c D jClasses A 3 0 0 (MQ below (va_Qv post (jv_End D jClasses (jTy cI cA cL) A (fun σ => mw ad cI cA σ F)) A) args s 0 0 A) (mw ad cI cA σ F) [(0, .ref (ad 0)), (2, .int v2)] 52 [] := by
  obtain ⟨B, hml, hown, hts, hK, hA, hr, hlk, hnm⟩ := id X
  intro n
  induction n with
  | zero => intro σ v2 h; exact h.elim
  | succ n ih =>
    intro σ v2 h
    rw [p_M_begin_52] at h
    refine jv_iload_n B d_M_begin_52 rfl 1 rfl ?_
    refine jv_bipush (v := 64) B d_M_begin_53 (by decide) ?_
    refine jv_icmp_ge (tgt := 71) B d_M_begin_55 (by decide) (fun hc => ?_) (fun hc => ?_)
    · replace h := h.1 hc
      refine jv_aload_n B d_M_begin_71 rfl 0 rfl ?_
      refine jv_iconst (v := 0) B d_M_begin_72 (by decide) ?_
      refine jv_cvv (As := [.int 0]) B hml hown hts hK hA (c_M_enter (ad := ad) (cI := cI) (cA := cA) (cL := cL) (F := F) h) (cwV 1 hts g_M_76 rfl rfl rfl hd_M_enter ⟨Nat.le_of_ble_eq_true rfl, Nat.le_of_ble_eq_true rfl⟩) 0 5 rfl rfl rfl rfl (Nat.le_of_ble_eq_true rfl) d_M_begin_73 ⟨Nat.le_of_ble_eq_true rfl, Nat.le_of_ble_eq_true rfl⟩ rfl (fun σ1 h => ?_)
      exact jv_vret B hr hlk hK _ rfl h d_M_begin_76
    · replace h := h.2 hc
      refine jv_aload_n B d_M_begin_58 rfl 0 rfl ?_
      refine fg_M_states B hts hown hK d_M_begin_59 ?_
      refine jv_iload_n B d_M_begin_62 rfl 1 rfl ?_
      refine jv_iconst (v := 0) B d_M_begin_63 (by decide) ?_
      refine sd_m_5 B hK h.1 d_M_begin_64 ?_
      replace h := h.2
      refine jv_iinc (n9 := 1) (v := v2 + 1) (lv' := [(2, .int (v2 + 1)), (0, .ref (ad 0))]) B d_M_begin_65 rfl rfl (by decide) rfl ?_
      refine jv_goto (tgt := 52) B d_M_begin_68 (by decide) ?_
      refine jv_sub [1, 0] rfl ?_
      exact ih _ _ h
set_option maxRecDepth 100000 in
theorem w_M_begin_34 (X : jv_C p s m args meth c b_M_begin 3 none y_M_begin wb D jClasses (jTy cI cA cL) A) {post : jS → Prop} {v1 : Int32} {σ : jS} {y0 : Int32} (h : p_M_begin_34 post v1 σ y0) : jv_V p l e (rmk 2 0 0) s m args below meth c D jClasses A 3 0 0 (MQ below (va_Qv post (jv_End D jClasses (jTy cI cA cL) A (fun σ => mw ad cI cA σ F)) A) args s 0 0 A) (mw ad cI cA σ F) [(0, .ref (ad 0)), (1, .int v1)] 34 [.int y0, .ref (ad 0)] := by
  obtain ⟨B, hml, hown, hts, hK, hA, hr, hlk, hnm⟩ := id X
  unfold p_M_begin_34 at h
  refine fs_M_code B hts hown hK d_M_begin_34 ?_
  refine jv_aload_n B d_M_begin_37 rfl 0 rfl ?_
  refine fg_M_code B hts hown hK d_M_begin_38 ?_
  refine jv_if_eq (tgt := 45) B d_M_begin_41 (by decide) (fun hc => ?_) (fun hc => ?_)
  · replace h := h.1 hc
    refine jv_aload_n B d_M_begin_45 rfl 0 rfl ?_
    refine jv_iload_n B d_M_begin_46 rfl 1 rfl ?_
    refine fs_M_retries B hts hown hK d_M_begin_47 ?_
    refine jv_iconst (v := 0) B d_M_begin_50 (by decide) ?_
    refine jv_istore_n (lv' := [(2, .int 0), (0, .ref (ad 0)), (1, .int v1)]) B d_M_begin_51 rfl (by decide) rfl ?_
    refine jv_sub [1, 0] rfl ?_
    obtain ⟨n9, h⟩ := h
    exact w_M_begin_52 X n9 _ _ h
  · replace h := h.2 hc
    exact jv_vret B hr hlk hK _ rfl h d_M_begin_44
set_option maxRecDepth 100000 in
theorem w_M_begin_10 (X : jv_C p s m args meth c b_M_begin 3 none y_M_begin wb D jClasses (jTy cI cA cL) A) {post : jS → Prop} {v1 : Int32} {σ : jS} (h : p_M_begin_10 post v1 σ) : jv_V p l e (rmk 2 0 0) s m args below meth c D jClasses A 3 0 0 (MQ below (va_Qv post (jv_End D jClasses (jTy cI cA cL) A (fun σ => mw ad cI cA σ F)) A) args s 0 0 A) (mw ad cI cA σ F) [(0, .ref (ad 0)), (1, .int v1)] 10 [.ref (ad 0)] := by
  obtain ⟨B, hml, hown, hts, hK, hA, hr, hlk, hnm⟩ := id X
  unfold p_M_begin_10 at h
  refine jv_iconst (v := 1) B d_M_begin_10 (by decide) ?_
  refine jv_goto (tgt := 34) B d_M_begin_11 (by decide) ?_
  exact w_M_begin_34 X h
set_option maxRecDepth 100000 in
theorem w_M_begin_29 (X : jv_C p s m args meth c b_M_begin 3 none y_M_begin wb D jClasses (jTy cI cA cL) A) {post : jS → Prop} {v1 : Int32} {σ : jS} (h : p_M_begin_29 post v1 σ) : jv_V p l e (rmk 2 0 0) s m args below meth c D jClasses A 3 0 0 (MQ below (va_Qv post (jv_End D jClasses (jTy cI cA cL) A (fun σ => mw ad cI cA σ F)) A) args s 0 0 A) (mw ad cI cA σ F) [(0, .ref (ad 0)), (1, .int v1)] 29 [.ref (ad 0)] := by
  obtain ⟨B, hml, hown, hts, hK, hA, hr, hlk, hnm⟩ := id X
  unfold p_M_begin_29 at h
  refine jv_iconst (v := 2) B d_M_begin_29 (by decide) ?_
  refine jv_goto (tgt := 34) B d_M_begin_30 (by decide) ?_
  exact w_M_begin_34 X h
set_option maxRecDepth 100000 in
theorem w_M_begin_0 (X : jv_C p s m args meth c b_M_begin 3 none y_M_begin wb D jClasses (jTy cI cA cL) A) {post : jS → Prop} {σ : jS} {v1 : Int32} (h : p_M_begin σ v1 post) : jv_V p l e (rmk 2 0 0) s m args below meth c D jClasses A 3 0 0 (MQ below (va_Qv post (jv_End D jClasses (jTy cI cA cL) A (fun σ => mw ad cI cA σ F)) A) args s 0 0 A) (mw ad cI cA σ F) [(0, .ref (ad 0)), (1, .int v1)] 0 [] := by
  obtain ⟨B, hml, hown, hts, hK, hA, hr, hlk, hnm⟩ := id X
  unfold p_M_begin at h
  refine jv_aload_n B d_M_begin_0 rfl 0 rfl ?_
  refine jv_iload_n B d_M_begin_1 rfl 1 rfl ?_
  refine jv_if_lt (tgt := 10) B d_M_begin_2 (by decide) (fun hc => ?_) (fun hc => ?_)
  · replace h := h.1 hc
    exact w_M_begin_10 X h
  · replace h := h.2 hc
    refine jv_iload_n B d_M_begin_5 rfl 1 rfl ?_
    refine jv_iconst (v := 5) B d_M_begin_6 (by decide) ?_
    refine jv_icmp_le (tgt := 14) B d_M_begin_7 (by decide) (fun hc => ?_) (fun hc => ?_)
    · replace h := h.1 hc
      refine jv_aload_n B d_M_begin_14 rfl 0 rfl ?_
      refine fg_M_sectors B hts hown hK d_M_begin_15 ?_
      refine jv_if_eq (tgt := 29) B d_M_begin_18 (by decide) (fun hc => ?_) (fun hc => ?_)
      · replace h := h.1 hc
        exact w_M_begin_29 X h
      · replace h := h.2 hc
        refine jv_aload_n B d_M_begin_21 rfl 0 rfl ?_
        refine fg_M_phase B hts hown hK d_M_begin_22 ?_
        refine jv_iconst (v := (-1)) B d_M_begin_25 (by decide) ?_
        refine jv_icmp_eq (tgt := 33) B d_M_begin_26 (by decide) (fun hc => ?_) (fun hc => ?_)
        · replace h := h.1 hc
          refine jv_iconst (v := 0) B d_M_begin_33 (by decide) ?_
          exact w_M_begin_34 X h
        · replace h := h.2 hc
          exact w_M_begin_29 X h
    · replace h := h.2 hc
      exact w_M_begin_10 X h
theorem c_M_begin {l : Launch} {D : va_G} {A : Nat → Prop} {ad : Nat → Nat} {cI cA cL : ClassId} {F : va_W} {σ : jS} {v1 : Int32} {post : jS → Prop} (h : p_M_begin σ v1 post) : Met l y_M_begin (Cond.code y_M_begin b_M_begin 3 none :: wb) (rmk 2 0 0) (jv_Pre D jClasses (jTy cI cA cL) A (mw ad cI cA σ F) [.ref (ad 0), .int v1]) (va_Qv post (jv_End D jClasses (jTy cI cA cL) A (fun σ => mw ad cI cA σ F)) A) 0 0 A :=
  jv_ofB (by decide) (Nat.le_of_ble_eq_true rfl) (fun p e s m below meth c X => w_M_begin_0 X h)
set_option maxRecDepth 100000 in
theorem w_M_firstIn_10 (X : jv_C p s m args meth c b_M_firstIn 4 (some .int) y_M_firstIn wb D jClasses (jTy cI cA cL) A) {post : Int32 → jS → Prop} {v1 v2 : Int32} : ∀ (n : Nat), ∀ (σ : jS) (v3 : Int32), p_M_firstIn_10 post v1 v2 n σ v3 → jv_V p l e (rmk 1 0 0) s m args below meth c D jClasses A 4 0 0 (MQ below (va_Qi post (jv_End D jClasses (jTy cI cA cL) A (fun σ => mw ad cI cA σ F)) A) args s 0 0 A) (mw ad cI cA σ F) [(0, .ref (ad 0)), (1, .int v1), (3, .int v3)] 10 [] := by
  obtain ⟨B, hml, hown, hts, hK, hA, hr, hlk, hnm⟩ := id X
  intro n
  induction n with
  | zero => intro σ v3 h; exact h.elim
  | succ n ih =>
    intro σ v3 h
    rw [p_M_firstIn_10] at h
    refine jv_iload_n B d_M_firstIn_10 rfl 2 rfl ?_
    refine jv_aload_n B d_M_firstIn_11 rfl 0 rfl ?_
    refine fg_M_sectors B hts hown hK d_M_firstIn_12 ?_
    refine jv_icmp_ge (tgt := 36) B d_M_firstIn_15 (by decide) (fun hc => ?_) (fun hc => ?_)
    · replace h := h.1 hc
      refine jv_iconst (v := (-1)) B d_M_firstIn_36 (by decide) ?_
      exact jv_iret B hr rfl hlk hK _ rfl h d_M_firstIn_37
    · replace h := h.2 hc
      refine jv_aload_n B d_M_firstIn_18 rfl 0 rfl ?_
      refine fg_M_states B hts hown hK d_M_firstIn_19 ?_
      refine jv_iload_n B d_M_firstIn_22 rfl 2 rfl ?_
      refine ld_m_5 B hK h.1 d_M_firstIn_23 ?_
      replace h := h.2
      refine jv_iload_n B d_M_firstIn_24 rfl 1 rfl ?_
      refine jv_icmp_ne (tgt := 30) B d_M_firstIn_25 (by decide) (fun hc => ?_) (fun hc => ?_)
      · replace h := h.1 hc
        refine jv_iinc (n9 := 2) (v := v3 + 1) (lv' := [(3, .int (v3 + 1)), (0, .ref (ad 0)), (1, .int v1)]) B d_M_firstIn_30 rfl rfl (by decide) rfl ?_
        refine jv_goto (tgt := 10) B d_M_firstIn_33 (by decide) ?_
        refine jv_sub [1, 2, 0] rfl ?_
        exact ih _ _ h
      · replace h := h.2 hc
        refine jv_iload_n B d_M_firstIn_28 rfl 2 rfl ?_
        exact jv_iret B hr rfl hlk hK _ rfl h d_M_firstIn_29
set_option maxRecDepth 100000 in
theorem w_M_firstIn_9 (X : jv_C p s m args meth c b_M_firstIn 4 (some .int) y_M_firstIn wb D jClasses (jTy cI cA cL) A) {post : Int32 → jS → Prop} {v1 v2 : Int32} {σ : jS} {y0 : Int32} (h : p_M_firstIn_9 post v1 v2 σ y0) : jv_V p l e (rmk 1 0 0) s m args below meth c D jClasses A 4 0 0 (MQ below (va_Qi post (jv_End D jClasses (jTy cI cA cL) A (fun σ => mw ad cI cA σ F)) A) args s 0 0 A) (mw ad cI cA σ F) [(0, .ref (ad 0)), (1, .int v1)] 9 [.int y0] := by
  obtain ⟨B, hml, hown, hts, hK, hA, hr, hlk, hnm⟩ := id X
  unfold p_M_firstIn_9 at h
  refine jv_istore_n (lv' := [(3, .int y0), (0, .ref (ad 0)), (1, .int v1)]) B d_M_firstIn_9 rfl (by decide) rfl ?_
  refine jv_sub [1, 2, 0] rfl ?_
  obtain ⟨n9, h⟩ := h
  exact w_M_firstIn_10 X n9 _ _ h
set_option maxRecDepth 100000 in
theorem w_M_firstIn_0 (X : jv_C p s m args meth c b_M_firstIn 4 (some .int) y_M_firstIn wb D jClasses (jTy cI cA cL) A) {post : Int32 → jS → Prop} {σ : jS} {v1 v2 : Int32} (h : p_M_firstIn σ v1 v2 post) : jv_V p l e (rmk 1 0 0) s m args below meth c D jClasses A 4 0 0 (MQ below (va_Qi post (jv_End D jClasses (jTy cI cA cL) A (fun σ => mw ad cI cA σ F)) A) args s 0 0 A) (mw ad cI cA σ F) [(0, .ref (ad 0)), (1, .int v1), (2, .int v2)] 0 [] := by
  obtain ⟨B, hml, hown, hts, hK, hA, hr, hlk, hnm⟩ := id X
  unfold p_M_firstIn at h
  refine jv_iload_n B d_M_firstIn_0 rfl 2 rfl ?_
  refine jv_if_ge (tgt := 8) B d_M_firstIn_1 (by decide) (fun hc => ?_) (fun hc => ?_)
  · replace h := h.1 hc
    refine jv_iload_n B d_M_firstIn_8 rfl 2 rfl ?_
    refine jv_sub [0, 1] rfl ?_
    exact w_M_firstIn_9 X h
  · replace h := h.2 hc
    refine jv_iconst (v := 0) B d_M_firstIn_4 (by decide) ?_
    refine jv_goto (tgt := 9) B d_M_firstIn_5 (by decide) ?_
    refine jv_sub [0, 1] rfl ?_
    exact w_M_firstIn_9 X h
theorem c_M_firstIn {l : Launch} {D : va_G} {A : Nat → Prop} {ad : Nat → Nat} {cI cA cL : ClassId} {F : va_W} {σ : jS} {v1 v2 : Int32} {post : Int32 → jS → Prop} (h : p_M_firstIn σ v1 v2 post) : Met l y_M_firstIn (Cond.code y_M_firstIn b_M_firstIn 4 (some .int) :: wb) (rmk 1 0 0) (jv_Pre D jClasses (jTy cI cA cL) A (mw ad cI cA σ F) [.ref (ad 0), .int v1, .int v2]) (va_Qi post (jv_End D jClasses (jTy cI cA cL) A (fun σ => mw ad cI cA σ F)) A) 0 0 A :=
  jv_ofB (by decide) (Nat.le_of_ble_eq_true rfl) (fun p e s m below meth c X => w_M_firstIn_0 X h)
set_option maxRecDepth 100000 in
theorem w_M_lastIn_21 (X : jv_C p s m args meth c b_M_lastIn 4 (some .int) y_M_lastIn wb D jClasses (jTy cI cA cL) A) {post : Int32 → jS → Prop} {v1 v2 : Int32} : ∀ (n : Nat), ∀ (σ : jS) (v3 : Int32), p_M_lastIn_21 post v1 v2 n σ v3 → jv_V p l e (rmk 1 0 0) s m args below meth c D jClasses A 4 0 0 (MQ below (va_Qi post (jv_End D jClasses (jTy cI cA cL) A (fun σ => mw ad cI cA σ F)) A) args s 0 0 A) (mw ad cI cA σ F) [(0, .ref (ad 0)), (1, .int v1), (3, .int v3)] 21 [] := by
  obtain ⟨B, hml, hown, hts, hK, hA, hr, hlk, hnm⟩ := id X
  intro n
  induction n with
  | zero => intro σ v3 h; exact h.elim
  | succ n ih =>
    intro σ v3 h
    rw [p_M_lastIn_21] at h
    refine jv_iload_n B d_M_lastIn_21 rfl 2 rfl ?_
    refine jv_if_lt (tgt := 43) B d_M_lastIn_22 (by decide) (fun hc => ?_) (fun hc => ?_)
    · replace h := h.1 hc
      refine jv_iconst (v := (-1)) B d_M_lastIn_43 (by decide) ?_
      exact jv_iret B hr rfl hlk hK _ rfl h d_M_lastIn_44
    · replace h := h.2 hc
      refine jv_aload_n B d_M_lastIn_25 rfl 0 rfl ?_
      refine fg_M_states B hts hown hK d_M_lastIn_26 ?_
      refine jv_iload_n B d_M_lastIn_29 rfl 2 rfl ?_
      refine ld_m_5 B hK h.1 d_M_lastIn_30 ?_
      replace h := h.2
      refine jv_iload_n B d_M_lastIn_31 rfl 1 rfl ?_
      refine jv_icmp_ne (tgt := 37) B d_M_lastIn_32 (by decide) (fun hc => ?_) (fun hc => ?_)
      · replace h := h.1 hc
        refine jv_iinc (n9 := 2) (v := v3 + (-1)) (lv' := [(3, .int (v3 + (-1))), (0, .ref (ad 0)), (1, .int v1)]) B d_M_lastIn_37 rfl rfl (by decide) rfl ?_
        refine jv_goto (tgt := 21) B d_M_lastIn_40 (by decide) ?_
        refine jv_sub [1, 2, 0] rfl ?_
        exact ih _ _ h
      · replace h := h.2 hc
        refine jv_iload_n B d_M_lastIn_35 rfl 2 rfl ?_
        exact jv_iret B hr rfl hlk hK _ rfl h d_M_lastIn_36
set_option maxRecDepth 100000 in
theorem w_M_lastIn_20 (X : jv_C p s m args meth c b_M_lastIn 4 (some .int) y_M_lastIn wb D jClasses (jTy cI cA cL) A) {post : Int32 → jS → Prop} {v1 v2 : Int32} {σ : jS} {y0 : Int32} (h : p_M_lastIn_20 post v1 v2 σ y0) : jv_V p l e (rmk 1 0 0) s m args below meth c D jClasses A 4 0 0 (MQ below (va_Qi post (jv_End D jClasses (jTy cI cA cL) A (fun σ => mw ad cI cA σ F)) A) args s 0 0 A) (mw ad cI cA σ F) [(0, .ref (ad 0)), (1, .int v1)] 20 [.int y0] := by
  obtain ⟨B, hml, hown, hts, hK, hA, hr, hlk, hnm⟩ := id X
  unfold p_M_lastIn_20 at h
  refine jv_istore_n (lv' := [(3, .int y0), (0, .ref (ad 0)), (1, .int v1)]) B d_M_lastIn_20 rfl (by decide) rfl ?_
  refine jv_sub [1, 2, 0] rfl ?_
  obtain ⟨n9, h⟩ := h
  exact w_M_lastIn_21 X n9 _ _ h
set_option maxRecDepth 100000 in
theorem w_M_lastIn_0 (X : jv_C p s m args meth c b_M_lastIn 4 (some .int) y_M_lastIn wb D jClasses (jTy cI cA cL) A) {post : Int32 → jS → Prop} {σ : jS} {v1 v2 : Int32} (h : p_M_lastIn σ v1 v2 post) : jv_V p l e (rmk 1 0 0) s m args below meth c D jClasses A 4 0 0 (MQ below (va_Qi post (jv_End D jClasses (jTy cI cA cL) A (fun σ => mw ad cI cA σ F)) A) args s 0 0 A) (mw ad cI cA σ F) [(0, .ref (ad 0)), (1, .int v1), (2, .int v2)] 0 [] := by
  obtain ⟨B, hml, hown, hts, hK, hA, hr, hlk, hnm⟩ := id X
  unfold p_M_lastIn at h
  refine jv_iload_n B d_M_lastIn_0 rfl 2 rfl ?_
  refine jv_aload_n B d_M_lastIn_1 rfl 0 rfl ?_
  refine fg_M_sectors B hts hown hK d_M_lastIn_2 ?_
  refine jv_icmp_le (tgt := 17) B d_M_lastIn_5 (by decide) (fun hc => ?_) (fun hc => ?_)
  · replace h := h.1 hc
    refine jv_iload_n B d_M_lastIn_17 rfl 2 rfl ?_
    refine jv_iconst (v := 1) B d_M_lastIn_18 (by decide) ?_
    refine jv_isub B d_M_lastIn_19 ?_
    refine jv_sub [0, 1] rfl ?_
    exact w_M_lastIn_20 X h
  · replace h := h.2 hc
    refine jv_aload_n B d_M_lastIn_8 rfl 0 rfl ?_
    refine fg_M_sectors B hts hown hK d_M_lastIn_9 ?_
    refine jv_iconst (v := 1) B d_M_lastIn_12 (by decide) ?_
    refine jv_isub B d_M_lastIn_13 ?_
    refine jv_goto (tgt := 20) B d_M_lastIn_14 (by decide) ?_
    refine jv_sub [0, 1] rfl ?_
    exact w_M_lastIn_20 X h
theorem c_M_lastIn {l : Launch} {D : va_G} {A : Nat → Prop} {ad : Nat → Nat} {cI cA cL : ClassId} {F : va_W} {σ : jS} {v1 v2 : Int32} {post : Int32 → jS → Prop} (h : p_M_lastIn σ v1 v2 post) : Met l y_M_lastIn (Cond.code y_M_lastIn b_M_lastIn 4 (some .int) :: wb) (rmk 1 0 0) (jv_Pre D jClasses (jTy cI cA cL) A (mw ad cI cA σ F) [.ref (ad 0), .int v1, .int v2]) (va_Qi post (jv_End D jClasses (jTy cI cA cL) A (fun σ => mw ad cI cA σ F)) A) 0 0 A :=
  jv_ofB (by decide) (Nat.le_of_ble_eq_true rfl) (fun p e s m below meth c X => w_M_lastIn_0 X h)
set_option maxRecDepth 100000 in
theorem w_M_findBad_92 (X : jv_C p s m args meth c b_M_findBad 2 (some .int) y_M_findBad wb D jClasses (jTy cI cA cL) A) {post : Int32 → jS → Prop} {σ : jS} {v1 y0 : Int32} {k2 : jS → Int32 → Prop} (H2 : ∀ (σ : jS) (v1 : Int32), k2 σ v1 → jv_V p l e (rmk 2 0 0) s m args below meth c D jClasses A 2 0 0 (MQ below (va_Qi post (jv_End D jClasses (jTy cI cA cL) A (fun σ => mw ad cI cA σ F)) A) args s 0 0 A) (mw ad cI cA σ F) [(0, .ref (ad 0)), (1, .int v1)] 2 []) (h : p_M_findBad_92 post k2 σ v1 y0) : jv_V p l e (rmk 2 0 0) s m args below meth c D jClasses A 2 0 0 (MQ below (va_Qi post (jv_End D jClasses (jTy cI cA cL) A (fun σ => mw ad cI cA σ F)) A) args s 0 0 A) (mw ad cI cA σ F) [(0, .ref (ad 0)), (1, .int v1)] 92 [.int y0, .ref (ad 0)] := by
  obtain ⟨B, hml, hown, hts, hK, hA, hr, hlk, hnm⟩ := id X
  unfold p_M_findBad_92 at h
  refine fs_M_position B hts hown hK d_M_findBad_92 ?_
  refine jv_goto (tgt := 2) B d_M_findBad_95 (by decide) ?_
  exact H2 _ _ h
set_option maxRecDepth 100000 in
theorem w_M_findBad_56 (X : jv_C p s m args meth c b_M_findBad 2 (some .int) y_M_findBad wb D jClasses (jTy cI cA cL) A) {post : Int32 → jS → Prop} {σ : jS} {y0 : Int32} {k2 : jS → Int32 → Prop} (H2 : ∀ (σ : jS) (v1 : Int32), k2 σ v1 → jv_V p l e (rmk 2 0 0) s m args below meth c D jClasses A 2 0 0 (MQ below (va_Qi post (jv_End D jClasses (jTy cI cA cL) A (fun σ => mw ad cI cA σ F)) A) args s 0 0 A) (mw ad cI cA σ F) [(0, .ref (ad 0)), (1, .int v1)] 2 []) (h : p_M_findBad_56 post k2 σ y0) : jv_V p l e (rmk 2 0 0) s m args below meth c D jClasses A 2 0 0 (MQ below (va_Qi post (jv_End D jClasses (jTy cI cA cL) A (fun σ => mw ad cI cA σ F)) A) args s 0 0 A) (mw ad cI cA σ F) [(0, .ref (ad 0))] 56 [.int y0] := by
  obtain ⟨B, hml, hown, hts, hK, hA, hr, hlk, hnm⟩ := id X
  unfold p_M_findBad_56 at h
  refine jv_istore_n (lv' := [(1, .int y0), (0, .ref (ad 0))]) B d_M_findBad_56 rfl (by decide) rfl ?_
  refine jv_iload_n B d_M_findBad_57 rfl 0 rfl ?_
  refine jv_if_lt (tgt := 64) B d_M_findBad_58 (by decide) (fun hc => ?_) (fun hc => ?_)
  · replace h := h.1 hc
    refine jv_aload_n B d_M_findBad_64 rfl 1 rfl ?_
    refine jv_dup B d_M_findBad_65 rfl ?_
    refine fg_M_round B hts hown hK d_M_findBad_66 ?_
    refine jv_iconst (v := 1) B d_M_findBad_69 (by decide) ?_
    refine jv_iadd B d_M_findBad_70 ?_
    refine fs_M_round B hts hown hK d_M_findBad_71 ?_
    refine jv_aload_n B d_M_findBad_74 rfl 1 rfl ?_
    refine jv_aload_n B d_M_findBad_75 rfl 1 rfl ?_
    refine fg_M_round B hts hown hK d_M_findBad_76 ?_
    refine jv_iconst (v := 2) B d_M_findBad_79 (by decide) ?_
    refine jv_irem B d_M_findBad_80 (by decide) ?_
    refine jv_if_ne (tgt := 88) B d_M_findBad_81 (by decide) (fun hc => ?_) (fun hc => ?_)
    · replace h := h.1 hc
      refine jv_aload_n B d_M_findBad_88 rfl 1 rfl ?_
      refine fg_M_sectors B hts hown hK d_M_findBad_89 ?_
      refine jv_sub [1, 0] rfl ?_
      exact w_M_findBad_92 X H2 h
    · replace h := h.2 hc
      refine jv_iconst (v := 0) B d_M_findBad_84 (by decide) ?_
      refine jv_goto (tgt := 92) B d_M_findBad_85 (by decide) ?_
      refine jv_sub [1, 0] rfl ?_
      exact w_M_findBad_92 X H2 h
  · replace h := h.2 hc
    refine jv_goto (tgt := 2) B d_M_findBad_61 (by decide) ?_
    refine jv_sub [1, 0] rfl ?_
    exact H2 _ _ h
set_option maxRecDepth 100000 in
theorem w_M_findBad_2 (X : jv_C p s m args meth c b_M_findBad 2 (some .int) y_M_findBad wb D jClasses (jTy cI cA cL) A) {post : Int32 → jS → Prop} : ∀ (n : Nat), ∀ (σ : jS) (v1 : Int32), p_M_findBad_2 post n σ v1 → jv_V p l e (rmk 2 0 0) s m args below meth c D jClasses A 2 0 0 (MQ below (va_Qi post (jv_End D jClasses (jTy cI cA cL) A (fun σ => mw ad cI cA σ F)) A) args s 0 0 A) (mw ad cI cA σ F) [(0, .ref (ad 0)), (1, .int v1)] 2 [] := by
  obtain ⟨B, hml, hown, hts, hK, hA, hr, hlk, hnm⟩ := id X
  intro n
  induction n with
  | zero => intro σ v1 h; exact h.elim
  | succ n ih =>
    intro σ v1 h
    rw [p_M_findBad_2] at h
    refine jv_aload_n B d_M_findBad_2 rfl 0 rfl ?_
    refine fg_M_round B hts hown hK d_M_findBad_3 ?_
    refine jv_aload_n B d_M_findBad_6 rfl 0 rfl ?_
    refine fg_M_retries B hts hown hK d_M_findBad_7 ?_
    refine jv_icmp_ge (tgt := 98) B d_M_findBad_10 (by decide) (fun hc => ?_) (fun hc => ?_)
    · replace h := h.1 hc
      refine jv_iload_n B d_M_findBad_98 rfl 1 rfl ?_
      exact jv_iret B hr rfl hlk hK _ rfl h d_M_findBad_99
    · replace h := h.2 hc
      refine jv_iload_n B d_M_findBad_13 rfl 1 rfl ?_
      refine jv_if_ge (tgt := 98) B d_M_findBad_14 (by decide) (fun hc => ?_) (fun hc => ?_)
      · replace h := h.1 hc
        refine jv_iload_n B d_M_findBad_98 rfl 1 rfl ?_
        exact jv_iret B hr rfl hlk hK _ rfl h d_M_findBad_99
      · replace h := h.2 hc
        refine jv_aload_n B d_M_findBad_17 rfl 0 rfl ?_
        refine jv_iconst (v := 3) B d_M_findBad_18 (by decide) ?_
        refine jv_iconst (v := 0) B d_M_findBad_19 (by decide) ?_
        refine jv_civ (As := [.int 3, .int 0]) B hml hown hts hK hA (c_M_firstIn (ad := ad) (cI := cI) (cA := cA) (cL := cL) (F := F) h) (cwV 2 hts g_M_80 rfl rfl rfl hd_M_firstIn ⟨Nat.le_of_ble_eq_true rfl, Nat.le_of_ble_eq_true rfl⟩) 0 5 rfl rfl rfl rfl (Nat.le_of_ble_eq_true rfl) d_M_findBad_20 ⟨Nat.le_of_ble_eq_true rfl, Nat.le_of_ble_eq_true rfl⟩ rfl (fun r2 σ1 h => ?_)
        refine jv_if_lt (tgt := 98) B d_M_findBad_23 (by decide) (fun hc => ?_) (fun hc => ?_)
        · replace h := h.1 hc
          refine jv_iload_n B d_M_findBad_98 rfl 1 rfl ?_
          exact jv_iret B hr rfl hlk hK _ rfl h d_M_findBad_99
        · replace h := h.2 hc
          refine jv_aload_n B d_M_findBad_26 rfl 0 rfl ?_
          refine fg_M_round B hts hown hK d_M_findBad_27 ?_
          refine jv_iconst (v := 2) B d_M_findBad_30 (by decide) ?_
          refine jv_irem B d_M_findBad_31 (by decide) ?_
          refine jv_if_ne (tgt := 47) B d_M_findBad_32 (by decide) (fun hc => ?_) (fun hc => ?_)
          · replace h := h.1 hc
            refine jv_aload_n B d_M_findBad_47 rfl 0 rfl ?_
            refine jv_iconst (v := 3) B d_M_findBad_48 (by decide) ?_
            refine jv_aload_n B d_M_findBad_49 rfl 0 rfl ?_
            refine fg_M_position B hts hown hK d_M_findBad_50 ?_
            refine jv_civ (As := [.int 3, .int (σ1 0 11)]) B hml hown hts hK hA (c_M_lastIn (ad := ad) (cI := cI) (cA := cA) (cL := cL) (F := F) h) (cwV 2 hts g_M_84 rfl rfl rfl hd_M_lastIn ⟨Nat.le_of_ble_eq_true rfl, Nat.le_of_ble_eq_true rfl⟩) 0 5 rfl rfl rfl rfl (Nat.le_of_ble_eq_true rfl) d_M_findBad_53 ⟨Nat.le_of_ble_eq_true rfl, Nat.le_of_ble_eq_true rfl⟩ rfl (fun r4 σ3 h => ?_)
            refine jv_sub [0] rfl ?_
            exact w_M_findBad_56 X ih h
          · replace h := h.2 hc
            refine jv_aload_n B d_M_findBad_35 rfl 0 rfl ?_
            refine jv_iconst (v := 3) B d_M_findBad_36 (by decide) ?_
            refine jv_aload_n B d_M_findBad_37 rfl 0 rfl ?_
            refine fg_M_position B hts hown hK d_M_findBad_38 ?_
            refine jv_civ (As := [.int 3, .int (σ1 0 11)]) B hml hown hts hK hA (c_M_firstIn (ad := ad) (cI := cI) (cA := cA) (cL := cL) (F := F) h) (cwV 2 hts g_M_80 rfl rfl rfl hd_M_firstIn ⟨Nat.le_of_ble_eq_true rfl, Nat.le_of_ble_eq_true rfl⟩) 0 5 rfl rfl rfl rfl (Nat.le_of_ble_eq_true rfl) d_M_findBad_41 ⟨Nat.le_of_ble_eq_true rfl, Nat.le_of_ble_eq_true rfl⟩ rfl (fun r6 σ5 h => ?_)
            refine jv_goto (tgt := 56) B d_M_findBad_44 (by decide) ?_
            refine jv_sub [0] rfl ?_
            exact w_M_findBad_56 X ih h
set_option maxRecDepth 100000 in
theorem w_M_findBad_0 (X : jv_C p s m args meth c b_M_findBad 2 (some .int) y_M_findBad wb D jClasses (jTy cI cA cL) A) {post : Int32 → jS → Prop} {σ : jS} (h : p_M_findBad σ post) : jv_V p l e (rmk 2 0 0) s m args below meth c D jClasses A 2 0 0 (MQ below (va_Qi post (jv_End D jClasses (jTy cI cA cL) A (fun σ => mw ad cI cA σ F)) A) args s 0 0 A) (mw ad cI cA σ F) [(0, .ref (ad 0))] 0 [] := by
  obtain ⟨B, hml, hown, hts, hK, hA, hr, hlk, hnm⟩ := id X
  unfold p_M_findBad at h
  refine jv_iconst (v := (-1)) B d_M_findBad_0 (by decide) ?_
  refine jv_istore_n (lv' := [(1, .int (-1)), (0, .ref (ad 0))]) B d_M_findBad_1 rfl (by decide) rfl ?_
  refine jv_sub [1, 0] rfl ?_
  obtain ⟨n9, h⟩ := h
  exact w_M_findBad_2 X n9 _ _ h
theorem c_M_findBad {l : Launch} {D : va_G} {A : Nat → Prop} {ad : Nat → Nat} {cI cA cL : ClassId} {F : va_W} {σ : jS} {post : Int32 → jS → Prop} (h : p_M_findBad σ post) : Met l y_M_findBad (Cond.code y_M_findBad b_M_findBad 2 (some .int) :: wb) (rmk 2 0 0) (jv_Pre D jClasses (jTy cI cA cL) A (mw ad cI cA σ F) [.ref (ad 0)]) (va_Qi post (jv_End D jClasses (jTy cI cA cL) A (fun σ => mw ad cI cA σ F)) A) 0 0 A :=
  jv_ofB (by decide) (Nat.le_of_ble_eq_true rfl) (fun p e s m below meth c X => w_M_findBad_0 X h)
set_option maxRecDepth 100000 in
theorem w_M_find_86 (X : jv_C p s m args meth c b_M_find 2 (some .boolean) y_M_find wb D jClasses (jTy cI cA cL) A) {post : Int32 → jS → Prop} {σ : jS} {v1 : Int32} (h : p_M_find_86 post σ v1) : jv_V p l e (rmk 3 0 0) s m args below meth c D jClasses A 2 0 0 (MQ below (va_Qi post (jv_End D jClasses (jTy cI cA cL) A (fun σ => mw ad cI cA σ F)) A) args s 0 0 A) (mw ad cI cA σ F) [(1, .int v1)] 86 [] := by
  obtain ⟨B, hml, hown, hts, hK, hA, hr, hlk, hnm⟩ := id X
  unfold p_M_find_86 at h
  refine jv_iload_n B d_M_find_86 rfl 0 rfl ?_
  refine jv_if_lt (tgt := 94) B d_M_find_87 (by decide) (fun hc => ?_) (fun hc => ?_)
  · replace h := h.1 hc
    refine jv_iconst (v := 0) B d_M_find_94 (by decide) ?_
    exact jv_iret B hr (nz h.1) hlk hK _ rfl h.2 d_M_find_95
  · replace h := h.2 hc
    refine jv_iconst (v := 1) B d_M_find_90 (by decide) ?_
    refine jv_goto (tgt := 95) B d_M_find_91 (by decide) ?_
    exact jv_iret B hr (nz h.1) hlk hK _ rfl h.2 d_M_find_95
set_option maxRecDepth 100000 in
theorem w_M_find_35 (X : jv_C p s m args meth c b_M_find 2 (some .boolean) y_M_find wb D jClasses (jTy cI cA cL) A) {post : Int32 → jS → Prop} : ∀ (n : Nat), ∀ (σ : jS) (v1 : Int32), p_M_find_35 post n σ v1 → jv_V p l e (rmk 3 0 0) s m args below meth c D jClasses A 2 0 0 (MQ below (va_Qi post (jv_End D jClasses (jTy cI cA cL) A (fun σ => mw ad cI cA σ F)) A) args s 0 0 A) (mw ad cI cA σ F) [(0, .ref (ad 0)), (1, .int v1)] 35 [] := by
  obtain ⟨B, hml, hown, hts, hK, hA, hr, hlk, hnm⟩ := id X
  intro n
  induction n with
  | zero => intro σ v1 h; exact h.elim
  | succ n ih =>
    intro σ v1 h
    rw [p_M_find_35] at h
    refine jv_iload_n B d_M_find_35 rfl 1 rfl ?_
    refine jv_if_lt (tgt := 86) B d_M_find_36 (by decide) (fun hc => ?_) (fun hc => ?_)
    · replace h := h.1 hc
      refine jv_sub [1] rfl ?_
      exact w_M_find_86 X h
    · replace h := h.2 hc
      refine jv_aload_n B d_M_find_39 rfl 0 rfl ?_
      refine fg_M_to B hts hown hK d_M_find_40 ?_
      refine jv_aload_n B d_M_find_43 rfl 0 rfl ?_
      refine fg_M_sectors B hts hown hK d_M_find_44 ?_
      refine jv_icmp_ge (tgt := 86) B d_M_find_47 (by decide) (fun hc => ?_) (fun hc => ?_)
      · replace h := h.1 hc
        refine jv_sub [1] rfl ?_
        exact w_M_find_86 X h
      · replace h := h.2 hc
        refine jv_aload_n B d_M_find_50 rfl 0 rfl ?_
        refine fg_M_to B hts hown hK d_M_find_51 ?_
        refine jv_iload_n B d_M_find_54 rfl 1 rfl ?_
        refine jv_bipush (v := 8) B d_M_find_55 (by decide) ?_
        refine jv_iadd B d_M_find_57 ?_
        refine jv_icmp_ge (tgt := 86) B d_M_find_58 (by decide) (fun hc => ?_) (fun hc => ?_)
        · replace h := h.1 hc
          refine jv_sub [1] rfl ?_
          exact w_M_find_86 X h
        · replace h := h.2 hc
          refine jv_aload_n B d_M_find_61 rfl 0 rfl ?_
          refine fg_M_states B hts hown hK d_M_find_62 ?_
          refine jv_aload_n B d_M_find_65 rfl 0 rfl ?_
          refine fg_M_to B hts hown hK d_M_find_66 ?_
          refine ld_m_5 B hK h.1 d_M_find_69 ?_
          replace h := h.2
          refine jv_if_ne (tgt := 86) B d_M_find_70 (by decide) (fun hc => ?_) (fun hc => ?_)
          · replace h := h.1 hc
            refine jv_sub [1] rfl ?_
            exact w_M_find_86 X h
          · replace h := h.2 hc
            refine jv_aload_n B d_M_find_73 rfl 0 rfl ?_
            refine jv_dup B d_M_find_74 rfl ?_
            refine fg_M_to B hts hown hK d_M_find_75 ?_
            refine jv_iconst (v := 1) B d_M_find_78 (by decide) ?_
            refine jv_iadd B d_M_find_79 ?_
            refine fs_M_to B hts hown hK d_M_find_80 ?_
            refine jv_goto (tgt := 35) B d_M_find_83 (by decide) ?_
            exact ih _ _ h
set_option maxRecDepth 100000 in
theorem w_M_find_15 (X : jv_C p s m args meth c b_M_find 2 (some .boolean) y_M_find wb D jClasses (jTy cI cA cL) A) {post : Int32 → jS → Prop} {σ : jS} (h : p_M_find_15 post σ) : jv_V p l e (rmk 3 0 0) s m args below meth c D jClasses A 2 0 0 (MQ below (va_Qi post (jv_End D jClasses (jTy cI cA cL) A (fun σ => mw ad cI cA σ F)) A) args s 0 0 A) (mw ad cI cA σ F) [(0, .ref (ad 0))] 15 [] := by
  obtain ⟨B, hml, hown, hts, hK, hA, hr, hlk, hnm⟩ := id X
  unfold p_M_find_15 at h
  refine jv_aload_n B d_M_find_15 rfl 0 rfl ?_
  refine jv_iconst (v := 0) B d_M_find_16 (by decide) ?_
  refine jv_aload_n B d_M_find_17 rfl 0 rfl ?_
  refine fg_M_position B hts hown hK d_M_find_18 ?_
  refine jv_civ (As := [.int 0, .int (σ 0 11)]) B hml hown hts hK hA (c_M_firstIn (ad := ad) (cI := cI) (cA := cA) (cL := cL) (F := F) h) (cwV 2 hts g_M_80 rfl rfl rfl hd_M_firstIn ⟨Nat.le_of_ble_eq_true rfl, Nat.le_of_ble_eq_true rfl⟩) 0 5 rfl rfl rfl rfl (Nat.le_of_ble_eq_true rfl) d_M_find_21 ⟨Nat.le_of_ble_eq_true rfl, Nat.le_of_ble_eq_true rfl⟩ rfl (fun r2 σ1 h => ?_)
  refine jv_istore_n (lv' := [(1, .int r2), (0, .ref (ad 0))]) B d_M_find_24 rfl (by decide) rfl ?_
  refine jv_aload_n B d_M_find_25 rfl 1 rfl ?_
  refine jv_iload_n B d_M_find_26 rfl 0 rfl ?_
  refine fs_M_from B hts hown hK d_M_find_27 ?_
  refine jv_aload_n B d_M_find_30 rfl 1 rfl ?_
  refine jv_iload_n B d_M_find_31 rfl 0 rfl ?_
  refine fs_M_to B hts hown hK d_M_find_32 ?_
  refine jv_sub [1, 0] rfl ?_
  obtain ⟨n9, h⟩ := h
  exact w_M_find_35 X n9 _ _ h
set_option maxRecDepth 100000 in
theorem w_M_find_262 (X : jv_C p s m args meth c b_M_find 2 (some .boolean) y_M_find wb D jClasses (jTy cI cA cL) A) {post : Int32 → jS → Prop} {σ : jS} {v1 : Int32} (h : p_M_find_262 post σ v1) : jv_V p l e (rmk 3 0 0) s m args below meth c D jClasses A 2 0 0 (MQ below (va_Qi post (jv_End D jClasses (jTy cI cA cL) A (fun σ => mw ad cI cA σ F)) A) args s 0 0 A) (mw ad cI cA σ F) [(0, .ref (ad 0)), (1, .int v1)] 262 [] := by
  obtain ⟨B, hml, hown, hts, hK, hA, hr, hlk, hnm⟩ := id X
  unfold p_M_find_262 at h
  refine jv_aload_n B d_M_find_262 rfl 0 rfl ?_
  refine jv_iload_n B d_M_find_263 rfl 1 rfl ?_
  refine fs_M_from B hts hown hK d_M_find_264 ?_
  refine jv_aload_n B d_M_find_267 rfl 0 rfl ?_
  refine jv_iload_n B d_M_find_268 rfl 1 rfl ?_
  refine jv_iconst (v := 1) B d_M_find_269 (by decide) ?_
  refine jv_iadd B d_M_find_270 ?_
  refine fs_M_to B hts hown hK d_M_find_271 ?_
  refine jv_iload_n B d_M_find_274 rfl 1 rfl ?_
  refine jv_if_lt (tgt := 282) B d_M_find_275 (by decide) (fun hc => ?_) (fun hc => ?_)
  · replace h := h.1 hc
    refine jv_iconst (v := 0) B d_M_find_282 (by decide) ?_
    exact jv_iret B hr (nz h.1) hlk hK _ rfl h.2 d_M_find_283
  · replace h := h.2 hc
    refine jv_iconst (v := 1) B d_M_find_278 (by decide) ?_
    refine jv_goto (tgt := 283) B d_M_find_279 (by decide) ?_
    exact jv_iret B hr (nz h.1) hlk hK _ rfl h.2 d_M_find_283
set_option maxRecDepth 100000 in
theorem w_M_find_200 (X : jv_C p s m args meth c b_M_find 2 (some .boolean) y_M_find wb D jClasses (jTy cI cA cL) A) {post : Int32 → jS → Prop} : ∀ (n : Nat), ∀ (σ : jS) (v1 : Int32), p_M_find_200 post n σ v1 → jv_V p l e (rmk 3 0 0) s m args below meth c D jClasses A 2 0 0 (MQ below (va_Qi post (jv_End D jClasses (jTy cI cA cL) A (fun σ => mw ad cI cA σ F)) A) args s 0 0 A) (mw ad cI cA σ F) [(0, .ref (ad 0)), (1, .int v1)] 200 [] := by
  obtain ⟨B, hml, hown, hts, hK, hA, hr, hlk, hnm⟩ := id X
  intro n
  induction n with
  | zero => intro σ v1 h; exact h.elim
  | succ n ih =>
    intro σ v1 h
    rw [p_M_find_200] at h
    refine jv_aload_n B d_M_find_200 rfl 0 rfl ?_
    refine fg_M_backwards B hts hown hK d_M_find_201 ?_
    refine jv_if_eq (tgt := 262) B d_M_find_204 (by decide) (fun hc => ?_) (fun hc => ?_)
    · replace h := h.1 hc
      exact w_M_find_262 X h
    · replace h := h.2 hc
      refine jv_iload_n B d_M_find_207 rfl 1 rfl ?_
      refine jv_if_lt (tgt := 262) B d_M_find_208 (by decide) (fun hc => ?_) (fun hc => ?_)
      · replace h := h.1 hc
        exact w_M_find_262 X h
      · replace h := h.2 hc
        refine jv_iload_n B d_M_find_211 rfl 1 rfl ?_
        refine jv_iconst (v := 1) B d_M_find_212 (by decide) ?_
        refine jv_iadd B d_M_find_213 ?_
        refine jv_aload_n B d_M_find_214 rfl 0 rfl ?_
        refine fg_M_sectors B hts hown hK d_M_find_215 ?_
        refine jv_icmp_ge (tgt := 262) B d_M_find_218 (by decide) (fun hc => ?_) (fun hc => ?_)
        · replace h := h.1 hc
          exact w_M_find_262 X h
        · replace h := h.2 hc
          refine jv_aload_n B d_M_find_221 rfl 0 rfl ?_
          refine fg_M_states B hts hown hK d_M_find_222 ?_
          refine jv_iload_n B d_M_find_225 rfl 1 rfl ?_
          refine jv_iconst (v := 1) B d_M_find_226 (by decide) ?_
          refine jv_iadd B d_M_find_227 ?_
          refine ld_m_5 B hK h.1 d_M_find_228 ?_
          replace h := h.2
          refine jv_iconst (v := 1) B d_M_find_229 (by decide) ?_
          refine jv_icmp_ne (tgt := 262) B d_M_find_230 (by decide) (fun hc => ?_) (fun hc => ?_)
          · replace h := h.1 hc
            exact w_M_find_262 X h
          · replace h := h.2 hc
            refine jv_iinc (n9 := 1) (v := v1 + 1) (lv' := [(1, .int (v1 + 1)), (0, .ref (ad 0))]) B d_M_find_233 rfl rfl (by decide) rfl ?_
            refine jv_goto (tgt := 200) B d_M_find_236 (by decide) ?_
            refine jv_sub [1, 0] rfl ?_
            exact ih _ _ h
set_option maxRecDepth 100000 in
theorem w_M_find_175 (X : jv_C p s m args meth c b_M_find 2 (some .boolean) y_M_find wb D jClasses (jTy cI cA cL) A) {post : Int32 → jS → Prop} {σ : jS} {v1 : Int32} (h : p_M_find_175 post σ v1) : jv_V p l e (rmk 3 0 0) s m args below meth c D jClasses A 2 0 0 (MQ below (va_Qi post (jv_End D jClasses (jTy cI cA cL) A (fun σ => mw ad cI cA σ F)) A) args s 0 0 A) (mw ad cI cA σ F) [(1, .int v1)] 175 [] := by
  obtain ⟨B, hml, hown, hts, hK, hA, hr, hlk, hnm⟩ := id X
  unfold p_M_find_175 at h
  refine jv_iload_n B d_M_find_175 rfl 0 rfl ?_
  refine jv_if_lt (tgt := 183) B d_M_find_176 (by decide) (fun hc => ?_) (fun hc => ?_)
  · replace h := h.1 hc
    refine jv_iconst (v := 0) B d_M_find_183 (by decide) ?_
    exact jv_iret B hr (nz h.1) hlk hK _ rfl h.2 d_M_find_184
  · replace h := h.2 hc
    refine jv_iconst (v := 1) B d_M_find_179 (by decide) ?_
    refine jv_goto (tgt := 184) B d_M_find_180 (by decide) ?_
    exact jv_iret B hr (nz h.1) hlk hK _ rfl h.2 d_M_find_184
set_option maxRecDepth 100000 in
theorem w_M_find_126 (X : jv_C p s m args meth c b_M_find 2 (some .boolean) y_M_find wb D jClasses (jTy cI cA cL) A) {post : Int32 → jS → Prop} : ∀ (n : Nat), ∀ (σ : jS) (v1 : Int32), p_M_find_126 post n σ v1 → jv_V p l e (rmk 3 0 0) s m args below meth c D jClasses A 2 0 0 (MQ below (va_Qi post (jv_End D jClasses (jTy cI cA cL) A (fun σ => mw ad cI cA σ F)) A) args s 0 0 A) (mw ad cI cA σ F) [(0, .ref (ad 0)), (1, .int v1)] 126 [] := by
  obtain ⟨B, hml, hown, hts, hK, hA, hr, hlk, hnm⟩ := id X
  intro n
  induction n with
  | zero => intro σ v1 h; exact h.elim
  | succ n ih =>
    intro σ v1 h
    rw [p_M_find_126] at h
    refine jv_iload_n B d_M_find_126 rfl 1 rfl ?_
    refine jv_if_lt (tgt := 175) B d_M_find_127 (by decide) (fun hc => ?_) (fun hc => ?_)
    · replace h := h.1 hc
      refine jv_sub [1] rfl ?_
      exact w_M_find_175 X h
    · replace h := h.2 hc
      refine jv_aload_n B d_M_find_130 rfl 0 rfl ?_
      refine fg_M_from B hts hown hK d_M_find_131 ?_
      refine jv_if_le (tgt := 175) B d_M_find_134 (by decide) (fun hc => ?_) (fun hc => ?_)
      · replace h := h.1 hc
        refine jv_sub [1] rfl ?_
        exact w_M_find_175 X h
      · replace h := h.2 hc
        refine jv_aload_n B d_M_find_137 rfl 0 rfl ?_
        refine fg_M_from B hts hown hK d_M_find_138 ?_
        refine jv_iload_n B d_M_find_141 rfl 1 rfl ?_
        refine jv_bipush (v := 7) B d_M_find_142 (by decide) ?_
        refine jv_isub B d_M_find_144 ?_
        refine jv_icmp_le (tgt := 175) B d_M_find_145 (by decide) (fun hc => ?_) (fun hc => ?_)
        · replace h := h.1 hc
          refine jv_sub [1] rfl ?_
          exact w_M_find_175 X h
        · replace h := h.2 hc
          refine jv_aload_n B d_M_find_148 rfl 0 rfl ?_
          refine fg_M_states B hts hown hK d_M_find_149 ?_
          refine jv_aload_n B d_M_find_152 rfl 0 rfl ?_
          refine fg_M_from B hts hown hK d_M_find_153 ?_
          refine jv_iconst (v := 1) B d_M_find_156 (by decide) ?_
          refine jv_isub B d_M_find_157 ?_
          refine ld_m_5 B hK h.1 d_M_find_158 ?_
          replace h := h.2
          refine jv_if_ne (tgt := 175) B d_M_find_159 (by decide) (fun hc => ?_) (fun hc => ?_)
          · replace h := h.1 hc
            refine jv_sub [1] rfl ?_
            exact w_M_find_175 X h
          · replace h := h.2 hc
            refine jv_aload_n B d_M_find_162 rfl 0 rfl ?_
            refine jv_dup B d_M_find_163 rfl ?_
            refine fg_M_from B hts hown hK d_M_find_164 ?_
            refine jv_iconst (v := 1) B d_M_find_167 (by decide) ?_
            refine jv_isub B d_M_find_168 ?_
            refine fs_M_from B hts hown hK d_M_find_169 ?_
            refine jv_goto (tgt := 126) B d_M_find_172 (by decide) ?_
            exact ih _ _ h
set_option maxRecDepth 100000 in
theorem w_M_find_0 (X : jv_C p s m args meth c b_M_find 2 (some .boolean) y_M_find wb D jClasses (jTy cI cA cL) A) {post : Int32 → jS → Prop} {σ : jS} (h : p_M_find σ post) : jv_V p l e (rmk 3 0 0) s m args below meth c D jClasses A 2 0 0 (MQ below (va_Qi post (jv_End D jClasses (jTy cI cA cL) A (fun σ => mw ad cI cA σ F)) A) args s 0 0 A) (mw ad cI cA σ F) [(0, .ref (ad 0))] 0 [] := by
  obtain ⟨B, hml, hown, hts, hK, hA, hr, hlk, hnm⟩ := id X
  unfold p_M_find at h
  refine jv_aload_n B d_M_find_0 rfl 0 rfl ?_
  refine fg_M_phase B hts hown hK d_M_find_1 ?_
  refine jv_if_eq (tgt := 15) B d_M_find_4 (by decide) (fun hc => ?_) (fun hc => ?_)
  · replace h := h.1 hc
    exact w_M_find_15 X h
  · replace h := h.2 hc
    refine jv_aload_n B d_M_find_7 rfl 0 rfl ?_
    refine fg_M_phase B hts hown hK d_M_find_8 ?_
    refine jv_iconst (v := 2) B d_M_find_11 (by decide) ?_
    refine jv_icmp_ne (tgt := 96) B d_M_find_12 (by decide) (fun hc => ?_) (fun hc => ?_)
    · replace h := h.1 hc
      refine jv_aload_n B d_M_find_96 rfl 0 rfl ?_
      refine fg_M_phase B hts hown hK d_M_find_97 ?_
      refine jv_iconst (v := 1) B d_M_find_100 (by decide) ?_
      refine jv_icmp_ne (tgt := 185) B d_M_find_101 (by decide) (fun hc => ?_) (fun hc => ?_)
      · replace h := h.1 hc
        refine jv_aload_n B d_M_find_185 rfl 0 rfl ?_
        refine fg_M_phase B hts hown hK d_M_find_186 ?_
        refine jv_iconst (v := 3) B d_M_find_189 (by decide) ?_
        refine jv_icmp_ne (tgt := 239) B d_M_find_190 (by decide) (fun hc => ?_) (fun hc => ?_)
        · replace h := h.1 hc
          refine jv_aload_n B d_M_find_239 rfl 0 rfl ?_
          refine fg_M_phase B hts hown hK d_M_find_240 ?_
          refine jv_iconst (v := 4) B d_M_find_243 (by decide) ?_
          refine jv_icmp_ne (tgt := 257) B d_M_find_244 (by decide) (fun hc => ?_) (fun hc => ?_)
          · replace h := h.1 hc
            refine jv_aload_n B d_M_find_257 rfl 0 rfl ?_
            refine jv_civ (As := []) B hml hown hts hK hA (c_M_findBad (ad := ad) (cI := cI) (cA := cA) (cL := cL) (F := F) h) (cwV 0 hts g_M_87 rfl rfl rfl hd_M_findBad ⟨Nat.le_of_ble_eq_true rfl, Nat.le_of_ble_eq_true rfl⟩) 0 5 rfl rfl rfl rfl (Nat.le_of_ble_eq_true rfl) d_M_find_258 ⟨Nat.le_of_ble_eq_true rfl, Nat.le_of_ble_eq_true rfl⟩ rfl (fun r4 σ3 h => ?_)
            refine jv_istore_n (lv' := [(1, .int r4), (0, .ref (ad 0))]) B d_M_find_261 rfl (by decide) rfl ?_
            refine jv_sub [1, 0] rfl ?_
            exact w_M_find_262 X h
          · replace h := h.2 hc
            refine jv_aload_n B d_M_find_247 rfl 0 rfl ?_
            refine jv_iconst (v := 2) B d_M_find_248 (by decide) ?_
            refine jv_iconst (v := 0) B d_M_find_249 (by decide) ?_
            refine jv_civ (As := [.int 2, .int 0]) B hml hown hts hK hA (c_M_firstIn (ad := ad) (cI := cI) (cA := cA) (cL := cL) (F := F) h) (cwV 2 hts g_M_80 rfl rfl rfl hd_M_firstIn ⟨Nat.le_of_ble_eq_true rfl, Nat.le_of_ble_eq_true rfl⟩) 0 5 rfl rfl rfl rfl (Nat.le_of_ble_eq_true rfl) d_M_find_250 ⟨Nat.le_of_ble_eq_true rfl, Nat.le_of_ble_eq_true rfl⟩ rfl (fun r6 σ5 h => ?_)
            refine jv_istore_n (lv' := [(1, .int r6), (0, .ref (ad 0))]) B d_M_find_253 rfl (by decide) rfl ?_
            refine jv_goto (tgt := 262) B d_M_find_254 (by decide) ?_
            refine jv_sub [1, 0] rfl ?_
            exact w_M_find_262 X h
        · replace h := h.2 hc
          refine jv_aload_n B d_M_find_193 rfl 0 rfl ?_
          refine jv_iconst (v := 1) B d_M_find_194 (by decide) ?_
          refine jv_iconst (v := 0) B d_M_find_195 (by decide) ?_
          refine jv_civ (As := [.int 1, .int 0]) B hml hown hts hK hA (c_M_firstIn (ad := ad) (cI := cI) (cA := cA) (cL := cL) (F := F) h) (cwV 2 hts g_M_80 rfl rfl rfl hd_M_firstIn ⟨Nat.le_of_ble_eq_true rfl, Nat.le_of_ble_eq_true rfl⟩) 0 5 rfl rfl rfl rfl (Nat.le_of_ble_eq_true rfl) d_M_find_196 ⟨Nat.le_of_ble_eq_true rfl, Nat.le_of_ble_eq_true rfl⟩ rfl (fun r8 σ7 h => ?_)
          refine jv_istore_n (lv' := [(1, .int r8), (0, .ref (ad 0))]) B d_M_find_199 rfl (by decide) rfl ?_
          refine jv_sub [1, 0] rfl ?_
          obtain ⟨n9, h⟩ := h
          exact w_M_find_200 X n9 _ _ h
      · replace h := h.2 hc
        refine jv_aload_n B d_M_find_104 rfl 0 rfl ?_
        refine jv_iconst (v := 0) B d_M_find_105 (by decide) ?_
        refine jv_aload_n B d_M_find_106 rfl 0 rfl ?_
        refine fg_M_position B hts hown hK d_M_find_107 ?_
        refine jv_civ (As := [.int 0, .int (σ 0 11)]) B hml hown hts hK hA (c_M_lastIn (ad := ad) (cI := cI) (cA := cA) (cL := cL) (F := F) h) (cwV 2 hts g_M_84 rfl rfl rfl hd_M_lastIn ⟨Nat.le_of_ble_eq_true rfl, Nat.le_of_ble_eq_true rfl⟩) 0 5 rfl rfl rfl rfl (Nat.le_of_ble_eq_true rfl) d_M_find_110 ⟨Nat.le_of_ble_eq_true rfl, Nat.le_of_ble_eq_true rfl⟩ rfl (fun r10 σ9 h => ?_)
        refine jv_istore_n (lv' := [(1, .int r10), (0, .ref (ad 0))]) B d_M_find_113 rfl (by decide) rfl ?_
        refine jv_aload_n B d_M_find_114 rfl 1 rfl ?_
        refine jv_iload_n B d_M_find_115 rfl 0 rfl ?_
        refine fs_M_from B hts hown hK d_M_find_116 ?_
        refine jv_aload_n B d_M_find_119 rfl 1 rfl ?_
        refine jv_iload_n B d_M_find_120 rfl 0 rfl ?_
        refine jv_iconst (v := 1) B d_M_find_121 (by decide) ?_
        refine jv_iadd B d_M_find_122 ?_
        refine fs_M_to B hts hown hK d_M_find_123 ?_
        refine jv_sub [1, 0] rfl ?_
        obtain ⟨n9, h⟩ := h
        exact w_M_find_126 X n9 _ _ h
    · replace h := h.2 hc
      exact w_M_find_15 X h
theorem c_M_find {l : Launch} {D : va_G} {A : Nat → Prop} {ad : Nat → Nat} {cI cA cL : ClassId} {F : va_W} {σ : jS} {post : Int32 → jS → Prop} (h : p_M_find σ post) : Met l y_M_find (Cond.code y_M_find b_M_find 2 (some .boolean) :: wb) (rmk 3 0 0) (jv_Pre D jClasses (jTy cI cA cL) A (mw ad cI cA σ F) [.ref (ad 0)]) (va_Qi post (jv_End D jClasses (jTy cI cA cL) A (fun σ => mw ad cI cA σ F)) A) 0 0 A :=
  jv_ofB (by decide) (Nat.le_of_ble_eq_true rfl) (fun p e s m below meth c X => w_M_find_0 X h)
end JM

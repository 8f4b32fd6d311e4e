section JM
variable {p : Program} {l : Launch} {e : Env} {s : State} {m : MethodId} {args : Array Value} {below : List Frame} {meth : Method} {c : Code} {D : va_G} {A : Nat → Prop} {ad : Nat → Nat} {cI cA cL : ClassId} {F : va_W}
set_option maxRecDepth 100000 in
theorem w_M_mark_5 (X : jv_C p s m args meth c b_M_mark 3 none y_M_mark wb D jClasses (jTy cI cA cL) A) {post : jS → Prop} {v1 : Int32} : ∀ (n : Nat), ∀ (σ : jS) (v2 : Int32), p_M_mark_5 post v1 n σ v2 → jv_V p l e (rmk 1 0 0) s m args below meth c D jClasses A 3 0 0 (MQ below (va_Qv post (jv_End D jClasses (jTy cI cA cL) A (fun σ => mw ad cI cA σ F)) A) args s 0 0 A) (mw ad cI cA σ F) [(0, .ref (ad 0)), (1, .int v1), (2, .int v2)] 5 [] := by
  obtain ⟨B, hml, hown, hts, hK, hA, hr, hlk, hnm⟩ := id X
  intro n
  induction n with
  | zero => intro σ v2 h; exact h.elim
  | succ n ih =>
    intro σ v2 h
    rw [p_M_mark_5] at h
    refine jv_iload_n B d_M_mark_5 rfl 2 rfl ?_
    refine jv_aload_n B d_M_mark_6 rfl 0 rfl ?_
    refine fg_M_to B hts hown hK d_M_mark_7 ?_
    refine jv_icmp_ge (tgt := 26) B d_M_mark_10 (by decide) (fun hc => ?_) (fun hc => ?_)
    · replace h := h.1 hc
      exact jv_vret B hr hlk hK _ rfl h d_M_mark_26
    · replace h := h.2 hc
      refine jv_aload_n B d_M_mark_13 rfl 0 rfl ?_
      refine fg_M_states B hts hown hK d_M_mark_14 ?_
      refine jv_iload_n B d_M_mark_17 rfl 2 rfl ?_
      refine jv_iload_n B d_M_mark_18 rfl 1 rfl ?_
      refine sd_m_5 B hK h.1 d_M_mark_19 ?_
      replace h := h.2
      refine jv_iinc (n9 := 2) (v := v2 + 1) (lv' := [(2, .int (v2 + 1)), (0, .ref (ad 0)), (1, .int v1)]) B d_M_mark_20 rfl rfl (by decide) rfl ?_
      refine jv_goto (tgt := 5) B d_M_mark_23 (by decide) ?_
      refine jv_sub [1, 2, 0] rfl ?_
      exact ih _ _ h
set_option maxRecDepth 100000 in
theorem w_M_mark_0 (X : jv_C p s m args meth c b_M_mark 3 none y_M_mark wb D jClasses (jTy cI cA cL) A) {post : jS → Prop} {σ : jS} {v1 : Int32} (h : p_M_mark σ v1 post) : jv_V p l e (rmk 1 0 0) s m args below meth c D jClasses A 3 0 0 (MQ below (va_Qv post (jv_End D jClasses (jTy cI cA cL) A (fun σ => mw ad cI cA σ F)) A) args s 0 0 A) (mw ad cI cA σ F) [(0, .ref (ad 0)), (1, .int v1)] 0 [] := by
  obtain ⟨B, hml, hown, hts, hK, hA, hr, hlk, hnm⟩ := id X
  unfold p_M_mark at h
  refine jv_aload_n B d_M_mark_0 rfl 0 rfl ?_
  refine fg_M_from B hts hown hK d_M_mark_1 ?_
  refine jv_istore_n (lv' := [(2, .int (σ 0 15)), (0, .ref (ad 0)), (1, .int v1)]) B d_M_mark_4 rfl (by decide) rfl ?_
  refine jv_sub [1, 2, 0] rfl ?_
  obtain ⟨n9, h⟩ := h
  exact w_M_mark_5 X n9 _ _ h
theorem c_M_mark {l : Launch} {D : va_G} {A : Nat → Prop} {ad : Nat → Nat} {cI cA cL : ClassId} {F : va_W} {σ : jS} {v1 : Int32} {post : jS → Prop} (h : p_M_mark σ v1 post) : Met l y_M_mark (Cond.code y_M_mark b_M_mark 3 none :: wb) (rmk 1 0 0) (jv_Pre D jClasses (jTy cI cA cL) A (mw ad cI cA σ F) [.ref (ad 0), .int v1]) (va_Qv post (jv_End D jClasses (jTy cI cA cL) A (fun σ => mw ad cI cA σ F)) A) 0 0 A :=
  jv_ofB (by decide) (Nat.le_of_ble_eq_true rfl) (fun p e s m below meth c X => w_M_mark_0 X h)
set_option maxRecDepth 100000 in
theorem w_M_trimmed_129 (X : jv_C p s m args meth c b_M_trimmed 4 none y_M_trimmed wb D jClasses (jTy cI cA cL) A) {post : jS → Prop} {v1 : Int32} {σ : jS} {v2 : Int32} (h : p_M_trimmed_129 post v1 σ v2) : jv_V p l e (rmk 1 0 0) s m args below meth c D jClasses A 4 0 0 (MQ below (va_Qv post (jv_End D jClasses (jTy cI cA cL) A (fun σ => mw ad cI cA σ F)) A) args s 0 0 A) (mw ad cI cA σ F) [(0, .ref (ad 0)), (1, .int v1), (2, .int v2)] 129 [] := by
  obtain ⟨B, hml, hown, hts, hK, hA, hr, hlk, hnm⟩ := id X
  unfold p_M_trimmed_129 at h
  refine jv_aload_n B d_M_trimmed_129 rfl 0 rfl ?_
  refine jv_iload_n B d_M_trimmed_130 rfl 1 rfl ?_
  refine jv_if_eq (tgt := 142) B d_M_trimmed_131 (by decide) (fun hc => ?_) (fun hc => ?_)
  · replace h := h.1 hc
    refine jv_iconst (v := 0) B d_M_trimmed_142 (by decide) ?_
    refine fs_M_backwards B hts hown hK h.1 d_M_trimmed_143 ?_
    replace h := h.2
    exact jv_vret B hr hlk hK _ rfl h d_M_trimmed_146
  · replace h := h.2 hc
    refine jv_iload_n B d_M_trimmed_134 rfl 2 rfl ?_
    refine jv_if_eq (tgt := 142) B d_M_trimmed_135 (by decide) (fun hc => ?_) (fun hc => ?_)
    · replace h := h.1 hc
      refine jv_iconst (v := 0) B d_M_trimmed_142 (by decide) ?_
      refine fs_M_backwards B hts hown hK h.1 d_M_trimmed_143 ?_
      replace h := h.2
      exact jv_vret B hr hlk hK _ rfl h d_M_trimmed_146
    · replace h := h.2 hc
      refine jv_iconst (v := 1) B d_M_trimmed_138 (by decide) ?_
      refine jv_goto (tgt := 143) B d_M_trimmed_139 (by decide) ?_
      refine fs_M_backwards B hts hown hK h.1 d_M_trimmed_143 ?_
      replace h := h.2
      exact jv_vret B hr hlk hK _ rfl h d_M_trimmed_146
set_option maxRecDepth 100000 in
theorem w_M_trimmed_98 (X : jv_C p s m args meth c b_M_trimmed 4 none y_M_trimmed wb D jClasses (jTy cI cA cL) A) {post : jS → Prop} {v1 : Int32} : ∀ (n : Nat), ∀ (σ : jS) (v2 v3 : Int32), p_M_trimmed_98 post v1 n σ v2 v3 → jv_V p l e (rmk 1 0 0) s m args below meth c D jClasses A 4 0 0 (MQ below (va_Qv post (jv_End D jClasses (jTy cI cA cL) A (fun σ => mw ad cI cA σ F)) A) args s 0 0 A) (mw ad cI cA σ F) [(0, .ref (ad 0)), (1, .int v1), (2, .int v2), (3, .int v3)] 98 [] := by
  obtain ⟨B, hml, hown, hts, hK, hA, hr, hlk, hnm⟩ := id X
  intro n
  induction n with
  | zero => intro σ v2 v3 h; exact h.elim
  | succ n ih =>
    intro σ v2 v3 h
    rw [p_M_trimmed_98] at h
    refine jv_iload_n B d_M_trimmed_98 rfl 1 rfl ?_
    refine jv_if_ne (tgt := 129) B d_M_trimmed_99 (by decide) (fun hc => ?_) (fun hc => ?_)
    · replace h := h.1 hc
      refine jv_sub [0, 1, 2] rfl ?_
      exact w_M_trimmed_129 X h
    · replace h := h.2 hc
      refine jv_iload_n B d_M_trimmed_102 rfl 3 rfl ?_
      refine jv_if_lt (tgt := 129) B d_M_trimmed_103 (by decide) (fun hc => ?_) (fun hc => ?_)
      · replace h := h.1 hc
        refine jv_sub [0, 1, 2] rfl ?_
        exact w_M_trimmed_129 X h
      · replace h := h.2 hc
        refine jv_aload_n B d_M_trimmed_106 rfl 0 rfl ?_
        refine fg_M_states B hts hown hK d_M_trimmed_107 ?_
        refine jv_iload_n B d_M_trimmed_110 rfl 3 rfl ?_
        refine ld_m_5 B hK h.1 d_M_trimmed_111 ?_
        replace h := h.2
        refine jv_iconst (v := 1) B d_M_trimmed_112 (by decide) ?_
        refine jv_icmp_ne (tgt := 129) B d_M_trimmed_113 (by decide) (fun hc => ?_) (fun hc => ?_)
        · replace h := h.1 hc
          refine jv_sub [0, 1, 2] rfl ?_
          exact w_M_trimmed_129 X h
        · replace h := h.2 hc
          refine jv_aload_n B d_M_trimmed_116 rfl 0 rfl ?_
          refine fg_M_states B hts hown hK d_M_trimmed_117 ?_
          refine jv_iload_n B d_M_trimmed_120 rfl 3 rfl ?_
          refine jv_iconst (v := 2) B d_M_trimmed_121 (by decide) ?_
          refine sd_m_5 B hK h.1 d_M_trimmed_122 ?_
          replace h := h.2
          refine jv_iinc (n9 := 3) (v := v3 + (-1)) (lv' := [(3, .int (v3 + (-1))), (0, .ref (ad 0)), (1, .int v1), (2, .int v2)]) B d_M_trimmed_123 rfl rfl (by decide) rfl ?_
          refine jv_goto (tgt := 98) B d_M_trimmed_126 (by decide) ?_
          refine jv_sub [1, 2, 3, 0] rfl ?_
          exact ih _ _ _ h
set_option maxRecDepth 100000 in
theorem w_M_trimmed_90 (X : jv_C p s m args meth c b_M_trimmed 4 none y_M_trimmed wb D jClasses (jTy cI cA cL) A) {post : jS → Prop} {v1 : Int32} {σ : jS} {y0 : Int32} (h : p_M_trimmed_90 post v1 σ y0) : jv_V p l e (rmk 1 0 0) s m args below meth c D jClasses A 4 0 0 (MQ below (va_Qv post (jv_End D jClasses (jTy cI cA cL) A (fun σ => mw ad cI cA σ F)) A) args s 0 0 A) (mw ad cI cA σ F) [(0, .ref (ad 0)), (1, .int v1)] 90 [.int y0] := by
  obtain ⟨B, hml, hown, hts, hK, hA, hr, hlk, hnm⟩ := id X
  unfold p_M_trimmed_90 at h
  refine jv_istore_n (lv' := [(2, .int y0), (0, .ref (ad 0)), (1, .int v1)]) B d_M_trimmed_90 rfl (by decide) rfl ?_
  refine jv_aload_n B d_M_trimmed_91 rfl 1 rfl ?_
  refine fg_M_from B hts hown hK d_M_trimmed_92 ?_
  refine jv_iconst (v := 1) B d_M_trimmed_95 (by decide) ?_
  refine jv_isub B d_M_trimmed_96 ?_
  refine jv_istore_n (lv' := [(3, .int ((σ 0 15) - 1)), (2, .int y0), (0, .ref (ad 0)), (1, .int v1)]) B d_M_trimmed_97 rfl (by decide) rfl ?_
  refine jv_sub [2, 3, 1, 0] rfl ?_
  obtain ⟨n9, h⟩ := h
  exact w_M_trimmed_98 X n9 _ _ _ h
set_option maxRecDepth 100000 in
theorem w_M_trimmed_89 (X : jv_C p s m args meth c b_M_trimmed 4 none y_M_trimmed wb D jClasses (jTy cI cA cL) A) {post : jS → Prop} {v1 : Int32} {σ : jS} (h : p_M_trimmed_89 post v1 σ) : jv_V p l e (rmk 1 0 0) s m args below meth c D jClasses A 4 0 0 (MQ below (va_Qv post (jv_End D jClasses (jTy cI cA cL) A (fun σ => mw ad cI cA σ F)) A) args s 0 0 A) (mw ad cI cA σ F) [(0, .ref (ad 0)), (1, .int v1)] 89 [] := by
  obtain ⟨B, hml, hown, hts, hK, hA, hr, hlk, hnm⟩ := id X
  unfold p_M_trimmed_89 at h
  refine jv_iconst (v := 0) B d_M_trimmed_89 (by decide) ?_
  exact w_M_trimmed_90 X h
set_option maxRecDepth 100000 in
theorem w_M_trimmed_14 (X : jv_C p s m args meth c b_M_trimmed 4 none y_M_trimmed wb D jClasses (jTy cI cA cL) A) {post : jS → Prop} {v1 : Int32} {σ : jS} (h : p_M_trimmed_14 post v1 σ) : jv_V p l e (rmk 1 0 0) s m args below meth c D jClasses A 4 0 0 (MQ below (va_Qv post (jv_End D jClasses (jTy cI cA cL) A (fun σ => mw ad cI cA σ F)) A) args s 0 0 A) (mw ad cI cA σ F) [(0, .ref (ad 0)), (1, .int v1)] 14 [] := by
  obtain ⟨B, hml, hown, hts, hK, hA, hr, hlk, hnm⟩ := id X
  unfold p_M_trimmed_14 at h
  refine jv_aload_n B d_M_trimmed_14 rfl 0 rfl ?_
  refine fg_M_backwards B hts hown hK d_M_trimmed_15 ?_
  refine jv_if_ne (tgt := 63) B d_M_trimmed_18 (by decide) (fun hc => ?_) (fun hc => ?_)
  · replace h := h.1 hc
    refine jv_aload_n B d_M_trimmed_63 rfl 0 rfl ?_
    refine fg_M_from B hts hown hK d_M_trimmed_64 ?_
    refine jv_if_le (tgt := 89) B d_M_trimmed_67 (by decide) (fun hc => ?_) (fun hc => ?_)
    · replace h := h.1 hc
      exact w_M_trimmed_89 X h
    · replace h := h.2 hc
      refine jv_aload_n B d_M_trimmed_70 rfl 0 rfl ?_
      refine fg_M_states B hts hown hK d_M_trimmed_71 ?_
      refine jv_aload_n B d_M_trimmed_74 rfl 0 rfl ?_
      refine fg_M_from B hts hown hK d_M_trimmed_75 ?_
      refine jv_iconst (v := 1) B d_M_trimmed_78 (by decide) ?_
      refine jv_isub B d_M_trimmed_79 ?_
      refine ld_m_5 B hK h.1 d_M_trimmed_80 ?_
      replace h := h.2
      refine jv_iconst (v := 1) B d_M_trimmed_81 (by decide) ?_
      refine jv_icmp_ne (tgt := 89) B d_M_trimmed_82 (by decide) (fun hc => ?_) (fun hc => ?_)
      · replace h := h.1 hc
        exact w_M_trimmed_89 X h
      · replace h := h.2 hc
        refine jv_iconst (v := 1) B d_M_trimmed_85 (by decide) ?_
        refine jv_goto (tgt := 90) B d_M_trimmed_86 (by decide) ?_
        exact w_M_trimmed_90 X h
  · replace h := h.2 hc
    refine jv_aload_n B d_M_trimmed_21 rfl 0 rfl ?_
    refine jv_iload_n B d_M_trimmed_22 rfl 1 rfl ?_
    refine jv_if_ne (tgt := 58) B d_M_trimmed_23 (by decide) (fun hc => ?_) (fun hc => ?_)
    · replace h := h.1 hc
      refine jv_iconst (v := 0) B d_M_trimmed_58 (by decide) ?_
      refine fs_M_backwards B hts hown hK h.1 d_M_trimmed_59 ?_
      replace h := h.2
      exact jv_vret B hr hlk hK _ rfl h d_M_trimmed_62
    · replace h := h.2 hc
      refine jv_aload_n B d_M_trimmed_26 rfl 0 rfl ?_
      refine fg_M_from B hts hown hK d_M_trimmed_27 ?_
      refine jv_iconst (v := 1) B d_M_trimmed_30 (by decide) ?_
      refine jv_iadd B d_M_trimmed_31 ?_
      refine jv_aload_n B d_M_trimmed_32 rfl 0 rfl ?_
      refine fg_M_sectors B hts hown hK d_M_trimmed_33 ?_
      refine jv_icmp_ge (tgt := 58) B d_M_trimmed_36 (by decide) (fun hc => ?_) (fun hc => ?_)
      · replace h := h.1 hc
        refine jv_iconst (v := 0) B d_M_trimmed_58 (by decide) ?_
        refine fs_M_backwards B hts hown hK h.1 d_M_trimmed_59 ?_
        replace h := h.2
        exact jv_vret B hr hlk hK _ rfl h d_M_trimmed_62
      · replace h := h.2 hc
        refine jv_aload_n B d_M_trimmed_39 rfl 0 rfl ?_
        refine fg_M_states B hts hown hK d_M_trimmed_40 ?_
        refine jv_aload_n B d_M_trimmed_43 rfl 0 rfl ?_
        refine fg_M_from B hts hown hK d_M_trimmed_44 ?_
        refine jv_iconst (v := 1) B d_M_trimmed_47 (by decide) ?_
        refine jv_iadd B d_M_trimmed_48 ?_
        refine ld_m_5 B hK h.1 d_M_trimmed_49 ?_
        replace h := h.2
        refine jv_iconst (v := 1) B d_M_trimmed_50 (by decide) ?_
        refine jv_icmp_ne (tgt := 58) B d_M_trimmed_51 (by decide) (fun hc => ?_) (fun hc => ?_)
        · replace h := h.1 hc
          refine jv_iconst (v := 0) B d_M_trimmed_58 (by decide) ?_
          refine fs_M_backwards B hts hown hK h.1 d_M_trimmed_59 ?_
          replace h := h.2
          exact jv_vret B hr hlk hK _ rfl h d_M_trimmed_62
        · replace h := h.2 hc
          refine jv_iconst (v := 1) B d_M_trimmed_54 (by decide) ?_
          refine jv_goto (tgt := 59) B d_M_trimmed_55 (by decide) ?_
          refine fs_M_backwards B hts hown hK h.1 d_M_trimmed_59 ?_
          replace h := h.2
          exact jv_vret B hr hlk hK _ rfl h d_M_trimmed_62
set_option maxRecDepth 100000 in
theorem w_M_trimmed_0 (X : jv_C p s m args meth c b_M_trimmed 4 none y_M_trimmed wb D jClasses (jTy cI cA cL) A) {post : jS → Prop} {σ : jS} {v1 : Int32} (h : p_M_trimmed σ v1 post) : jv_V p l e (rmk 1 0 0) s m args below meth c D jClasses A 4 0 0 (MQ below (va_Qv post (jv_End D jClasses (jTy cI cA cL) A (fun σ => mw ad cI cA σ F)) A) args s 0 0 A) (mw ad cI cA σ F) [(0, .ref (ad 0)), (1, .int v1)] 0 [] := by
  obtain ⟨B, hml, hown, hts, hK, hA, hr, hlk, hnm⟩ := id X
  unfold p_M_trimmed at h
  refine jv_iload_n B d_M_trimmed_0 rfl 1 rfl ?_
  refine jv_if_ne (tgt := 14) B d_M_trimmed_1 (by decide) (fun hc => ?_) (fun hc => ?_)
  · replace h := h.1 hc
    exact w_M_trimmed_14 X h
  · replace h := h.2 hc
    refine jv_aload_n B d_M_trimmed_4 rfl 0 rfl ?_
    refine fg_M_states B hts hown hK d_M_trimmed_5 ?_
    refine jv_aload_n B d_M_trimmed_8 rfl 0 rfl ?_
    refine fg_M_from B hts hown hK d_M_trimmed_9 ?_
    refine jv_iconst (v := 3) B d_M_trimmed_12 (by decide) ?_
    refine sd_m_5 B hK h.1 d_M_trimmed_13 ?_
    replace h := h.2
    exact w_M_trimmed_14 X h
theorem c_M_trimmed {l : Launch} {D : va_G} {A : Nat → Prop} {ad : Nat → Nat} {cI cA cL : ClassId} {F : va_W} {σ : jS} {v1 : Int32} {post : jS → Prop} (h : p_M_trimmed σ v1 post) : Met l y_M_trimmed (Cond.code y_M_trimmed b_M_trimmed 4 none :: wb) (rmk 1 0 0) (jv_Pre D jClasses (jTy cI cA cL) A (mw ad cI cA σ F) [.ref (ad 0), .int v1]) (va_Qv post (jv_End D jClasses (jTy cI cA cL) A (fun σ => mw ad cI cA σ F)) A) 0 0 A :=
  jv_ofB (by decide) (Nat.le_of_ble_eq_true rfl) (fun p e s m below meth c X => w_M_trimmed_0 X h)
set_option maxRecDepth 100000 in
theorem w_M_work_165 (X : jv_C p s m args meth c b_M_work 2 none y_M_work wb D jClasses (jTy cI cA cL) A) {post : jS → Prop} {σ : jS} (h : p_M_work_165 post σ) : jv_V p l e (rmk 2 0 0) s m args below meth c D jClasses A 2 0 0 (MQ below (va_Qv post (jv_End D jClasses (jTy cI cA cL) A (fun σ => mw ad cI cA σ F)) A) args s 0 0 A) (mw ad cI cA σ F) [(0, .ref (ad 0))] 165 [] := by
  obtain ⟨B, hml, hown, hts, hK, hA, hr, hlk, hnm⟩ := id X
  unfold p_M_work_165 at h
  refine jv_aload_n B d_M_work_165 rfl 0 rfl ?_
  refine fg_M_phase B hts hown hK d_M_work_166 ?_
  refine jv_iconst (v := 5) B d_M_work_169 (by decide) ?_
  refine jv_icmp_ne (tgt := 197) B d_M_work_170 (by decide) (fun hc => ?_) (fun hc => ?_)
  · replace h := h.1 hc
    exact jv_vret B hr hlk hK _ rfl h d_M_work_197
  · replace h := h.2 hc
    refine jv_aload_n B d_M_work_173 rfl 0 rfl ?_
    refine jv_aload_n B d_M_work_174 rfl 0 rfl ?_
    refine fg_M_round B hts hown hK d_M_work_175 ?_
    refine jv_iconst (v := 2) B d_M_work_178 (by decide) ?_
    refine jv_irem B d_M_work_179 (by decide) ?_
    refine jv_if_ne (tgt := 190) B d_M_work_180 (by decide) (fun hc => ?_) (fun hc => ?_)
    · replace h := h.1 hc
      refine jv_aload_n B d_M_work_190 rfl 0 rfl ?_
      refine fg_M_from B hts hown hK d_M_work_191 ?_
      refine fs_M_position B hts hown hK d_M_work_194 ?_
      exact jv_vret B hr hlk hK _ rfl h d_M_work_197
    · replace h := h.2 hc
      refine jv_aload_n B d_M_work_183 rfl 0 rfl ?_
      refine fg_M_to B hts hown hK d_M_work_184 ?_
      refine jv_goto (tgt := 194) B d_M_work_187 (by decide) ?_
      refine fs_M_position B hts hown hK d_M_work_194 ?_
      exact jv_vret B hr hlk hK _ rfl h d_M_work_197
set_option maxRecDepth 100000 in
theorem w_M_work_148 (X : jv_C p s m args meth c b_M_work 2 none y_M_work wb D jClasses (jTy cI cA cL) A) {post : jS → Prop} {σ : jS} {v1 : Int32} (h : p_M_work_148 post σ v1) : jv_V p l e (rmk 2 0 0) s m args below meth c D jClasses A 2 0 0 (MQ below (va_Qv post (jv_End D jClasses (jTy cI cA cL) A (fun σ => mw ad cI cA σ F)) A) args s 0 0 A) (mw ad cI cA σ F) [(0, .ref (ad 0)), (1, .int v1)] 148 [] := by
  obtain ⟨B, hml, hown, hts, hK, hA, hr, hlk, hnm⟩ := id X
  unfold p_M_work_148 at h
  refine jv_aload_n B d_M_work_148 rfl 0 rfl ?_
  refine fg_M_phase B hts hown hK d_M_work_149 ?_
  refine jv_iconst (v := 4) B d_M_work_152 (by decide) ?_
  refine jv_icmp_ne (tgt := 165) B d_M_work_153 (by decide) (fun hc => ?_) (fun hc => ?_)
  · replace h := h.1 hc
    refine jv_sub [0] rfl ?_
    exact w_M_work_165 X h
  · replace h := h.2 hc
    refine jv_iload_n B d_M_work_156 rfl 1 rfl ?_
    refine jv_if_ne (tgt := 165) B d_M_work_157 (by decide) (fun hc => ?_) (fun hc => ?_)
    · replace h := h.1 hc
      refine jv_sub [0] rfl ?_
      exact w_M_work_165 X h
    · replace h := h.2 hc
      refine jv_aload_n B d_M_work_160 rfl 0 rfl ?_
      refine jv_iconst (v := 3) B d_M_work_161 (by decide) ?_
      refine jv_cvv (As := [.int 3]) B hml hown hts hK hA (c_M_mark (ad := ad) (cI := cI) (cA := cA) (cL := cL) (F := F) h) (cwV 1 hts g_M_95 rfl rfl rfl hd_M_mark ⟨Nat.le_of_ble_eq_true rfl, Nat.le_of_ble_eq_true rfl⟩) 0 5 rfl rfl rfl rfl (Nat.le_of_ble_eq_true rfl) d_M_work_162 ⟨Nat.le_of_ble_eq_true rfl, Nat.le_of_ble_eq_true rfl⟩ rfl (fun σ3 h => ?_)
      refine jv_sub [0] rfl ?_
      exact w_M_work_165 X h
set_option maxRecDepth 100000 in
theorem w_M_work_135 (X : jv_C p s m args meth c b_M_work 2 none y_M_work wb D jClasses (jTy cI cA cL) A) {post : jS → Prop} {σ : jS} {v1 : Int32} (h : p_M_work_135 post σ v1) : jv_V p l e (rmk 2 0 0) s m args below meth c D jClasses A 2 0 0 (MQ below (va_Qv post (jv_End D jClasses (jTy cI cA cL) A (fun σ => mw ad cI cA σ F)) A) args s 0 0 A) (mw ad cI cA σ F) [(0, .ref (ad 0)), (1, .int v1)] 135 [] := by
  obtain ⟨B, hml, hown, hts, hK, hA, hr, hlk, hnm⟩ := id X
  unfold p_M_work_135 at h
  refine jv_aload_n B d_M_work_135 rfl 0 rfl ?_
  refine fg_M_phase B hts hown hK d_M_work_136 ?_
  refine jv_iconst (v := 3) B d_M_work_139 (by decide) ?_
  refine jv_icmp_ne (tgt := 148) B d_M_work_140 (by decide) (fun hc => ?_) (fun hc => ?_)
  · replace h := h.1 hc
    exact w_M_work_148 X h
  · replace h := h.2 hc
    refine jv_aload_n B d_M_work_143 rfl 0 rfl ?_
    refine jv_iload_n B d_M_work_144 rfl 1 rfl ?_
    refine jv_cvv (As := [.int v1]) B hml hown hts hK hA (c_M_trimmed (ad := ad) (cI := cI) (cA := cA) (cL := cL) (F := F) h) (cwV 1 hts g_M_98 rfl rfl rfl hd_M_trimmed ⟨Nat.le_of_ble_eq_true rfl, Nat.le_of_ble_eq_true rfl⟩) 0 5 rfl rfl rfl rfl (Nat.le_of_ble_eq_true rfl) d_M_work_145 ⟨Nat.le_of_ble_eq_true rfl, Nat.le_of_ble_eq_true rfl⟩ rfl (fun σ4 h => ?_)
    exact w_M_work_148 X h
set_option maxRecDepth 100000 in
theorem w_M_work_132 (X : jv_C p s m args meth c b_M_work 2 none y_M_work wb D jClasses (jTy cI cA cL) A) {post : jS → Prop} {σ : jS} {v1 y0 : Int32} (h : p_M_work_132 post σ v1 y0) : jv_V p l e (rmk 2 0 0) s m args below meth c D jClasses A 2 0 0 (MQ below (va_Qv post (jv_End D jClasses (jTy cI cA cL) A (fun σ => mw ad cI cA σ F)) A) args s 0 0 A) (mw ad cI cA σ F) [(0, .ref (ad 0)), (1, .int v1)] 132 [.int y0, .ref (ad 0)] := by
  obtain ⟨B, hml, hown, hts, hK, hA, hr, hlk, hnm⟩ := id X
  unfold p_M_work_132 at h
  refine fs_M_leap B hts hown hK d_M_work_132 ?_
  exact w_M_work_135 X h
set_option maxRecDepth 100000 in
theorem w_M_work_94 (X : jv_C p s m args meth c b_M_work 2 none y_M_work wb D jClasses (jTy cI cA cL) A) {post : jS → Prop} {σ : jS} {v1 : Int32} (h : p_M_work_94 post σ v1) : jv_V p l e (rmk 2 0 0) s m args below meth c D jClasses A 2 0 0 (MQ below (va_Qv post (jv_End D jClasses (jTy cI cA cL) A (fun σ => mw ad cI cA σ F)) A) args s 0 0 A) (mw ad cI cA σ F) [(0, .ref (ad 0)), (1, .int v1)] 94 [] := by
  obtain ⟨B, hml, hown, hts, hK, hA, hr, hlk, hnm⟩ := id X
  unfold p_M_work_94 at h
  refine jv_aload_n B d_M_work_94 rfl 0 rfl ?_
  refine fg_M_phase B hts hown hK d_M_work_95 ?_
  refine jv_iconst (v := 2) B d_M_work_98 (by decide) ?_
  refine jv_icmp_ge (tgt := 135) B d_M_work_99 (by decide) (fun hc => ?_) (fun hc => ?_)
  · replace h := h.1 hc
    exact w_M_work_135 X h
  · replace h := h.2 hc
    refine jv_aload_n B d_M_work_102 rfl 0 rfl ?_
    refine jv_iload_n B d_M_work_103 rfl 1 rfl ?_
    refine jv_if_eq (tgt := 112) B d_M_work_104 (by decide) (fun hc => ?_) (fun hc => ?_)
    · replace h := h.1 hc
      refine jv_aload_n B d_M_work_112 rfl 0 rfl ?_
      refine fg_M_leap B hts hown hK d_M_work_113 ?_
      refine jv_bipush (v := 32) B d_M_work_116 (by decide) ?_
      refine jv_icmp_ne (tgt := 126) B d_M_work_118 (by decide) (fun hc => ?_) (fun hc => ?_)
      · replace h := h.1 hc
        refine jv_iconst (v := 2) B d_M_work_126 (by decide) ?_
        refine jv_aload_n B d_M_work_127 rfl 0 rfl ?_
        refine fg_M_leap B hts hown hK d_M_work_128 ?_
        refine jv_imul B d_M_work_131 ?_
        exact w_M_work_132 X h
      · replace h := h.2 hc
        refine jv_bipush (v := 32) B d_M_work_121 (by decide) ?_
        refine jv_goto (tgt := 132) B d_M_work_123 (by decide) ?_
        exact w_M_work_132 X h
    · replace h := h.2 hc
      refine jv_bipush (v := 8) B d_M_work_107 (by decide) ?_
      refine jv_goto (tgt := 132) B d_M_work_109 (by decide) ?_
      exact w_M_work_132 X h
set_option maxRecDepth 100000 in
theorem w_M_work_90 (X : jv_C p s m args meth c b_M_work 2 none y_M_work wb D jClasses (jTy cI cA cL) A) {post : jS → Prop} {σ : jS} {v1 y0 y1 : Int32} (h : p_M_work_90 post σ v1 y0 y1) : jv_V p l e (rmk 2 0 0) s m args below meth c D jClasses A 2 0 0 (MQ below (va_Qv post (jv_End D jClasses (jTy cI cA cL) A (fun σ => mw ad cI cA σ F)) A) args s 0 0 A) (mw ad cI cA σ F) [(0, .ref (ad 0)), (1, .int v1)] 90 [.int y0, .int y1, .ref (ad 0)] := by
  obtain ⟨B, hml, hown, hts, hK, hA, hr, hlk, hnm⟩ := id X
  unfold p_M_work_90 at h
  refine jv_isub B d_M_work_90 ?_
  refine fs_M_position B hts hown hK d_M_work_91 ?_
  exact w_M_work_94 X h
set_option maxRecDepth 100000 in
theorem w_M_work_65 (X : jv_C p s m args meth c b_M_work 2 none y_M_work wb D jClasses (jTy cI cA cL) A) {post : jS → Prop} {σ : jS} {v1 : Int32} (h : p_M_work_65 post σ v1) : jv_V p l e (rmk 2 0 0) s m args below meth c D jClasses A 2 0 0 (MQ below (va_Qv post (jv_End D jClasses (jTy cI cA cL) A (fun σ => mw ad cI cA σ F)) A) args s 0 0 A) (mw ad cI cA σ F) [(0, .ref (ad 0)), (1, .int v1)] 65 [] := by
  obtain ⟨B, hml, hown, hts, hK, hA, hr, hlk, hnm⟩ := id X
  unfold p_M_work_65 at h
  refine jv_aload_n B d_M_work_65 rfl 0 rfl ?_
  refine fg_M_phase B hts hown hK d_M_work_66 ?_
  refine jv_iconst (v := 1) B d_M_work_69 (by decide) ?_
  refine jv_icmp_ne (tgt := 94) B d_M_work_70 (by decide) (fun hc => ?_) (fun hc => ?_)
  · replace h := h.1 hc
    exact w_M_work_94 X h
  · replace h := h.2 hc
    refine jv_aload_n B d_M_work_73 rfl 0 rfl ?_
    refine jv_aload_n B d_M_work_74 rfl 0 rfl ?_
    refine fg_M_from B hts hown hK d_M_work_75 ?_
    refine jv_iload_n B d_M_work_78 rfl 1 rfl ?_
    refine jv_if_eq (tgt := 86) B d_M_work_79 (by decide) (fun hc => ?_) (fun hc => ?_)
    · replace h := h.1 hc
      refine jv_aload_n B d_M_work_86 rfl 0 rfl ?_
      refine fg_M_leap B hts hown hK d_M_work_87 ?_
      exact w_M_work_90 X h
    · replace h := h.2 hc
      refine jv_iconst (v := 0) B d_M_work_82 (by decide) ?_
      refine jv_goto (tgt := 90) B d_M_work_83 (by decide) ?_
      exact w_M_work_90 X h
set_option maxRecDepth 100000 in
theorem w_M_work_61 (X : jv_C p s m args meth c b_M_work 2 none y_M_work wb D jClasses (jTy cI cA cL) A) {post : jS → Prop} {σ : jS} {v1 y0 y1 : Int32} (h : p_M_work_61 post σ v1 y0 y1) : jv_V p l e (rmk 2 0 0) s m args below meth c D jClasses A 2 0 0 (MQ below (va_Qv post (jv_End D jClasses (jTy cI cA cL) A (fun σ => mw ad cI cA σ F)) A) args s 0 0 A) (mw ad cI cA σ F) [(0, .ref (ad 0)), (1, .int v1)] 61 [.int y0, .int y1, .ref (ad 0)] := by
  obtain ⟨B, hml, hown, hts, hK, hA, hr, hlk, hnm⟩ := id X
  unfold p_M_work_61 at h
  refine jv_iadd B d_M_work_61 ?_
  refine fs_M_position B hts hown hK d_M_work_62 ?_
  exact w_M_work_65 X h
set_option maxRecDepth 100000 in
theorem w_M_work_60 (X : jv_C p s m args meth c b_M_work 2 none y_M_work wb D jClasses (jTy cI cA cL) A) {post : jS → Prop} {σ : jS} {v1 y0 : Int32} (h : p_M_work_60 post σ v1 y0) : jv_V p l e (rmk 2 0 0) s m args below meth c D jClasses A 2 0 0 (MQ below (va_Qv post (jv_End D jClasses (jTy cI cA cL) A (fun σ => mw ad cI cA σ F)) A) args s 0 0 A) (mw ad cI cA σ F) [(0, .ref (ad 0)), (1, .int v1)] 60 [.int y0, .ref (ad 0)] := by
  obtain ⟨B, hml, hown, hts, hK, hA, hr, hlk, hnm⟩ := id X
  unfold p_M_work_60 at h
  refine jv_iconst (v := 0) B d_M_work_60 (by decide) ?_
  exact w_M_work_61 X h
set_option maxRecDepth 100000 in
theorem w_M_work_37 (X : jv_C p s m args meth c b_M_work 2 none y_M_work wb D jClasses (jTy cI cA cL) A) {post : jS → Prop} {σ : jS} {v1 : Int32} (h : p_M_work_37 post σ v1) : jv_V p l e (rmk 2 0 0) s m args below meth c D jClasses A 2 0 0 (MQ below (va_Qv post (jv_End D jClasses (jTy cI cA cL) A (fun σ => mw ad cI cA σ F)) A) args s 0 0 A) (mw ad cI cA σ F) [(0, .ref (ad 0)), (1, .int v1)] 37 [] := by
  obtain ⟨B, hml, hown, hts, hK, hA, hr, hlk, hnm⟩ := id X
  unfold p_M_work_37 at h
  refine jv_aload_n B d_M_work_37 rfl 0 rfl ?_
  refine jv_aload_n B d_M_work_38 rfl 0 rfl ?_
  refine fg_M_to B hts hown hK d_M_work_39 ?_
  refine jv_aload_n B d_M_work_42 rfl 0 rfl ?_
  refine fg_M_phase B hts hown hK d_M_work_43 ?_
  refine jv_if_ne (tgt := 60) B d_M_work_46 (by decide) (fun hc => ?_) (fun hc => ?_)
  · replace h := h.1 hc
    exact w_M_work_60 X h
  · replace h := h.2 hc
    refine jv_iload_n B d_M_work_49 rfl 1 rfl ?_
    refine jv_if_ne (tgt := 60) B d_M_work_50 (by decide) (fun hc => ?_) (fun hc => ?_)
    · replace h := h.1 hc
      exact w_M_work_60 X h
    · replace h := h.2 hc
      refine jv_aload_n B d_M_work_53 rfl 0 rfl ?_
      refine fg_M_leap B hts hown hK d_M_work_54 ?_
      refine jv_goto (tgt := 61) B d_M_work_57 (by decide) ?_
      exact w_M_work_61 X h
set_option maxRecDepth 100000 in
theorem w_M_work_22 (X : jv_C p s m args meth c b_M_work 2 none y_M_work wb D jClasses (jTy cI cA cL) A) {post : jS → Prop} {σ : jS} {v1 : Int32} (h : p_M_work_22 post σ v1) : jv_V p l e (rmk 2 0 0) s m args below meth c D jClasses A 2 0 0 (MQ below (va_Qv post (jv_End D jClasses (jTy cI cA cL) A (fun σ => mw ad cI cA σ F)) A) args s 0 0 A) (mw ad cI cA σ F) [(0, .ref (ad 0)), (1, .int v1)] 22 [] := by
  obtain ⟨B, hml, hown, hts, hK, hA, hr, hlk, hnm⟩ := id X
  unfold p_M_work_22 at h
  refine jv_aload_n B d_M_work_22 rfl 0 rfl ?_
  refine fg_M_phase B hts hown hK d_M_work_23 ?_
  refine jv_if_eq (tgt := 37) B d_M_work_26 (by decide) (fun hc => ?_) (fun hc => ?_)
  · replace h := h.1 hc
    exact w_M_work_37 X h
  · replace h := h.2 hc
    refine jv_aload_n B d_M_work_29 rfl 0 rfl ?_
    refine fg_M_phase B hts hown hK d_M_work_30 ?_
    refine jv_iconst (v := 2) B d_M_work_33 (by decide) ?_
    refine jv_icmp_ne (tgt := 65) B d_M_work_34 (by decide) (fun hc => ?_) (fun hc => ?_)
    · replace h := h.1 hc
      exact w_M_work_65 X h
    · replace h := h.2 hc
      exact w_M_work_37 X h
set_option maxRecDepth 100000 in
theorem w_M_work_0 (X : jv_C p s m args meth c b_M_work 2 none y_M_work wb D jClasses (jTy cI cA cL) A) {post : jS → Prop} {σ : jS} (h : p_M_work σ post) : jv_V p l e (rmk 2 0 0) s m args below meth c D jClasses A 2 0 0 (MQ below (va_Qv post (jv_End D jClasses (jTy cI cA cL) A (fun σ => mw ad cI cA σ F)) A) args s 0 0 A) (mw ad cI cA σ F) [(0, .ref (ad 0))] 0 [] := by
  obtain ⟨B, hml, hown, hts, hK, hA, hr, hlk, hnm⟩ := id X
  unfold p_M_work at h
  refine jv_aload_n B d_M_work_0 rfl 0 rfl ?_
  refine jv_civ (As := []) B hml hown hts hK hA (c_M_reading (ad := ad) (cI := cI) (cA := cA) (cL := cL) (F := F) h) (cwV 0 hts g_M_91 rfl rfl rfl hd_M_reading ⟨Nat.le_of_ble_eq_true rfl, Nat.le_of_ble_eq_true rfl⟩) 0 5 rfl rfl rfl rfl (Nat.le_of_ble_eq_true rfl) d_M_work_1 ⟨Nat.le_of_ble_eq_true rfl, Nat.le_of_ble_eq_true rfl⟩ rfl (fun r2 σ1 h => ?_)
  refine jv_istore_n (lv' := [(1, .int r2), (0, .ref (ad 0))]) B d_M_work_4 rfl (by decide) rfl ?_
  refine jv_aload_n B d_M_work_5 rfl 1 rfl ?_
  refine fg_M_phase B hts hown hK d_M_work_6 ?_
  refine jv_iconst (v := 3) B d_M_work_9 (by decide) ?_
  refine jv_icmp_ge (tgt := 22) B d_M_work_10 (by decide) (fun hc => ?_) (fun hc => ?_)
  · replace h := h.1 hc
    refine jv_sub [1, 0] rfl ?_
    exact w_M_work_22 X h
  · replace h := h.2 hc
    refine jv_iload_n B d_M_work_13 rfl 0 rfl ?_
    refine jv_if_ne (tgt := 22) B d_M_work_14 (by decide) (fun hc => ?_) (fun hc => ?_)
    · replace h := h.1 hc
      refine jv_sub [1, 0] rfl ?_
      exact w_M_work_22 X h
    · replace h := h.2 hc
      refine jv_aload_n B d_M_work_17 rfl 1 rfl ?_
      refine jv_iconst (v := 1) B d_M_work_18 (by decide) ?_
      refine jv_cvv (As := [.int 1]) B hml hown hts hK hA (c_M_mark (ad := ad) (cI := cI) (cA := cA) (cL := cL) (F := F) h) (cwV 1 hts g_M_95 rfl rfl rfl hd_M_mark ⟨Nat.le_of_ble_eq_true rfl, Nat.le_of_ble_eq_true rfl⟩) 0 5 rfl rfl rfl rfl (Nat.le_of_ble_eq_true rfl) d_M_work_19 ⟨Nat.le_of_ble_eq_true rfl, Nat.le_of_ble_eq_true rfl⟩ rfl (fun σ5 h => ?_)
      refine jv_sub [1, 0] rfl ?_
      exact w_M_work_22 X h
theorem c_M_work {l : Launch} {D : va_G} {A : Nat → Prop} {ad : Nat → Nat} {cI cA cL : ClassId} {F : va_W} {σ : jS} {post : jS → Prop} (h : p_M_work σ post) : Met l y_M_work (Cond.code y_M_work b_M_work 2 none :: wb) (rmk 2 0 0) (jv_Pre D jClasses (jTy cI cA cL) A (mw ad cI cA σ F) [.ref (ad 0)]) (va_Qv post (jv_End D jClasses (jTy cI cA cL) A (fun σ => mw ad cI cA σ F)) A) 0 0 A :=
  jv_ofB (by decide) (Nat.le_of_ble_eq_true rfl) (fun p e s m below meth c X => w_M_work_0 X h)
set_option maxRecDepth 100000 in
theorem w_M_one_29 (X : jv_C p s m args meth c b_M_one 2 (some .int) y_M_one wb D jClasses (jTy cI cA cL) A) {post : Int32 → jS → Prop} {σ : jS} (h : p_M_one_29 post σ) : jv_V p l e (rmk 4 0 0) s m args below meth c D jClasses A 2 0 0 (MQ below (va_Qi post (jv_End D jClasses (jTy cI cA cL) A (fun σ => mw ad cI cA σ F)) A) args s 0 0 A) (mw ad cI cA σ F) [(0, .ref (ad 0))] 29 [] := by
  obtain ⟨B, hml, hown, hts, hK, hA, hr, hlk, hnm⟩ := id X
  unfold p_M_one_29 at h
  refine jv_aload_n B d_M_one_29 rfl 0 rfl ?_
  refine fg_M_phase B hts hown hK d_M_one_30 ?_
  refine jv_istore_n (lv' := [(1, .int (σ 0 8)), (0, .ref (ad 0))]) B d_M_one_33 rfl (by decide) rfl ?_
  refine jv_iload_n B d_M_one_34 rfl 0 rfl ?_
  refine jv_bipush (v := 6) B d_M_one_35 (by decide) ?_
  refine jv_icmp_eq (tgt := 44) B d_M_one_37 (by decide) (fun hc => ?_) (fun hc => ?_)
  · replace h := h.1 hc
    refine jv_iload_n B d_M_one_44 rfl 0 rfl ?_
    exact jv_iret B hr rfl hlk hK _ rfl h d_M_one_45
  · replace h := h.2 hc
    refine jv_aload_n B d_M_one_40 rfl 1 rfl ?_
    refine jv_cvv (As := []) B hml hown hts hK hA (c_M_work (ad := ad) (cI := cI) (cA := cA) (cL := cL) (F := F) h) (cwV 0 hts g_M_105 rfl rfl rfl hd_M_work ⟨Nat.le_of_ble_eq_true rfl, Nat.le_of_ble_eq_true rfl⟩) 0 5 rfl rfl rfl rfl (Nat.le_of_ble_eq_true rfl) d_M_one_41 ⟨Nat.le_of_ble_eq_true rfl, Nat.le_of_ble_eq_true rfl⟩ rfl (fun σ1 h => ?_)
    refine jv_iload_n B d_M_one_44 rfl 0 rfl ?_
    exact jv_iret B hr rfl hlk hK _ rfl h d_M_one_45
set_option maxRecDepth 100000 in
theorem w_M_one_0 (X : jv_C p s m args meth c b_M_one 2 (some .int) y_M_one wb D jClasses (jTy cI cA cL) A) {post : Int32 → jS → Prop} : ∀ (n : Nat), ∀ (σ : jS), p_M_one_0 post n σ → jv_V p l e (rmk 4 0 0) s m args below meth c D jClasses A 2 0 0 (MQ below (va_Qi post (jv_End D jClasses (jTy cI cA cL) A (fun σ => mw ad cI cA σ F)) A) args s 0 0 A) (mw ad cI cA σ F) [(0, .ref (ad 0))] 0 [] := by
  obtain ⟨B, hml, hown, hts, hK, hA, hr, hlk, hnm⟩ := id X
  intro n
  induction n with
  | zero => intro σ h; exact h.elim
  | succ n ih =>
    intro σ h
    rw [p_M_one_0] at h
    refine jv_aload_n B d_M_one_0 rfl 0 rfl ?_
    refine fg_M_phase B hts hown hK d_M_one_1 ?_
    refine jv_bipush (v := 6) B d_M_one_4 (by decide) ?_
    refine jv_icmp_eq (tgt := 29) B d_M_one_6 (by decide) (fun hc => ?_) (fun hc => ?_)
    · replace h := h.1 hc
      exact w_M_one_29 X h
    · replace h := h.2 hc
      refine jv_aload_n B d_M_one_9 rfl 0 rfl ?_
      refine jv_civ (As := []) B hml hown hts hK hA (c_M_find (ad := ad) (cI := cI) (cA := cA) (cL := cL) (F := F) h) (cwV 0 hts g_M_102 rfl rfl rfl hd_M_find ⟨Nat.le_of_ble_eq_true rfl, Nat.le_of_ble_eq_true rfl⟩) 0 5 rfl rfl rfl rfl (Nat.le_of_ble_eq_true rfl) d_M_one_10 ⟨Nat.le_of_ble_eq_true rfl, Nat.le_of_ble_eq_true rfl⟩ rfl (fun r3 σ2 h => ?_)
      refine jv_if_ne (tgt := 29) B d_M_one_13 (by decide) (fun hc => ?_) (fun hc => ?_)
      · replace h := h.1 hc
        exact w_M_one_29 X h
      · replace h := h.2 hc
        refine jv_aload_n B d_M_one_16 rfl 0 rfl ?_
        refine jv_aload_n B d_M_one_17 rfl 0 rfl ?_
        refine fg_M_phase B hts hown hK d_M_one_18 ?_
        refine jv_iconst (v := 1) B d_M_one_21 (by decide) ?_
        refine jv_iadd B d_M_one_22 ?_
        refine jv_cvv (As := [.int ((σ2 0 8) + 1)]) B hml hown hts hK hA (c_M_enter (ad := ad) (cI := cI) (cA := cA) (cL := cL) (F := F) h) (cwV 1 hts g_M_76 rfl rfl rfl hd_M_enter ⟨Nat.le_of_ble_eq_true rfl, Nat.le_of_ble_eq_true rfl⟩) 0 5 rfl rfl rfl rfl (Nat.le_of_ble_eq_true rfl) d_M_one_23 ⟨Nat.le_of_ble_eq_true rfl, Nat.le_of_ble_eq_true rfl⟩ rfl (fun σ4 h => ?_)
        refine jv_goto (tgt := 0) B d_M_one_26 (by decide) ?_
        exact ih _ h
theorem w_M_one_e (X : jv_C p s m args meth c b_M_one 2 (some .int) y_M_one wb D jClasses (jTy cI cA cL) A) {post : Int32 → jS → Prop} {σ : jS} (h : p_M_one σ post) : jv_V p l e (rmk 4 0 0) s m args below meth c D jClasses A 2 0 0 (MQ below (va_Qi post (jv_End D jClasses (jTy cI cA cL) A (fun σ => mw ad cI cA σ F)) A) args s 0 0 A) (mw ad cI cA σ F) [(0, .ref (ad 0))] 0 [] := by
  obtain ⟨n9, h⟩ := h
  exact w_M_one_0 X n9 _ h
theorem c_M_one {l : Launch} {D : va_G} {A : Nat → Prop} {ad : Nat → Nat} {cI cA cL : ClassId} {F : va_W} {σ : jS} {post : Int32 → jS → Prop} (h : p_M_one σ post) : Met l y_M_one (Cond.code y_M_one b_M_one 2 (some .int) :: wb) (rmk 4 0 0) (jv_Pre D jClasses (jTy cI cA cL) A (mw ad cI cA σ F) [.ref (ad 0)]) (va_Qi post (jv_End D jClasses (jTy cI cA cL) A (fun σ => mw ad cI cA σ F)) A) 0 0 A :=
  jv_ofB (by decide) (Nat.le_of_ble_eq_true rfl) (fun p e s m below meth c X => w_M_one_e X h)
set_option maxRecDepth 100000 in
theorem w_M_step_13 (X : jv_C p s m args meth c b_M_step 1 (some .int) y_M_step wb D jClasses (jTy cI cA cL) A) {post : Int32 → jS → Prop} {σ : jS} {y0 : Int32} (h : p_M_step_13 post σ y0) : jv_V p l e (rmk 5 0 0) s m args below meth c D jClasses A 1 0 0 (MQ below (va_Qi post (jv_End D jClasses (jTy cI cA cL) A (fun σ => mw ad cI cA σ F)) A) args s 0 0 A) (mw ad cI cA σ F) [(0, .ref (ad 0))] 13 [.int y0, .ref (ad 0)] := by
  obtain ⟨B, hml, hown, hts, hK, hA, hr, hlk, hnm⟩ := id X
  unfold p_M_step_13 at h
  refine fs_M_code B hts hown hK d_M_step_13 ?_
  refine jv_aload_n B d_M_step_16 rfl 0 rfl ?_
  refine fg_M_code B hts hown hK d_M_step_17 ?_
  refine jv_if_ne (tgt := 30) B d_M_step_20 (by decide) (fun hc => ?_) (fun hc => ?_)
  · replace h := h.1 hc
    refine jv_iconst (v := 0) B d_M_step_30 (by decide) ?_
    exact jv_iret B hr rfl hlk hK _ rfl h d_M_step_31
  · replace h := h.2 hc
    refine jv_aload_n B d_M_step_23 rfl 0 rfl ?_
    refine jv_civ (As := []) B hml hown hts hK hA (c_M_one (ad := ad) (cI := cI) (cA := cA) (cL := cL) (F := F) h) (cwV 0 hts g_M_111 rfl rfl rfl hd_M_one ⟨Nat.le_of_ble_eq_true rfl, Nat.le_of_ble_eq_true rfl⟩) 0 5 rfl rfl rfl rfl (Nat.le_of_ble_eq_true rfl) d_M_step_24 ⟨Nat.le_of_ble_eq_true rfl, Nat.le_of_ble_eq_true rfl⟩ rfl (fun r4 σ3 h => ?_)
    refine jv_goto (tgt := 31) B d_M_step_27 (by decide) ?_
    exact jv_iret B hr rfl hlk hK _ rfl h d_M_step_31
set_option maxRecDepth 100000 in
theorem w_M_step_0 (X : jv_C p s m args meth c b_M_step 1 (some .int) y_M_step wb D jClasses (jTy cI cA cL) A) {post : Int32 → jS → Prop} {σ : jS} (h : p_M_step σ post) : jv_V p l e (rmk 5 0 0) s m args below meth c D jClasses A 1 0 0 (MQ below (va_Qi post (jv_End D jClasses (jTy cI cA cL) A (fun σ => mw ad cI cA σ F)) A) args s 0 0 A) (mw ad cI cA σ F) [(0, .ref (ad 0))] 0 [] := by
  obtain ⟨B, hml, hown, hts, hK, hA, hr, hlk, hnm⟩ := id X
  unfold p_M_step at h
  refine jv_aload_n B d_M_step_0 rfl 0 rfl ?_
  refine jv_aload_n B d_M_step_1 rfl 0 rfl ?_
  refine jv_civ (As := []) B hml hown hts hK hA (c_M_goesOn (ad := ad) (cI := cI) (cA := cA) (cL := cL) (F := F) h) (cwV 0 hts g_M_108 rfl rfl rfl hd_M_goesOn ⟨Nat.le_of_ble_eq_true rfl, Nat.le_of_ble_eq_true rfl⟩) 0 5 rfl rfl rfl rfl (Nat.le_of_ble_eq_true rfl) d_M_step_2 ⟨Nat.le_of_ble_eq_true rfl, Nat.le_of_ble_eq_true rfl⟩ rfl (fun r2 σ1 h => ?_)
  refine jv_if_eq (tgt := 12) B d_M_step_5 (by decide) (fun hc => ?_) (fun hc => ?_)
  · replace h := h.1 hc
    refine jv_iconst (v := 1) B d_M_step_12 (by decide) ?_
    exact w_M_step_13 X h
  · replace h := h.2 hc
    refine jv_iconst (v := 0) B d_M_step_8 (by decide) ?_
    refine jv_goto (tgt := 13) B d_M_step_9 (by decide) ?_
    exact w_M_step_13 X h
theorem c_M_step {l : Launch} {D : va_G} {A : Nat → Prop} {ad : Nat → Nat} {cI cA cL : ClassId} {F : va_W} {σ : jS} {post : Int32 → jS → Prop} (h : p_M_step σ post) : Met l y_M_step (Cond.code y_M_step b_M_step 1 (some .int) :: wb) (rmk 5 0 0) (jv_Pre D jClasses (jTy cI cA cL) A (mw ad cI cA σ F) [.ref (ad 0)]) (va_Qi post (jv_End D jClasses (jTy cI cA cL) A (fun σ => mw ad cI cA σ F)) A) 0 0 A :=
  jv_ofB (by decide) (Nat.le_of_ble_eq_true rfl) (fun p e s m below meth c X => w_M_step_0 X h)
set_option maxRecDepth 100000 in
theorem w_M_run_42 (X : jv_C p s m args meth c b_M_run 3 (some .int) y_M_run wb D jClasses (jTy cI cA cL) A) {post : Int32 → jS → Prop} {v1 : Int32} : ∀ (n : Nat), ∀ (σ : jS) (v2 : Int32), p_M_run_42 post v1 n σ v2 → jv_V p l e (rmk 5 0 0) s m args below meth c D jClasses A 3 0 0 (MQ below (va_Qi post (jv_End D jClasses (jTy cI cA cL) A (fun σ => mw ad cI cA σ F)) A) args s 0 0 A) (mw ad cI cA σ F) [(0, .ref (ad 0)), (1, .int v1), (2, .int v2)] 42 [] := by
  obtain ⟨B, hml, hown, hts, hK, hA, hr, hlk, hnm⟩ := id X
  intro n
  induction n with
  | zero => intro σ v2 h; exact h.elim
  | succ n ih =>
    intro σ v2 h
    rw [p_M_run_42] at h
    refine jv_iload_n B d_M_run_42 rfl 2 rfl ?_
    refine jv_iload_n B d_M_run_43 rfl 1 rfl ?_
    refine jv_icmp_ge (tgt := 62) B d_M_run_44 (by decide) (fun hc => ?_) (fun hc => ?_)
    · replace h := h.1 hc
      refine jv_iload_n B d_M_run_62 rfl 2 rfl ?_
      exact jv_iret B hr rfl hlk hK _ rfl h d_M_run_63
    · replace h := h.2 hc
      refine jv_aload_n B d_M_run_47 rfl 0 rfl ?_
      refine jv_civ (As := []) B hml hown hts hK hA (c_M_one (ad := ad) (cI := cI) (cA := cA) (cL := cL) (F := F) h) (cwV 0 hts g_M_111 rfl rfl rfl hd_M_one ⟨Nat.le_of_ble_eq_true rfl, Nat.le_of_ble_eq_true rfl⟩) 0 5 rfl rfl rfl rfl (Nat.le_of_ble_eq_true rfl) d_M_run_48 ⟨Nat.le_of_ble_eq_true rfl, Nat.le_of_ble_eq_true rfl⟩ rfl (fun r2 σ1 h => ?_)
      refine jv_bipush (v := 6) B d_M_run_51 (by decide) ?_
      refine jv_icmp_eq (tgt := 62) B d_M_run_53 (by decide) (fun hc => ?_) (fun hc => ?_)
      · replace h := h.1 hc
        refine jv_iload_n B d_M_run_62 rfl 2 rfl ?_
        exact jv_iret B hr rfl hlk hK _ rfl h d_M_run_63
      · replace h := h.2 hc
        refine jv_iinc (n9 := 2) (v := v2 + 1) (lv' := [(2, .int (v2 + 1)), (0, .ref (ad 0)), (1, .int v1)]) B d_M_run_56 rfl rfl (by decide) rfl ?_
        refine jv_goto (tgt := 42) B d_M_run_59 (by decide) ?_
        refine jv_sub [1, 2, 0] rfl ?_
        exact ih _ _ h
set_option maxRecDepth 100000 in
theorem w_M_run_28 (X : jv_C p s m args meth c b_M_run 3 (some .int) y_M_run wb D jClasses (jTy cI cA cL) A) {post : Int32 → jS → Prop} {v1 : Int32} {σ : jS} {y0 : Int32} (h : p_M_run_28 post v1 σ y0) : jv_V p l e (rmk 5 0 0) s m args below meth c D jClasses A 3 0 0 (MQ below (va_Qi post (jv_End D jClasses (jTy cI cA cL) A (fun σ => mw ad cI cA σ F)) A) args s 0 0 A) (mw ad cI cA σ F) [(0, .ref (ad 0)), (1, .int v1)] 28 [.int y0, .ref (ad 0)] := by
  obtain ⟨B, hml, hown, hts, hK, hA, hr, hlk, hnm⟩ := id X
  unfold p_M_run_28 at h
  refine fs_M_code B hts hown hK d_M_run_28 ?_
  refine jv_aload_n B d_M_run_31 rfl 0 rfl ?_
  refine fg_M_code B hts hown hK d_M_run_32 ?_
  refine jv_if_eq (tgt := 40) B d_M_run_35 (by decide) (fun hc => ?_) (fun hc => ?_)
  · replace h := h.1 hc
    refine jv_iconst (v := 0) B d_M_run_40 (by decide) ?_
    refine jv_istore_n (lv' := [(2, .int 0), (0, .ref (ad 0)), (1, .int v1)]) B d_M_run_41 rfl (by decide) rfl ?_
    refine jv_sub [1, 2, 0] rfl ?_
    obtain ⟨n9, h⟩ := h
    exact w_M_run_42 X n9 _ _ h
  · replace h := h.2 hc
    refine jv_iconst (v := 0) B d_M_run_38 (by decide) ?_
    exact jv_iret B hr rfl hlk hK _ rfl h d_M_run_39
set_option maxRecDepth 100000 in
theorem w_M_run_12 (X : jv_C p s m args meth c b_M_run 3 (some .int) y_M_run wb D jClasses (jTy cI cA cL) A) {post : Int32 → jS → Prop} {v1 : Int32} {σ : jS} (h : p_M_run_12 post v1 σ) : jv_V p l e (rmk 5 0 0) s m args below meth c D jClasses A 3 0 0 (MQ below (va_Qi post (jv_End D jClasses (jTy cI cA cL) A (fun σ => mw ad cI cA σ F)) A) args s 0 0 A) (mw ad cI cA σ F) [(0, .ref (ad 0)), (1, .int v1)] 12 [.ref (ad 0)] := by
  obtain ⟨B, hml, hown, hts, hK, hA, hr, hlk, hnm⟩ := id X
  unfold p_M_run_12 at h
  refine jv_iconst (v := 1) B d_M_run_12 (by decide) ?_
  refine jv_goto (tgt := 28) B d_M_run_13 (by decide) ?_
  exact w_M_run_28 X h
set_option maxRecDepth 100000 in
theorem w_M_run_0 (X : jv_C p s m args meth c b_M_run 3 (some .int) y_M_run wb D jClasses (jTy cI cA cL) A) {post : Int32 → jS → Prop} {σ : jS} {v1 : Int32} (h : p_M_run σ v1 post) : jv_V p l e (rmk 5 0 0) s m args below meth c D jClasses A 3 0 0 (MQ below (va_Qi post (jv_End D jClasses (jTy cI cA cL) A (fun σ => mw ad cI cA σ F)) A) args s 0 0 A) (mw ad cI cA σ F) [(0, .ref (ad 0)), (1, .int v1)] 0 [] := by
  obtain ⟨B, hml, hown, hts, hK, hA, hr, hlk, hnm⟩ := id X
  unfold p_M_run at h
  refine jv_aload_n B d_M_run_0 rfl 0 rfl ?_
  refine jv_iload_n B d_M_run_1 rfl 1 rfl ?_
  refine jv_if_lt (tgt := 12) B d_M_run_2 (by decide) (fun hc => ?_) (fun hc => ?_)
  · replace h := h.1 hc
    exact w_M_run_12 X h
  · replace h := h.2 hc
    refine jv_iload_n B d_M_run_5 rfl 1 rfl ?_
    refine jv_sipush (v := 300) B d_M_run_6 (by decide) ?_
    refine jv_icmp_le (tgt := 16) B d_M_run_9 (by decide) (fun hc => ?_) (fun hc => ?_)
    · replace h := h.1 hc
      refine jv_aload_n B d_M_run_16 rfl 0 rfl ?_
      refine jv_civ (As := []) B hml hown hts hK hA (c_M_goesOn (ad := ad) (cI := cI) (cA := cA) (cL := cL) (F := F) h) (cwV 0 hts g_M_108 rfl rfl rfl hd_M_goesOn ⟨Nat.le_of_ble_eq_true rfl, Nat.le_of_ble_eq_true rfl⟩) 0 5 rfl rfl rfl rfl (Nat.le_of_ble_eq_true rfl) d_M_run_17 ⟨Nat.le_of_ble_eq_true rfl, Nat.le_of_ble_eq_true rfl⟩ rfl (fun r4 σ3 h => ?_)
      refine jv_if_ne (tgt := 27) B d_M_run_20 (by decide) (fun hc => ?_) (fun hc => ?_)
      · replace h := h.1 hc
        refine jv_iconst (v := 0) B d_M_run_27 (by decide) ?_
        exact w_M_run_28 X h
      · replace h := h.2 hc
        refine jv_iconst (v := 2) B d_M_run_23 (by decide) ?_
        refine jv_goto (tgt := 28) B d_M_run_24 (by decide) ?_
        exact w_M_run_28 X h
    · replace h := h.2 hc
      exact w_M_run_12 X h
theorem c_M_run {l : Launch} {D : va_G} {A : Nat → Prop} {ad : Nat → Nat} {cI cA cL : ClassId} {F : va_W} {σ : jS} {v1 : Int32} {post : Int32 → jS → Prop} (h : p_M_run σ v1 post) : Met l y_M_run (Cond.code y_M_run b_M_run 3 (some .int) :: wb) (rmk 5 0 0) (jv_Pre D jClasses (jTy cI cA cL) A (mw ad cI cA σ F) [.ref (ad 0), .int v1]) (va_Qi post (jv_End D jClasses (jTy cI cA cL) A (fun σ => mw ad cI cA σ F)) A) 0 0 A :=
  jv_ofB (by decide) (Nat.le_of_ble_eq_true rfl) (fun p e s m below meth c X => w_M_run_0 X h)
set_option maxRecDepth 100000 in
theorem w_M_put_0 (X : jv_C p s m args meth c b_M_put 2 none y_M_put wb D jClasses (jTy cI cA cL) A) {post : jS → Prop} {σ : jS} {v1 : Int32} (h : p_M_put σ v1 post) : jv_V p l e (rmk 1 0 0) s m args below meth c D jClasses A 2 0 0 (MQ below (va_Qv post (jv_End D jClasses (jTy cI cA cL) A (fun σ => mw ad cI cA σ F)) A) args s 0 0 A) (mw ad cI cA σ F) [(0, .ref (ad 0)), (1, .int v1)] 0 [] := by
  obtain ⟨B, hml, hown, hts, hK, hA, hr, hlk, hnm⟩ := id X
  unfold p_M_put at h
  refine jv_aload_n B d_M_put_0 rfl 0 rfl ?_
  refine fg_M_image B hts hown hK d_M_put_1 ?_
  refine jv_aload_n B d_M_put_4 rfl 0 rfl ?_
  refine fg_M_size B hts hown hK d_M_put_5 ?_
  refine jv_iload_n B d_M_put_8 rfl 1 rfl ?_
  refine sd_m_7 B hK h.1 d_M_put_9 ?_
  replace h := h.2
  refine jv_aload_n B d_M_put_10 rfl 0 rfl ?_
  refine jv_dup B d_M_put_11 rfl ?_
  refine fg_M_size B hts hown hK d_M_put_12 ?_
  refine jv_iconst (v := 1) B d_M_put_15 (by decide) ?_
  refine jv_iadd B d_M_put_16 ?_
  refine fs_M_size B hts hown hK d_M_put_17 ?_
  exact jv_vret B hr hlk hK _ rfl h d_M_put_20
theorem c_M_put {l : Launch} {D : va_G} {A : Nat → Prop} {ad : Nat → Nat} {cI cA cL : ClassId} {F : va_W} {σ : jS} {v1 : Int32} {post : jS → Prop} (h : p_M_put σ v1 post) : Met l y_M_put (Cond.code y_M_put b_M_put 2 none :: wb) (rmk 1 0 0) (jv_Pre D jClasses (jTy cI cA cL) A (mw ad cI cA σ F) [.ref (ad 0), .int v1]) (va_Qv post (jv_End D jClasses (jTy cI cA cL) A (fun σ => mw ad cI cA σ F)) A) 0 0 A :=
  jv_ofB (by decide) (Nat.le_of_ble_eq_true rfl) (fun p e s m below meth c X => w_M_put_0 X h)
set_option maxRecDepth 100000 in
theorem w_M_endOf_4 (X : jv_C p s m args meth c b_M_endOf 3 (some .int) y_M_endOf wb D jClasses (jTy cI cA cL) A) {post : Int32 → jS → Prop} {v1 : Int32} : ∀ (n : Nat), ∀ (σ : jS) (v2 : Int32), p_M_endOf_4 post v1 n σ v2 → jv_V p l e (rmk 1 0 0) s m args below meth c D jClasses A 3 0 0 (MQ below (va_Qi post (jv_End D jClasses (jTy cI cA cL) A (fun σ => mw ad cI cA σ F)) A) args s 0 0 A) (mw ad cI cA σ F) [(0, .ref (ad 0)), (1, .int v1), (2, .int v2)] 4 [] := by
  obtain ⟨B, hml, hown, hts, hK, hA, hr, hlk, hnm⟩ := id X
  intro n
  induction n with
  | zero => intro σ v2 h; exact h.elim
  | succ n ih =>
    intro σ v2 h
    rw [p_M_endOf_4] at h
    refine jv_iload_n B d_M_endOf_4 rfl 2 rfl ?_
    refine jv_aload_n B d_M_endOf_5 rfl 0 rfl ?_
    refine fg_M_sectors B hts hown hK d_M_endOf_6 ?_
    refine jv_icmp_ge (tgt := 33) B d_M_endOf_9 (by decide) (fun hc => ?_) (fun hc => ?_)
    · replace h := h.1 hc
      refine jv_iload_n B d_M_endOf_33 rfl 2 rfl ?_
      exact jv_iret B hr rfl hlk hK _ rfl h d_M_endOf_34
    · replace h := h.2 hc
      refine jv_aload_n B d_M_endOf_12 rfl 0 rfl ?_
      refine fg_M_states B hts hown hK d_M_endOf_13 ?_
      refine jv_iload_n B d_M_endOf_16 rfl 2 rfl ?_
      refine ld_m_5 B hK h.1 d_M_endOf_17 ?_
      replace h := h.2
      refine jv_aload_n B d_M_endOf_18 rfl 0 rfl ?_
      refine fg_M_states B hts hown hK d_M_endOf_19 ?_
      refine jv_iload_n B d_M_endOf_22 rfl 1 rfl ?_
      refine ld_m_5 B hK h.1 d_M_endOf_23 ?_
      replace h := h.2
      refine jv_icmp_ne (tgt := 33) B d_M_endOf_24 (by decide) (fun hc => ?_) (fun hc => ?_)
      · replace h := h.1 hc
        refine jv_iload_n B d_M_endOf_33 rfl 2 rfl ?_
        exact jv_iret B hr rfl hlk hK _ rfl h d_M_endOf_34
      · replace h := h.2 hc
        refine jv_iinc (n9 := 2) (v := v2 + 1) (lv' := [(2, .int (v2 + 1)), (0, .ref (ad 0)), (1, .int v1)]) B d_M_endOf_27 rfl rfl (by decide) rfl ?_
        refine jv_goto (tgt := 4) B d_M_endOf_30 (by decide) ?_
        refine jv_sub [1, 2, 0] rfl ?_
        exact ih _ _ h
set_option maxRecDepth 100000 in
theorem w_M_endOf_0 (X : jv_C p s m args meth c b_M_endOf 3 (some .int) y_M_endOf wb D jClasses (jTy cI cA cL) A) {post : Int32 → jS → Prop} {σ : jS} {v1 : Int32} (h : p_M_endOf σ v1 post) : jv_V p l e (rmk 1 0 0) s m args below meth c D jClasses A 3 0 0 (MQ below (va_Qi post (jv_End D jClasses (jTy cI cA cL) A (fun σ => mw ad cI cA σ F)) A) args s 0 0 A) (mw ad cI cA σ F) [(0, .ref (ad 0)), (1, .int v1)] 0 [] := by
  obtain ⟨B, hml, hown, hts, hK, hA, hr, hlk, hnm⟩ := id X
  unfold p_M_endOf at h
  refine jv_iload_n B d_M_endOf_0 rfl 1 rfl ?_
  refine jv_iconst (v := 1) B d_M_endOf_1 (by decide) ?_
  refine jv_iadd B d_M_endOf_2 ?_
  refine jv_istore_n (lv' := [(2, .int (v1 + 1)), (0, .ref (ad 0)), (1, .int v1)]) B d_M_endOf_3 rfl (by decide) rfl ?_
  refine jv_sub [1, 2, 0] rfl ?_
  obtain ⟨n9, h⟩ := h
  exact w_M_endOf_4 X n9 _ _ h
theorem c_M_endOf {l : Launch} {D : va_G} {A : Nat → Prop} {ad : Nat → Nat} {cI cA cL : ClassId} {F : va_W} {σ : jS} {v1 : Int32} {post : Int32 → jS → Prop} (h : p_M_endOf σ v1 post) : Met l y_M_endOf (Cond.code y_M_endOf b_M_endOf 3 (some .int) :: wb) (rmk 1 0 0) (jv_Pre D jClasses (jTy cI cA cL) A (mw ad cI cA σ F) [.ref (ad 0), .int v1]) (va_Qi post (jv_End D jClasses (jTy cI cA cL) A (fun σ => mw ad cI cA σ F)) A) 0 0 A :=
  jv_ofB (by decide) (Nat.le_of_ble_eq_true rfl) (fun p e s m below meth c X => w_M_endOf_0 X h)
set_option maxRecDepth 100000 in
theorem w_M_runs_4 (X : jv_C p s m args meth c b_M_runs 3 (some .int) y_M_runs wb D jClasses (jTy cI cA cL) A) {post : Int32 → jS → Prop} : ∀ (n : Nat), ∀ (σ : jS) (v1 v2 : Int32), p_M_runs_4 post n σ v1 v2 → jv_V p l e (rmk 2 0 0) s m args below meth c D jClasses A 3 0 0 (MQ below (va_Qi post (jv_End D jClasses (jTy cI cA cL) A (fun σ => mw ad cI cA σ F)) A) args s 0 0 A) (mw ad cI cA σ F) [(0, .ref (ad 0)), (1, .int v1), (2, .int v2)] 4 [] := by
  obtain ⟨B, hml, hown, hts, hK, hA, hr, hlk, hnm⟩ := id X
  intro n
  induction n with
  | zero => intro σ v1 v2 h; exact h.elim
  | succ n ih =>
    intro σ v1 v2 h
    rw [p_M_runs_4] at h
    refine jv_iload_n B d_M_runs_4 rfl 2 rfl ?_
    refine jv_aload_n B d_M_runs_5 rfl 0 rfl ?_
    refine fg_M_sectors B hts hown hK d_M_runs_6 ?_
    refine jv_icmp_ge (tgt := 24) B d_M_runs_9 (by decide) (fun hc => ?_) (fun hc => ?_)
    · replace h := h.1 hc
      refine jv_iload_n B d_M_runs_24 rfl 1 rfl ?_
      exact jv_iret B hr rfl hlk hK _ rfl h d_M_runs_25
    · replace h := h.2 hc
      refine jv_iinc (n9 := 1) (v := v1 + 1) (lv' := [(1, .int (v1 + 1)), (0, .ref (ad 0)), (2, .int v2)]) B d_M_runs_12 rfl rfl (by decide) rfl ?_
      refine jv_aload_n B d_M_runs_15 rfl 1 rfl ?_
      refine jv_iload_n B d_M_runs_16 rfl 2 rfl ?_
      refine jv_civ (As := [.int v2]) B hml hown hts hK hA (c_M_endOf (ad := ad) (cI := cI) (cA := cA) (cL := cL) (F := F) h) (cwV 1 hts g_M_117 rfl rfl rfl hd_M_endOf ⟨Nat.le_of_ble_eq_true rfl, Nat.le_of_ble_eq_true rfl⟩) 0 5 rfl rfl rfl rfl (Nat.le_of_ble_eq_true rfl) d_M_runs_17 ⟨Nat.le_of_ble_eq_true rfl, Nat.le_of_ble_eq_true rfl⟩ rfl (fun r2 σ1 h => ?_)
      refine jv_istore_n (lv' := [(2, .int r2), (1, .int (v1 + 1)), (0, .ref (ad 0))]) B d_M_runs_20 rfl (by decide) rfl ?_
      refine jv_goto (tgt := 4) B d_M_runs_21 (by decide) ?_
      refine jv_sub [2, 1, 0] rfl ?_
      exact ih _ _ _ h
set_option maxRecDepth 100000 in
theorem w_M_runs_0 (X : jv_C p s m args meth c b_M_runs 3 (some .int) y_M_runs wb D jClasses (jTy cI cA cL) A) {post : Int32 → jS → Prop} {σ : jS} (h : p_M_runs σ post) : jv_V p l e (rmk 2 0 0) s m args below meth c D jClasses A 3 0 0 (MQ below (va_Qi post (jv_End D jClasses (jTy cI cA cL) A (fun σ => mw ad cI cA σ F)) A) args s 0 0 A) (mw ad cI cA σ F) [(0, .ref (ad 0))] 0 [] := by
  obtain ⟨B, hml, hown, hts, hK, hA, hr, hlk, hnm⟩ := id X
  unfold p_M_runs at h
  refine jv_iconst (v := 0) B d_M_runs_0 (by decide) ?_
  refine jv_istore_n (lv' := [(1, .int 0), (0, .ref (ad 0))]) B d_M_runs_1 rfl (by decide) rfl ?_
  refine jv_iconst (v := 0) B d_M_runs_2 (by decide) ?_
  refine jv_istore_n (lv' := [(2, .int 0), (1, .int 0), (0, .ref (ad 0))]) B d_M_runs_3 rfl (by decide) rfl ?_
  refine jv_sub [2, 1, 0] rfl ?_
  obtain ⟨n9, h⟩ := h
  exact w_M_runs_4 X n9 _ _ _ h
theorem c_M_runs {l : Launch} {D : va_G} {A : Nat → Prop} {ad : Nat → Nat} {cI cA cL : ClassId} {F : va_W} {σ : jS} {post : Int32 → jS → Prop} (h : p_M_runs σ post) : Met l y_M_runs (Cond.code y_M_runs b_M_runs 3 (some .int) :: wb) (rmk 2 0 0) (jv_Pre D jClasses (jTy cI cA cL) A (mw ad cI cA σ F) [.ref (ad 0)]) (va_Qi post (jv_End D jClasses (jTy cI cA cL) A (fun σ => mw ad cI cA σ F)) A) 0 0 A :=
  jv_ofB (by decide) (Nat.le_of_ble_eq_true rfl) (fun p e s m below meth c X => w_M_runs_0 X h)
set_option maxRecDepth 100000 in
theorem w_M_next_0 (X : jv_C p s m args meth c b_M_next 1 (some .int) y_M_next wb D jClasses (jTy cI cA cL) A) {post : Int32 → jS → Prop} {σ : jS} {v0 : Int32} (h : p_M_next σ v0 post) : jv_V p l e (rmk 1 0 0) s m args below meth c D jClasses A 1 0 0 (MQ below (va_Qi post (jv_End D jClasses (jTy cI cA cL) A (fun σ => mw ad cI cA σ F)) A) args s 0 0 A) (mw ad cI cA σ F) [(0, .int v0)] 0 [] := by
  obtain ⟨B, hml, hown, hts, hK, hA, hr, hlk, hnm⟩ := id X
  unfold p_M_next at h
  refine jv_iload_n B d_M_next_0 rfl 0 rfl ?_
  refine jv_sipush (v := 199) B d_M_next_1 (by decide) ?_
  refine jv_icmp_ne (tgt := 11) B d_M_next_4 (by decide) (fun hc => ?_) (fun hc => ?_)
  · replace h := h.1 hc
    refine jv_iload_n B d_M_next_11 rfl 0 rfl ?_
    refine jv_iconst (v := 1) B d_M_next_12 (by decide) ?_
    refine jv_iadd B d_M_next_13 ?_
    exact jv_iret B hr rfl hlk hK _ rfl h d_M_next_14
  · replace h := h.2 hc
    refine jv_iconst (v := 0) B d_M_next_7 (by decide) ?_
    refine jv_goto (tgt := 14) B d_M_next_8 (by decide) ?_
    exact jv_iret B hr rfl hlk hK _ rfl h d_M_next_14
theorem c_M_next {l : Launch} {D : va_G} {A : Nat → Prop} {ad : Nat → Nat} {cI cA cL : ClassId} {F : va_W} {σ : jS} {v0 : Int32} {post : Int32 → jS → Prop} (h : p_M_next σ v0 post) : Met l y_M_next (Cond.code y_M_next b_M_next 1 (some .int) :: wb) (rmk 1 0 0) (jv_Pre D jClasses (jTy cI cA cL) A (mw ad cI cA σ F) [.int v0]) (va_Qi post (jv_End D jClasses (jTy cI cA cL) A (fun σ => mw ad cI cA σ F)) A) 0 0 A :=
  jv_ofB (by decide) (Nat.le_of_ble_eq_true rfl) (fun p e s m below meth c X => w_M_next_0 X h)
set_option maxRecDepth 100000 in
theorem w_M_makeImage_62 (X : jv_C p s m args meth c b_M_makeImage 4 none y_M_makeImage wb D jClasses (jTy cI cA cL) A) {post : jS → Prop} {v1 : Int32} : ∀ (n : Nat), ∀ (σ : jS) (v2 v3 : Int32), p_M_makeImage_62 post v1 n σ v2 v3 → jv_V p l e (rmk 3 0 0) s m args below meth c D jClasses A 4 0 0 (MQ below (va_Qv post (jv_End D jClasses (jTy cI cA cL) A (fun σ => mw ad cI cA σ F)) A) args s 0 0 A) (mw ad cI cA σ F) [(0, .ref (ad 0)), (2, .int v2), (3, .int v3)] 62 [] := by
  obtain ⟨B, hml, hown, hts, hK, hA, hr, hlk, hnm⟩ := id X
  intro n
  induction n with
  | zero => intro σ v2 v3 h; exact h.elim
  | succ n ih =>
    intro σ v2 v3 h
    rw [p_M_makeImage_62] at h
    refine jv_iload_n B d_M_makeImage_62 rfl 2 rfl ?_
    refine jv_aload_n B d_M_makeImage_63 rfl 0 rfl ?_
    refine fg_M_size B hts hown hK d_M_makeImage_64 ?_
    refine jv_icmp_ge (tgt := 93) B d_M_makeImage_67 (by decide) (fun hc => ?_) (fun hc => ?_)
    · replace h := h.1 hc
      refine jv_aload_n B d_M_makeImage_93 rfl 0 rfl ?_
      refine jv_iload_n B d_M_makeImage_94 rfl 1 rfl ?_
      refine jv_cvv (As := [.int v2]) B hml hown hts hK hA (c_M_put (ad := ad) (cI := cI) (cA := cA) (cL := cL) (F := F) h) (cwV 1 hts g_M_121 rfl rfl rfl hd_M_put ⟨Nat.le_of_ble_eq_true rfl, Nat.le_of_ble_eq_true rfl⟩) 0 5 rfl rfl rfl rfl (Nat.le_of_ble_eq_true rfl) d_M_makeImage_95 ⟨Nat.le_of_ble_eq_true rfl, Nat.le_of_ble_eq_true rfl⟩ rfl (fun σ5 h => ?_)
      exact jv_vret B hr hlk hK _ rfl h d_M_makeImage_98
    · replace h := h.2 hc
      refine jv_iload_n B d_M_makeImage_70 rfl 1 rfl ?_
      refine jv_aload_n B d_M_makeImage_71 rfl 0 rfl ?_
      refine fg_M_image B hts hown hK d_M_makeImage_72 ?_
      refine jv_iload_n B d_M_makeImage_75 rfl 2 rfl ?_
      refine ld_m_7 B hK h.1 d_M_makeImage_76 ?_
      replace h := h.2
      refine jv_iload_n B d_M_makeImage_77 rfl 2 rfl ?_
      refine jv_iconst (v := 1) B d_M_makeImage_78 (by decide) ?_
      refine jv_iadd B d_M_makeImage_79 ?_
      refine jv_imul B d_M_makeImage_80 ?_
      refine jv_iadd B d_M_makeImage_81 ?_
      refine jv_sipush (v := 251) B d_M_makeImage_82 (by decide) ?_
      refine jv_irem B d_M_makeImage_85 (by decide) ?_
      refine jv_istore_n (lv' := [(2, .int ((v2 + ((σ 7 v3.toNatClampNeg) * (v3 + 1))) - (v2 + ((σ 7 v3.toNatClampNeg) * (v3 + 1))) / 251 * 251)), (0, .ref (ad 0)), (3, .int v3)]) B d_M_makeImage_86 rfl (by decide) rfl ?_
      refine jv_iinc (n9 := 2) (v := v3 + 1) (lv' := [(3, .int (v3 + 1)), (2, .int ((v2 + ((σ 7 v3.toNatClampNeg) * (v3 + 1))) - (v2 + ((σ 7 v3.toNatClampNeg) * (v3 + 1))) / 251 * 251)), (0, .ref (ad 0))]) B d_M_makeImage_87 rfl rfl (by decide) rfl ?_
      refine jv_goto (tgt := 62) B d_M_makeImage_90 (by decide) ?_
      refine jv_sub [2, 1, 0] rfl ?_
      exact ih _ _ _ h
set_option maxRecDepth 100000 in
theorem w_M_makeImage_20 (X : jv_C p s m args meth c b_M_makeImage 4 none y_M_makeImage wb D jClasses (jTy cI cA cL) A) {post : jS → Prop} {v1 : Int32} : ∀ (n : Nat), ∀ (σ : jS) (v2 : Int32), p_M_makeImage_20 post v1 n σ v2 → jv_V p l e (rmk 3 0 0) s m args below meth c D jClasses A 4 0 0 (MQ below (va_Qv post (jv_End D jClasses (jTy cI cA cL) A (fun σ => mw ad cI cA σ F)) A) args s 0 0 A) (mw ad cI cA σ F) [(0, .ref (ad 0)), (2, .int v2)] 20 [] := by
  obtain ⟨B, hml, hown, hts, hK, hA, hr, hlk, hnm⟩ := id X
  intro n
  induction n with
  | zero => intro σ v2 h; exact h.elim
  | succ n ih =>
    intro σ v2 h
    rw [p_M_makeImage_20] at h
    refine jv_iload_n B d_M_makeImage_20 rfl 1 rfl ?_
    refine jv_aload_n B d_M_makeImage_21 rfl 0 rfl ?_
    refine fg_M_sectors B hts hown hK d_M_makeImage_22 ?_
    refine jv_icmp_ge (tgt := 58) B d_M_makeImage_25 (by decide) (fun hc => ?_) (fun hc => ?_)
    · replace h := h.1 hc
      refine jv_iconst (v := 0) B d_M_makeImage_58 (by decide) ?_
      refine jv_istore_n (lv' := [(2, .int 0), (0, .ref (ad 0))]) B d_M_makeImage_59 rfl (by decide) rfl ?_
      refine jv_iconst (v := 0) B d_M_makeImage_60 (by decide) ?_
      refine jv_istore_n (lv' := [(3, .int 0), (2, .int 0), (0, .ref (ad 0))]) B d_M_makeImage_61 rfl (by decide) rfl ?_
      refine jv_sub [2, 1, 0] rfl ?_
      obtain ⟨n9, h⟩ := h
      exact w_M_makeImage_62 X n9 _ _ _ h
    · replace h := h.2 hc
      refine jv_aload_n B d_M_makeImage_28 rfl 0 rfl ?_
      refine jv_aload_n B d_M_makeImage_29 rfl 0 rfl ?_
      refine jv_iload_n B d_M_makeImage_30 rfl 1 rfl ?_
      refine jv_civ (As := [.int v2]) B hml hown hts hK hA (c_M_endOf (ad := ad) (cI := cI) (cA := cA) (cL := cL) (F := F) h) (cwV 1 hts g_M_117 rfl rfl rfl hd_M_endOf ⟨Nat.le_of_ble_eq_true rfl, Nat.le_of_ble_eq_true rfl⟩) 0 5 rfl rfl rfl rfl (Nat.le_of_ble_eq_true rfl) d_M_makeImage_31 ⟨Nat.le_of_ble_eq_true rfl, Nat.le_of_ble_eq_true rfl⟩ rfl (fun r7 σ6 h => ?_)
      refine jv_iload_n B d_M_makeImage_34 rfl 1 rfl ?_
      refine jv_isub B d_M_makeImage_35 ?_
      refine jv_cvv (As := [.int (r7 - v2)]) B hml hown hts hK hA (c_M_put (ad := ad) (cI := cI) (cA := cA) (cL := cL) (F := F) h) (cwV 1 hts g_M_121 rfl rfl rfl hd_M_put ⟨Nat.le_of_ble_eq_true rfl, Nat.le_of_ble_eq_true rfl⟩) 0 5 rfl rfl rfl rfl (Nat.le_of_ble_eq_true rfl) d_M_makeImage_36 ⟨Nat.le_of_ble_eq_true rfl, Nat.le_of_ble_eq_true rfl⟩ rfl (fun σ8 h => ?_)
      refine jv_aload_n B d_M_makeImage_39 rfl 0 rfl ?_
      refine jv_aload_n B d_M_makeImage_40 rfl 0 rfl ?_
      refine fg_M_states B hts hown hK d_M_makeImage_41 ?_
      refine jv_iload_n B d_M_makeImage_44 rfl 1 rfl ?_
      refine ld_m_5 B hK h.1 d_M_makeImage_45 ?_
      replace h := h.2
      refine jv_cvv (As := [.int (σ8 5 v2.toNatClampNeg)]) B hml hown hts hK hA (c_M_put (ad := ad) (cI := cI) (cA := cA) (cL := cL) (F := F) h) (cwV 1 hts g_M_121 rfl rfl rfl hd_M_put ⟨Nat.le_of_ble_eq_true rfl, Nat.le_of_ble_eq_true rfl⟩) 0 5 rfl rfl rfl rfl (Nat.le_of_ble_eq_true rfl) d_M_makeImage_46 ⟨Nat.le_of_ble_eq_true rfl, Nat.le_of_ble_eq_true rfl⟩ rfl (fun σ9 h => ?_)
      refine jv_aload_n B d_M_makeImage_49 rfl 0 rfl ?_
      refine jv_iload_n B d_M_makeImage_50 rfl 1 rfl ?_
      refine jv_civ (As := [.int v2]) B hml hown hts hK hA (c_M_endOf (ad := ad) (cI := cI) (cA := cA) (cL := cL) (F := F) h) (cwV 1 hts g_M_117 rfl rfl rfl hd_M_endOf ⟨Nat.le_of_ble_eq_true rfl, Nat.le_of_ble_eq_true rfl⟩) 0 5 rfl rfl rfl rfl (Nat.le_of_ble_eq_true rfl) d_M_makeImage_51 ⟨Nat.le_of_ble_eq_true rfl, Nat.le_of_ble_eq_true rfl⟩ rfl (fun r11 σ10 h => ?_)
      refine jv_istore_n (lv' := [(2, .int r11), (0, .ref (ad 0))]) B d_M_makeImage_54 rfl (by decide) rfl ?_
      refine jv_goto (tgt := 20) B d_M_makeImage_55 (by decide) ?_
      refine jv_sub [1, 0] rfl ?_
      exact ih _ _ h
set_option maxRecDepth 100000 in
theorem w_M_makeImage_0 (X : jv_C p s m args meth c b_M_makeImage 4 none y_M_makeImage wb D jClasses (jTy cI cA cL) A) {post : jS → Prop} {σ : jS} {v1 : Int32} (h : p_M_makeImage σ v1 post) : jv_V p l e (rmk 3 0 0) s m args below meth c D jClasses A 4 0 0 (MQ below (va_Qv post (jv_End D jClasses (jTy cI cA cL) A (fun σ => mw ad cI cA σ F)) A) args s 0 0 A) (mw ad cI cA σ F) [(0, .ref (ad 0)), (1, .int v1)] 0 [] := by
  obtain ⟨B, hml, hown, hts, hK, hA, hr, hlk, hnm⟩ := id X
  unfold p_M_makeImage at h
  refine jv_aload_n B d_M_makeImage_0 rfl 0 rfl ?_
  refine jv_iconst (v := 0) B d_M_makeImage_1 (by decide) ?_
  refine fs_M_size B hts hown hK d_M_makeImage_2 ?_
  refine jv_aload_n B d_M_makeImage_5 rfl 0 rfl ?_
  refine jv_iload_n B d_M_makeImage_6 rfl 1 rfl ?_
  refine jv_cvv (As := [.int v1]) B hml hown hts hK hA (c_M_put (ad := ad) (cI := cI) (cA := cA) (cL := cL) (F := F) h) (cwV 1 hts g_M_121 rfl rfl rfl hd_M_put ⟨Nat.le_of_ble_eq_true rfl, Nat.le_of_ble_eq_true rfl⟩) 0 5 rfl rfl rfl rfl (Nat.le_of_ble_eq_true rfl) d_M_makeImage_7 ⟨Nat.le_of_ble_eq_true rfl, Nat.le_of_ble_eq_true rfl⟩ rfl (fun σ1 h => ?_)
  refine jv_aload_n B d_M_makeImage_10 rfl 0 rfl ?_
  refine jv_aload_n B d_M_makeImage_11 rfl 0 rfl ?_
  refine jv_civ (As := []) B hml hown hts hK hA (c_M_runs (ad := ad) (cI := cI) (cA := cA) (cL := cL) (F := F) h) (cwV 0 hts g_M_124 rfl rfl rfl hd_M_runs ⟨Nat.le_of_ble_eq_true rfl, Nat.le_of_ble_eq_true rfl⟩) 0 5 rfl rfl rfl rfl (Nat.le_of_ble_eq_true rfl) d_M_makeImage_12 ⟨Nat.le_of_ble_eq_true rfl, Nat.le_of_ble_eq_true rfl⟩ rfl (fun r3 σ2 h => ?_)
  refine jv_cvv (As := [.int r3]) B hml hown hts hK hA (c_M_put (ad := ad) (cI := cI) (cA := cA) (cL := cL) (F := F) h) (cwV 1 hts g_M_121 rfl rfl rfl hd_M_put ⟨Nat.le_of_ble_eq_true rfl, Nat.le_of_ble_eq_true rfl⟩) 0 5 rfl rfl rfl rfl (Nat.le_of_ble_eq_true rfl) d_M_makeImage_15 ⟨Nat.le_of_ble_eq_true rfl, Nat.le_of_ble_eq_true rfl⟩ rfl (fun σ4 h => ?_)
  refine jv_iconst (v := 0) B d_M_makeImage_18 (by decide) ?_
  refine jv_istore_n (lv' := [(2, .int 0), (0, .ref (ad 0)), (1, .int v1)]) B d_M_makeImage_19 rfl (by decide) rfl ?_
  refine jv_sub [1, 0] rfl ?_
  obtain ⟨n9, h⟩ := h
  exact w_M_makeImage_20 X n9 _ _ h
theorem c_M_makeImage {l : Launch} {D : va_G} {A : Nat → Prop} {ad : Nat → Nat} {cI cA cL : ClassId} {F : va_W} {σ : jS} {v1 : Int32} {post : jS → Prop} (h : p_M_makeImage σ v1 post) : Met l y_M_makeImage (Cond.code y_M_makeImage b_M_makeImage 4 none :: wb) (rmk 3 0 0) (jv_Pre D jClasses (jTy cI cA cL) A (mw ad cI cA σ F) [.ref (ad 0), .int v1]) (va_Qv post (jv_End D jClasses (jTy cI cA cL) A (fun σ => mw ad cI cA σ F)) A) 0 0 A :=
  jv_ofB (by decide) (Nat.le_of_ble_eq_true rfl) (fun p e s m below meth c X => w_M_makeImage_0 X h)
set_option maxRecDepth 100000 in
theorem w_M_write_2 (X : jv_C p s m args meth c b_M_write 3 none y_M_write wb D jClasses (jTy cI cA cL) A) {post : jS → Prop} {v1 : Int32} : ∀ (n : Nat), ∀ (σ : jS) (v2 : Int32), p_M_write_2 post v1 n σ v2 → jv_V p l e (rmk 1 0 0) s m args below meth c D jClasses A 3 0 0 (MQ below (va_Qv post (jv_End D jClasses (jTy cI cA cL) A (fun σ => mw ad cI cA σ F)) A) args s 0 0 A) (mw ad cI cA σ F) [(0, .ref (ad 0)), (1, .int v1), (2, .int v2)] 2 [] := by
  obtain ⟨B, hml, hown, hts, hK, hA, hr, hlk, hnm⟩ := id X
  intro n
  induction n with
  | zero => intro σ v2 h; exact h.elim
  | succ n ih =>
    intro σ v2 h
    rw [p_M_write_2] at h
    refine jv_iload_n B d_M_write_2 rfl 2 rfl ?_
    refine jv_iload_n B d_M_write_3 rfl 1 rfl ?_
    refine jv_icmp_ge (tgt := 44) B d_M_write_4 (by decide) (fun hc => ?_) (fun hc => ?_)
    · replace h := h.1 hc
      exact jv_vret B hr hlk hK _ rfl h d_M_write_44
    · replace h := h.2 hc
      refine jv_iload_n B d_M_write_7 rfl 2 rfl ?_
      refine jv_aload_n B d_M_write_8 rfl 0 rfl ?_
      refine fg_M_size B hts hown hK d_M_write_9 ?_
      refine jv_icmp_ge (tgt := 44) B d_M_write_12 (by decide) (fun hc => ?_) (fun hc => ?_)
      · replace h := h.1 hc
        exact jv_vret B hr hlk hK _ rfl h d_M_write_44
      · replace h := h.2 hc
        refine jv_aload_n B d_M_write_15 rfl 0 rfl ?_
        refine fg_M_slots B hts hown hK d_M_write_16 ?_
        refine jv_sipush (v := 140) B d_M_write_19 (by decide) ?_
        refine jv_aload_n B d_M_write_22 rfl 0 rfl ?_
        refine fg_M_number B hts hown hK d_M_write_23 ?_
        refine jv_iconst (v := 2) B d_M_write_26 (by decide) ?_
        refine jv_irem B d_M_write_27 (by decide) ?_
        refine jv_imul B d_M_write_28 ?_
        refine jv_iload_n B d_M_write_29 rfl 2 rfl ?_
        refine jv_iadd B d_M_write_30 ?_
        refine jv_aload_n B d_M_write_31 rfl 0 rfl ?_
        refine fg_M_image B hts hown hK d_M_write_32 ?_
        refine jv_iload_n B d_M_write_35 rfl 2 rfl ?_
        refine ld_m_7 B hK h.1 d_M_write_36 ?_
        replace h := h.2
        refine sd_m_6 B hK h.1 d_M_write_37 ?_
        replace h := h.2
        refine jv_iinc (n9 := 2) (v := v2 + 1) (lv' := [(2, .int (v2 + 1)), (0, .ref (ad 0)), (1, .int v1)]) B d_M_write_38 rfl rfl (by decide) rfl ?_
        refine jv_goto (tgt := 2) B d_M_write_41 (by decide) ?_
        refine jv_sub [1, 2, 0] rfl ?_
        exact ih _ _ h
set_option maxRecDepth 100000 in
theorem w_M_write_0 (X : jv_C p s m args meth c b_M_write 3 none y_M_write wb D jClasses (jTy cI cA cL) A) {post : jS → Prop} {σ : jS} {v1 : Int32} (h : p_M_write σ v1 post) : jv_V p l e (rmk 1 0 0) s m args below meth c D jClasses A 3 0 0 (MQ below (va_Qv post (jv_End D jClasses (jTy cI cA cL) A (fun σ => mw ad cI cA σ F)) A) args s 0 0 A) (mw ad cI cA σ F) [(0, .ref (ad 0)), (1, .int v1)] 0 [] := by
  obtain ⟨B, hml, hown, hts, hK, hA, hr, hlk, hnm⟩ := id X
  unfold p_M_write at h
  refine jv_iconst (v := 0) B d_M_write_0 (by decide) ?_
  refine jv_istore_n (lv' := [(2, .int 0), (0, .ref (ad 0)), (1, .int v1)]) B d_M_write_1 rfl (by decide) rfl ?_
  refine jv_sub [1, 2, 0] rfl ?_
  obtain ⟨n9, h⟩ := h
  exact w_M_write_2 X n9 _ _ h
theorem c_M_write {l : Launch} {D : va_G} {A : Nat → Prop} {ad : Nat → Nat} {cI cA cL : ClassId} {F : va_W} {σ : jS} {v1 : Int32} {post : jS → Prop} (h : p_M_write σ v1 post) : Met l y_M_write (Cond.code y_M_write b_M_write 3 none :: wb) (rmk 1 0 0) (jv_Pre D jClasses (jTy cI cA cL) A (mw ad cI cA σ F) [.ref (ad 0), .int v1]) (va_Qv post (jv_End D jClasses (jTy cI cA cL) A (fun σ => mw ad cI cA σ F)) A) 0 0 A :=
  jv_ofB (by decide) (Nat.le_of_ble_eq_true rfl) (fun p e s m below meth c X => w_M_write_0 X h)
end JM

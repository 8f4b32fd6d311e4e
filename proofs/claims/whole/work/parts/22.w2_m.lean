section JM
variable {p : Program} {l : Launch} {e : Env} {s : State} {m : MethodId} {args : Array Value} {below : List Frame} {meth : Method} {c : Code} {D : va_G} {A : Nat → Prop} {ad : Nat → Nat} {cI cA cL : ClassId} {F : va_W}
set_option maxRecDepth 100000 in
theorem w_M_save_13 (X : jv_C p s m args meth c b_M_save 1 (some .int) y_M_save wb D jClasses (jTy cI cA cL) A) {post : Int32 → jS → Prop} {σ : jS} {y0 : Int32} (h : p_M_save_13 post σ y0) : jv_V p l e (rmk 4 0 0) s m args below meth c D jClasses A 1 0 0 (MQ below (va_Qi post (jv_End D jClasses (jTy cI cA cL) A (fun σ => mw ad cI cA σ F)) A) args s 0 0 A) (mw ad cI cA σ F) [(0, .ref (ad 0))] 13 [.int y0, .ref (ad 0)] := by
  obtain ⟨B, hml, hown, hts, hK, hA, hr, hlk, hnm⟩ := id X
  unfold p_M_save_13 at h
  refine fs_M_code B hts hown hK d_M_save_13 ?_
  refine jv_aload_n B d_M_save_16 rfl 0 rfl ?_
  refine fg_M_code B hts hown hK d_M_save_17 ?_
  refine jv_if_eq (tgt := 25) B d_M_save_20 (by decide) (fun hc => ?_) (fun hc => ?_)
  · replace h := h.1 hc
    refine jv_aload_n B d_M_save_25 rfl 0 rfl ?_
    refine jv_aload_n B d_M_save_26 rfl 0 rfl ?_
    refine fg_M_number B hts hown hK d_M_save_27 ?_
    refine jv_cis (As := [.int ((up2 σ 0 0 y0) 0 17)]) B hml hown hts hK hA (c_M_next (ad := ad) (cI := cI) (cA := cA) (cL := cL) (F := F) h) (cwS 1 hts g_M_127 rfl rfl rfl hd_M_next ⟨Nat.le_of_ble_eq_true rfl, Nat.le_of_ble_eq_true rfl⟩) rfl (Nat.le_of_ble_eq_true rfl) d_M_save_30 ⟨Nat.le_of_ble_eq_true rfl, Nat.le_of_ble_eq_true rfl⟩ rfl (fun r4 σ3 h => ?_)
    refine fs_M_number B hts hown hK d_M_save_33 ?_
    refine jv_aload_n B d_M_save_36 rfl 0 rfl ?_
    refine jv_aload_n B d_M_save_37 rfl 0 rfl ?_
    refine fg_M_number B hts hown hK d_M_save_38 ?_
    refine jv_cvv (As := [.int ((up2 σ3 0 17 r4) 0 17)]) B hml hown hts hK hA (c_M_makeImage (ad := ad) (cI := cI) (cA := cA) (cL := cL) (F := F) h) (cwV 1 hts g_M_130 rfl rfl rfl hd_M_makeImage ⟨Nat.le_of_ble_eq_true rfl, Nat.le_of_ble_eq_true rfl⟩) 0 5 rfl rfl rfl rfl (Nat.le_of_ble_eq_true rfl) d_M_save_41 ⟨Nat.le_of_ble_eq_true rfl, Nat.le_of_ble_eq_true rfl⟩ rfl (fun σ5 h => ?_)
    refine jv_aload_n B d_M_save_44 rfl 0 rfl ?_
    refine jv_aload_n B d_M_save_45 rfl 0 rfl ?_
    refine fg_M_size B hts hown hK d_M_save_46 ?_
    refine jv_cvv (As := [.int (σ5 0 20)]) B hml hown hts hK hA (c_M_write (ad := ad) (cI := cI) (cA := cA) (cL := cL) (F := F) h) (cwV 1 hts g_M_133 rfl rfl rfl hd_M_write ⟨Nat.le_of_ble_eq_true rfl, Nat.le_of_ble_eq_true rfl⟩) 0 5 rfl rfl rfl rfl (Nat.le_of_ble_eq_true rfl) d_M_save_49 ⟨Nat.le_of_ble_eq_true rfl, Nat.le_of_ble_eq_true rfl⟩ rfl (fun σ6 h => ?_)
    refine jv_aload_n B d_M_save_52 rfl 0 rfl ?_
    refine fg_M_number B hts hown hK d_M_save_53 ?_
    exact jv_iret B hr rfl hlk hK _ rfl h d_M_save_56
  · replace h := h.2 hc
    refine jv_iconst (v := 0) B d_M_save_23 (by decide) ?_
    exact jv_iret B hr rfl hlk hK _ rfl h d_M_save_24
set_option maxRecDepth 100000 in
theorem w_M_save_0 (X : jv_C p s m args meth c b_M_save 1 (some .int) y_M_save wb D jClasses (jTy cI cA cL) A) {post : Int32 → jS → Prop} {σ : jS} (h : p_M_save σ post) : jv_V p l e (rmk 4 0 0) s m args below meth c D jClasses A 1 0 0 (MQ below (va_Qi post (jv_End D jClasses (jTy cI cA cL) A (fun σ => mw ad cI cA σ F)) A) args s 0 0 A) (mw ad cI cA σ F) [(0, .ref (ad 0))] 0 [] := by
  obtain ⟨B, hml, hown, hts, hK, hA, hr, hlk, hnm⟩ := id X
  unfold p_M_save at h
  refine jv_aload_n B d_M_save_0 rfl 0 rfl ?_
  refine jv_aload_n B d_M_save_1 rfl 0 rfl ?_
  refine jv_civ (As := []) B hml hown hts hK hA (c_M_goesOn (ad := ad) (cI := cI) (cA := cA) (cL := cL) (F := F) h) (cwV 0 hts g_M_108 rfl rfl rfl hd_M_goesOn ⟨Nat.le_of_ble_eq_true rfl, Nat.le_of_ble_eq_true rfl⟩) 0 5 rfl rfl rfl rfl (Nat.le_of_ble_eq_true rfl) d_M_save_2 ⟨Nat.le_of_ble_eq_true rfl, Nat.le_of_ble_eq_true rfl⟩ rfl (fun r2 σ1 h => ?_)
  refine jv_if_eq (tgt := 12) B d_M_save_5 (by decide) (fun hc => ?_) (fun hc => ?_)
  · replace h := h.1 hc
    refine jv_iconst (v := 1) B d_M_save_12 (by decide) ?_
    exact w_M_save_13 X h
  · replace h := h.2 hc
    refine jv_iconst (v := 0) B d_M_save_8 (by decide) ?_
    refine jv_goto (tgt := 13) B d_M_save_9 (by decide) ?_
    exact w_M_save_13 X h
theorem c_M_save {l : Launch} {D : va_G} {A : Nat → Prop} {ad : Nat → Nat} {cI cA cL : ClassId} {F : va_W} {σ : jS} {post : Int32 → jS → Prop} (h : p_M_save σ post) : Met l y_M_save (Cond.code y_M_save b_M_save 1 (some .int) :: wb) (rmk 4 0 0) (jv_Pre D jClasses (jTy cI cA cL) A (mw ad cI cA σ F) [.ref (ad 0)]) (va_Qi post (jv_End D jClasses (jTy cI cA cL) A (fun σ => mw ad cI cA σ F)) A) 0 0 A :=
  jv_ofB (by decide) (Nat.le_of_ble_eq_true rfl) (fun p e s m below meth c X => w_M_save_0 X h)
set_option maxRecDepth 100000 in
theorem w_M_stop_21 (X : jv_C p s m args meth c b_M_stop 2 (some .int) y_M_stop wb D jClasses (jTy cI cA cL) A) {post : Int32 → jS → Prop} {v1 : Int32} {σ : jS} {y0 : Int32} (h : p_M_stop_21 post v1 σ y0) : jv_V p l e (rmk 4 0 0) s m args below meth c D jClasses A 2 0 0 (MQ below (va_Qi post (jv_End D jClasses (jTy cI cA cL) A (fun σ => mw ad cI cA σ F)) A) args s 0 0 A) (mw ad cI cA σ F) [(0, .ref (ad 0)), (1, .int v1)] 21 [.int y0, .ref (ad 0)] := by
  obtain ⟨B, hml, hown, hts, hK, hA, hr, hlk, hnm⟩ := id X
  unfold p_M_stop_21 at h
  refine fs_M_code B hts hown hK d_M_stop_21 ?_
  refine jv_aload_n B d_M_stop_24 rfl 0 rfl ?_
  refine fg_M_code B hts hown hK d_M_stop_25 ?_
  refine jv_if_eq (tgt := 33) B d_M_stop_28 (by decide) (fun hc => ?_) (fun hc => ?_)
  · replace h := h.1 hc
    refine jv_aload_n B d_M_stop_33 rfl 0 rfl ?_
    refine jv_bipush (v := 7) B d_M_stop_34 (by decide) ?_
    refine fs_M_phase B hts hown hK d_M_stop_36 ?_
    refine jv_iload_n B d_M_stop_39 rfl 1 rfl ?_
    refine jv_if_ne (tgt := 45) B d_M_stop_40 (by decide) (fun hc => ?_) (fun hc => ?_)
    · replace h := h.1 hc
      refine jv_aload_n B d_M_stop_45 rfl 0 rfl ?_
      refine jv_aload_n B d_M_stop_46 rfl 0 rfl ?_
      refine fg_M_number B hts hown hK d_M_stop_47 ?_
      refine jv_cis (As := [.int ((up2 (up2 σ 0 0 y0) 0 8 7) 0 17)]) B hml hown hts hK hA (c_M_next (ad := ad) (cI := cI) (cA := cA) (cL := cL) (F := F) h) (cwS 1 hts g_M_127 rfl rfl rfl hd_M_next ⟨Nat.le_of_ble_eq_true rfl, Nat.le_of_ble_eq_true rfl⟩) rfl (Nat.le_of_ble_eq_true rfl) d_M_stop_50 ⟨Nat.le_of_ble_eq_true rfl, Nat.le_of_ble_eq_true rfl⟩ rfl (fun r4 σ3 h => ?_)
      refine fs_M_number B hts hown hK d_M_stop_53 ?_
      refine jv_aload_n B d_M_stop_56 rfl 0 rfl ?_
      refine jv_aload_n B d_M_stop_57 rfl 0 rfl ?_
      refine fg_M_number B hts hown hK d_M_stop_58 ?_
      refine jv_cvv (As := [.int ((up2 σ3 0 17 r4) 0 17)]) B hml hown hts hK hA (c_M_makeImage (ad := ad) (cI := cI) (cA := cA) (cL := cL) (F := F) h) (cwV 1 hts g_M_130 rfl rfl rfl hd_M_makeImage ⟨Nat.le_of_ble_eq_true rfl, Nat.le_of_ble_eq_true rfl⟩) 0 5 rfl rfl rfl rfl (Nat.le_of_ble_eq_true rfl) d_M_stop_61 ⟨Nat.le_of_ble_eq_true rfl, Nat.le_of_ble_eq_true rfl⟩ rfl (fun σ5 h => ?_)
      refine jv_aload_n B d_M_stop_64 rfl 0 rfl ?_
      refine jv_iload_n B d_M_stop_65 rfl 1 rfl ?_
      refine jv_cvv (As := [.int v1]) B hml hown hts hK hA (c_M_write (ad := ad) (cI := cI) (cA := cA) (cL := cL) (F := F) h) (cwV 1 hts g_M_133 rfl rfl rfl hd_M_write ⟨Nat.le_of_ble_eq_true rfl, Nat.le_of_ble_eq_true rfl⟩) 0 5 rfl rfl rfl rfl (Nat.le_of_ble_eq_true rfl) d_M_stop_66 ⟨Nat.le_of_ble_eq_true rfl, Nat.le_of_ble_eq_true rfl⟩ rfl (fun σ6 h => ?_)
      refine jv_aload_n B d_M_stop_69 rfl 0 rfl ?_
      refine fg_M_number B hts hown hK d_M_stop_70 ?_
      exact jv_iret B hr rfl hlk hK _ rfl h d_M_stop_73
    · replace h := h.2 hc
      refine jv_iconst (v := 0) B d_M_stop_43 (by decide) ?_
      exact jv_iret B hr rfl hlk hK _ rfl h d_M_stop_44
  · replace h := h.2 hc
    refine jv_iconst (v := 0) B d_M_stop_31 (by decide) ?_
    exact jv_iret B hr rfl hlk hK _ rfl h d_M_stop_32
set_option maxRecDepth 100000 in
theorem w_M_stop_0 (X : jv_C p s m args meth c b_M_stop 2 (some .int) y_M_stop wb D jClasses (jTy cI cA cL) A) {post : Int32 → jS → Prop} {σ : jS} {v1 : Int32} (h : p_M_stop σ v1 post) : jv_V p l e (rmk 4 0 0) s m args below meth c D jClasses A 2 0 0 (MQ below (va_Qi post (jv_End D jClasses (jTy cI cA cL) A (fun σ => mw ad cI cA σ F)) A) args s 0 0 A) (mw ad cI cA σ F) [(0, .ref (ad 0)), (1, .int v1)] 0 [] := by
  obtain ⟨B, hml, hown, hts, hK, hA, hr, hlk, hnm⟩ := id X
  unfold p_M_stop at h
  refine jv_aload_n B d_M_stop_0 rfl 0 rfl ?_
  refine jv_iload_n B d_M_stop_1 rfl 1 rfl ?_
  refine jv_if_ge (tgt := 9) B d_M_stop_2 (by decide) (fun hc => ?_) (fun hc => ?_)
  · replace h := h.1 hc
    refine jv_aload_n B d_M_stop_9 rfl 0 rfl ?_
    refine jv_civ (As := []) B hml hown hts hK hA (c_M_goesOn (ad := ad) (cI := cI) (cA := cA) (cL := cL) (F := F) h) (cwV 0 hts g_M_108 rfl rfl rfl hd_M_goesOn ⟨Nat.le_of_ble_eq_true rfl, Nat.le_of_ble_eq_true rfl⟩) 0 5 rfl rfl rfl rfl (Nat.le_of_ble_eq_true rfl) d_M_stop_10 ⟨Nat.le_of_ble_eq_true rfl, Nat.le_of_ble_eq_true rfl⟩ rfl (fun r2 σ1 h => ?_)
    refine jv_if_ne (tgt := 20) B d_M_stop_13 (by decide) (fun hc => ?_) (fun hc => ?_)
    · replace h := h.1 hc
      refine jv_iconst (v := 0) B d_M_stop_20 (by decide) ?_
      exact w_M_stop_21 X h
    · replace h := h.2 hc
      refine jv_iconst (v := 2) B d_M_stop_16 (by decide) ?_
      refine jv_goto (tgt := 21) B d_M_stop_17 (by decide) ?_
      exact w_M_stop_21 X h
  · replace h := h.2 hc
    refine jv_iconst (v := 1) B d_M_stop_5 (by decide) ?_
    refine jv_goto (tgt := 21) B d_M_stop_6 (by decide) ?_
    exact w_M_stop_21 X h
theorem c_M_stop {l : Launch} {D : va_G} {A : Nat → Prop} {ad : Nat → Nat} {cI cA cL : ClassId} {F : va_W} {σ : jS} {v1 : Int32} {post : Int32 → jS → Prop} (h : p_M_stop σ v1 post) : Met l y_M_stop (Cond.code y_M_stop b_M_stop 2 (some .int) :: wb) (rmk 4 0 0) (jv_Pre D jClasses (jTy cI cA cL) A (mw ad cI cA σ F) [.ref (ad 0), .int v1]) (va_Qi post (jv_End D jClasses (jTy cI cA cL) A (fun σ => mw ad cI cA σ F)) A) 0 0 A :=
  jv_ofB (by decide) (Nat.le_of_ble_eq_true rfl) (fun p e s m below meth c X => w_M_stop_0 X h)
set_option maxRecDepth 100000 in
theorem w_M_at_0 (X : jv_C p s m args meth c b_M_at 3 (some .int) y_M_at wb D jClasses (jTy cI cA cL) A) {post : Int32 → jS → Prop} {σ : jS} {v1 v2 : Int32} (h : p_M_at σ v1 v2 post) : jv_V p l e (rmk 1 0 0) s m args below meth c D jClasses A 3 0 0 (MQ below (va_Qi post (jv_End D jClasses (jTy cI cA cL) A (fun σ => mw ad cI cA σ F)) A) args s 0 0 A) (mw ad cI cA σ F) [(0, .ref (ad 0)), (1, .int v1), (2, .int v2)] 0 [] := by
  obtain ⟨B, hml, hown, hts, hK, hA, hr, hlk, hnm⟩ := id X
  unfold p_M_at at h
  refine jv_aload_n B d_M_at_0 rfl 0 rfl ?_
  refine fg_M_slots B hts hown hK d_M_at_1 ?_
  refine jv_sipush (v := 140) B d_M_at_4 (by decide) ?_
  refine jv_iload_n B d_M_at_7 rfl 1 rfl ?_
  refine jv_imul B d_M_at_8 ?_
  refine jv_iload_n B d_M_at_9 rfl 2 rfl ?_
  refine jv_iadd B d_M_at_10 ?_
  refine ld_m_6 B hK h.1 d_M_at_11 ?_
  replace h := h.2
  exact jv_iret B hr rfl hlk hK _ rfl h d_M_at_12
theorem c_M_at {l : Launch} {D : va_G} {A : Nat → Prop} {ad : Nat → Nat} {cI cA cL : ClassId} {F : va_W} {σ : jS} {v1 v2 : Int32} {post : Int32 → jS → Prop} (h : p_M_at σ v1 v2 post) : Met l y_M_at (Cond.code y_M_at b_M_at 3 (some .int) :: wb) (rmk 1 0 0) (jv_Pre D jClasses (jTy cI cA cL) A (mw ad cI cA σ F) [.ref (ad 0), .int v1, .int v2]) (va_Qi post (jv_End D jClasses (jTy cI cA cL) A (fun σ => mw ad cI cA σ F)) A) 0 0 A :=
  jv_ofB (by decide) (Nat.le_of_ble_eq_true rfl) (fun p e s m below meth c X => w_M_at_0 X h)
set_option maxRecDepth 100000 in
theorem w_M_isWhole_135 (X : jv_C p s m args meth c b_M_isWhole 8 (some .boolean) y_M_isWhole wb D jClasses (jTy cI cA cL) A) {post : Int32 → jS → Prop} {v1 : Int32} : ∀ (n : Nat), ∀ (σ : jS) (v2 v3 v4 v5 v6 : Int32), p_M_isWhole_135 post v1 n σ v2 v3 v4 v5 v6 → jv_V p l e (rmk 2 0 0) s m args below meth c D jClasses A 8 0 0 (MQ below (va_Qi post (jv_End D jClasses (jTy cI cA cL) A (fun σ => mw ad cI cA σ F)) A) args s 0 0 A) (mw ad cI cA σ F) [(0, .ref (ad 0)), (1, .int v1), (2, .int v2), (3, .int v3), (4, .int v4), (5, .int v5), (6, .int v6)] 135 [] := by
  obtain ⟨B, hml, hown, hts, hK, hA, hr, hlk, hnm⟩ := id X
  intro n
  induction n with
  | zero => intro σ v2 v3 v4 v5 v6 h; exact h.elim
  | succ n ih =>
    intro σ v2 v3 v4 v5 v6 h
    rw [p_M_isWhole_135] at h
    refine jv_iload B d_M_isWhole_135 6 rfl ?_
    refine jv_iconst (v := 2) B d_M_isWhole_137 (by decide) ?_
    refine jv_iconst (v := 2) B d_M_isWhole_138 (by decide) ?_
    refine jv_iload_n B d_M_isWhole_139 rfl 2 rfl ?_
    refine jv_imul B d_M_isWhole_140 ?_
    refine jv_iadd B d_M_isWhole_141 ?_
    refine jv_icmp_ge (tgt := 172) B d_M_isWhole_142 (by decide) (fun hc => ?_) (fun hc => ?_)
    · replace h := h.1 hc
      refine jv_iload B d_M_isWhole_172 4 rfl ?_
      refine jv_if_eq (tgt := 204) B d_M_isWhole_174 (by decide) (fun hc => ?_) (fun hc => ?_)
      · replace h := h.1 hc
        refine jv_iconst (v := 0) B d_M_isWhole_204 (by decide) ?_
        exact jv_iret B hr (nz h.1) hlk hK _ rfl h.2 d_M_isWhole_205
      · replace h := h.2 hc
        refine jv_iload_n B d_M_isWhole_177 rfl 3 rfl ?_
        refine jv_aload_n B d_M_isWhole_178 rfl 0 rfl ?_
        refine fg_M_sectors B hts hown hK d_M_isWhole_179 ?_
        refine jv_icmp_ne (tgt := 204) B d_M_isWhole_182 (by decide) (fun hc => ?_) (fun hc => ?_)
        · replace h := h.1 hc
          refine jv_iconst (v := 0) B d_M_isWhole_204 (by decide) ?_
          exact jv_iret B hr (nz h.1) hlk hK _ rfl h.2 d_M_isWhole_205
        · replace h := h.2 hc
          refine jv_iload B d_M_isWhole_185 5 rfl ?_
          refine jv_aload_n B d_M_isWhole_187 rfl 0 rfl ?_
          refine jv_iload_n B d_M_isWhole_188 rfl 1 rfl ?_
          refine jv_iconst (v := 2) B d_M_isWhole_189 (by decide) ?_
          refine jv_iconst (v := 2) B d_M_isWhole_190 (by decide) ?_
          refine jv_iload_n B d_M_isWhole_191 rfl 2 rfl ?_
          refine jv_imul B d_M_isWhole_192 ?_
          refine jv_iadd B d_M_isWhole_193 ?_
          refine jv_civ (As := [.int v1, .int (2 + (2 * v2))]) B hml hown hts hK hA (c_M_at (ad := ad) (cI := cI) (cA := cA) (cL := cL) (F := F) h) (cwV 2 hts g_M_136 rfl rfl rfl hd_M_at ⟨Nat.le_of_ble_eq_true rfl, Nat.le_of_ble_eq_true rfl⟩) 0 5 rfl rfl rfl rfl (Nat.le_of_ble_eq_true rfl) d_M_isWhole_194 ⟨Nat.le_of_ble_eq_true rfl, Nat.le_of_ble_eq_true rfl⟩ rfl (fun r6 σ5 h => ?_)
          refine jv_icmp_ne (tgt := 204) B d_M_isWhole_197 (by decide) (fun hc => ?_) (fun hc => ?_)
          · replace h := h.1 hc
            refine jv_iconst (v := 0) B d_M_isWhole_204 (by decide) ?_
            exact jv_iret B hr (nz h.1) hlk hK _ rfl h.2 d_M_isWhole_205
          · replace h := h.2 hc
            refine jv_iconst (v := 1) B d_M_isWhole_200 (by decide) ?_
            refine jv_goto (tgt := 205) B d_M_isWhole_201 (by decide) ?_
            exact jv_iret B hr (nz h.1) hlk hK _ rfl h.2 d_M_isWhole_205
    · replace h := h.2 hc
      refine jv_iload B d_M_isWhole_145 5 rfl ?_
      refine jv_aload_n B d_M_isWhole_147 rfl 0 rfl ?_
      refine jv_iload_n B d_M_isWhole_148 rfl 1 rfl ?_
      refine jv_iload B d_M_isWhole_149 6 rfl ?_
      refine jv_civ (As := [.int v1, .int v6]) B hml hown hts hK hA (c_M_at (ad := ad) (cI := cI) (cA := cA) (cL := cL) (F := F) h) (cwV 2 hts g_M_136 rfl rfl rfl hd_M_at ⟨Nat.le_of_ble_eq_true rfl, Nat.le_of_ble_eq_true rfl⟩) 0 5 rfl rfl rfl rfl (Nat.le_of_ble_eq_true rfl) d_M_isWhole_151 ⟨Nat.le_of_ble_eq_true rfl, Nat.le_of_ble_eq_true rfl⟩ rfl (fun r8 σ7 h => ?_)
      refine jv_iload B d_M_isWhole_154 6 rfl ?_
      refine jv_iconst (v := 1) B d_M_isWhole_156 (by decide) ?_
      refine jv_iadd B d_M_isWhole_157 ?_
      refine jv_imul B d_M_isWhole_158 ?_
      refine jv_iadd B d_M_isWhole_159 ?_
      refine jv_sipush (v := 251) B d_M_isWhole_160 (by decide) ?_
      refine jv_irem B d_M_isWhole_163 (by decide) ?_
      refine jv_istore (lv' := [(5, .int ((v5 + (r8 * (v6 + 1))) - (v5 + (r8 * (v6 + 1))) / 251 * 251)), (0, .ref (ad 0)), (1, .int v1), (2, .int v2), (3, .int v3), (4, .int v4), (6, .int v6)]) B d_M_isWhole_164 (by decide) rfl ?_
      refine jv_iinc (n9 := 6) (v := v6 + 1) (lv' := [(6, .int (v6 + 1)), (5, .int ((v5 + (r8 * (v6 + 1))) - (v5 + (r8 * (v6 + 1))) / 251 * 251)), (0, .ref (ad 0)), (1, .int v1), (2, .int v2), (3, .int v3), (4, .int v4)]) B d_M_isWhole_166 rfl rfl (by decide) rfl ?_
      refine jv_goto (tgt := 135) B d_M_isWhole_169 (by decide) ?_
      refine jv_sub [2, 3, 4, 5, 6, 1, 0] rfl ?_
      exact ih _ _ _ _ _ _ h
set_option maxRecDepth 100000 in
theorem w_M_isWhole_116 (X : jv_C p s m args meth c b_M_isWhole 8 (some .boolean) y_M_isWhole wb D jClasses (jTy cI cA cL) A) {post : Int32 → jS → Prop} {v1 : Int32} {σ : jS} {v2 v3 v5 v6 y0 : Int32} {k42 : jS → Int32 → Int32 → Int32 → Int32 → Prop} (H42 : ∀ (σ : jS) (v2 v3 v4 v5 : Int32), k42 σ v2 v3 v4 v5 → jv_V p l e (rmk 2 0 0) s m args below meth c D jClasses A 8 0 0 (MQ below (va_Qi post (jv_End D jClasses (jTy cI cA cL) A (fun σ => mw ad cI cA σ F)) A) args s 0 0 A) (mw ad cI cA σ F) [(0, .ref (ad 0)), (1, .int v1), (2, .int v2), (3, .int v3), (4, .int v4), (5, .int v5)] 42 []) (h : p_M_isWhole_116 post k42 v1 σ v2 v3 v5 v6 y0) : jv_V p l e (rmk 2 0 0) s m args below meth c D jClasses A 8 0 0 (MQ below (va_Qi post (jv_End D jClasses (jTy cI cA cL) A (fun σ => mw ad cI cA σ F)) A) args s 0 0 A) (mw ad cI cA σ F) [(0, .ref (ad 0)), (1, .int v1), (2, .int v2), (3, .int v3), (5, .int v5), (6, .int v6)] 116 [.int y0] := by
  obtain ⟨B, hml, hown, hts, hK, hA, hr, hlk, hnm⟩ := id X
  unfold p_M_isWhole_116 at h
  refine jv_istore (lv' := [(4, .int y0), (0, .ref (ad 0)), (1, .int v1), (2, .int v2), (3, .int v3), (5, .int v5), (6, .int v6)]) B d_M_isWhole_116 (by decide) rfl ?_
  refine jv_iload_n B d_M_isWhole_118 rfl 4 rfl ?_
  refine jv_iload B d_M_isWhole_119 6 rfl ?_
  refine jv_iadd B d_M_isWhole_121 ?_
  refine jv_istore_n (lv' := [(3, .int (v3 + v6)), (4, .int y0), (0, .ref (ad 0)), (1, .int v1), (2, .int v2), (5, .int v5), (6, .int v6)]) B d_M_isWhole_122 rfl (by decide) rfl ?_
  refine jv_iinc (n9 := 5) (v := v5 + 1) (lv' := [(5, .int (v5 + 1)), (3, .int (v3 + v6)), (4, .int y0), (0, .ref (ad 0)), (1, .int v1), (2, .int v2), (6, .int v6)]) B d_M_isWhole_123 rfl rfl (by decide) rfl ?_
  refine jv_goto (tgt := 42) B d_M_isWhole_126 (by decide) ?_
  refine jv_sub [3, 4, 5, 1, 2, 0] rfl ?_
  exact H42 _ _ _ _ _ h
set_option maxRecDepth 100000 in
theorem w_M_isWhole_115 (X : jv_C p s m args meth c b_M_isWhole 8 (some .boolean) y_M_isWhole wb D jClasses (jTy cI cA cL) A) {post : Int32 → jS → Prop} {v1 : Int32} {σ : jS} {v2 v3 v5 v6 : Int32} {k42 : jS → Int32 → Int32 → Int32 → Int32 → Prop} (H42 : ∀ (σ : jS) (v2 v3 v4 v5 : Int32), k42 σ v2 v3 v4 v5 → jv_V p l e (rmk 2 0 0) s m args below meth c D jClasses A 8 0 0 (MQ below (va_Qi post (jv_End D jClasses (jTy cI cA cL) A (fun σ => mw ad cI cA σ F)) A) args s 0 0 A) (mw ad cI cA σ F) [(0, .ref (ad 0)), (1, .int v1), (2, .int v2), (3, .int v3), (4, .int v4), (5, .int v5)] 42 []) (h : p_M_isWhole_115 post k42 v1 σ v2 v3 v5 v6) : jv_V p l e (rmk 2 0 0) s m args below meth c D jClasses A 8 0 0 (MQ below (va_Qi post (jv_End D jClasses (jTy cI cA cL) A (fun σ => mw ad cI cA σ F)) A) args s 0 0 A) (mw ad cI cA σ F) [(0, .ref (ad 0)), (1, .int v1), (2, .int v2), (3, .int v3), (5, .int v5), (6, .int v6)] 115 [] := by
  obtain ⟨B, hml, hown, hts, hK, hA, hr, hlk, hnm⟩ := id X
  unfold p_M_isWhole_115 at h
  refine jv_iconst (v := 0) B d_M_isWhole_115 (by decide) ?_
  exact w_M_isWhole_116 X H42 h
set_option maxRecDepth 100000 in
theorem w_M_isWhole_111 (X : jv_C p s m args meth c b_M_isWhole 8 (some .boolean) y_M_isWhole wb D jClasses (jTy cI cA cL) A) {post : Int32 → jS → Prop} {v1 : Int32} {σ : jS} {v2 v3 v5 v6 : Int32} {k42 : jS → Int32 → Int32 → Int32 → Int32 → Prop} (H42 : ∀ (σ : jS) (v2 v3 v4 v5 : Int32), k42 σ v2 v3 v4 v5 → jv_V p l e (rmk 2 0 0) s m args below meth c D jClasses A 8 0 0 (MQ below (va_Qi post (jv_End D jClasses (jTy cI cA cL) A (fun σ => mw ad cI cA σ F)) A) args s 0 0 A) (mw ad cI cA σ F) [(0, .ref (ad 0)), (1, .int v1), (2, .int v2), (3, .int v3), (4, .int v4), (5, .int v5)] 42 []) (h : p_M_isWhole_111 post k42 v1 σ v2 v3 v5 v6) : jv_V p l e (rmk 2 0 0) s m args below meth c D jClasses A 8 0 0 (MQ below (va_Qi post (jv_End D jClasses (jTy cI cA cL) A (fun σ => mw ad cI cA σ F)) A) args s 0 0 A) (mw ad cI cA σ F) [(0, .ref (ad 0)), (1, .int v1), (2, .int v2), (3, .int v3), (5, .int v5), (6, .int v6)] 111 [] := by
  obtain ⟨B, hml, hown, hts, hK, hA, hr, hlk, hnm⟩ := id X
  unfold p_M_isWhole_111 at h
  refine jv_iconst (v := 1) B d_M_isWhole_111 (by decide) ?_
  refine jv_goto (tgt := 116) B d_M_isWhole_112 (by decide) ?_
  exact w_M_isWhole_116 X H42 h
set_option maxRecDepth 100000 in
theorem w_M_isWhole_42 (X : jv_C p s m args meth c b_M_isWhole 8 (some .boolean) y_M_isWhole wb D jClasses (jTy cI cA cL) A) {post : Int32 → jS → Prop} {v1 : Int32} : ∀ (n : Nat), ∀ (σ : jS) (v2 v3 v4 v5 : Int32), p_M_isWhole_42 post v1 n σ v2 v3 v4 v5 → jv_V p l e (rmk 2 0 0) s m args below meth c D jClasses A 8 0 0 (MQ below (va_Qi post (jv_End D jClasses (jTy cI cA cL) A (fun σ => mw ad cI cA σ F)) A) args s 0 0 A) (mw ad cI cA σ F) [(0, .ref (ad 0)), (1, .int v1), (2, .int v2), (3, .int v3), (4, .int v4), (5, .int v5)] 42 [] := by
  obtain ⟨B, hml, hown, hts, hK, hA, hr, hlk, hnm⟩ := id X
  intro n
  induction n with
  | zero => intro σ v2 v3 v4 v5 h; exact h.elim
  | succ n ih =>
    intro σ v2 v3 v4 v5 h
    rw [p_M_isWhole_42] at h
    refine jv_iload B d_M_isWhole_42 5 rfl ?_
    refine jv_iload_n B d_M_isWhole_44 rfl 2 rfl ?_
    refine jv_icmp_ge (tgt := 129) B d_M_isWhole_45 (by decide) (fun hc => ?_) (fun hc => ?_)
    · replace h := h.1 hc
      refine jv_iconst (v := 0) B d_M_isWhole_129 (by decide) ?_
      refine jv_istore (lv' := [(5, .int 0), (0, .ref (ad 0)), (1, .int v1), (2, .int v2), (3, .int v3), (4, .int v4)]) B d_M_isWhole_130 (by decide) rfl ?_
      refine jv_iconst (v := 0) B d_M_isWhole_132 (by decide) ?_
      refine jv_istore (lv' := [(6, .int 0), (5, .int 0), (0, .ref (ad 0)), (1, .int v1), (2, .int v2), (3, .int v3), (4, .int v4)]) B d_M_isWhole_133 (by decide) rfl ?_
      refine jv_sub [2, 3, 4, 5, 6, 1, 0] rfl ?_
      obtain ⟨n9, h⟩ := h
      exact w_M_isWhole_135 X n9 _ _ _ _ _ _ h
    · replace h := h.2 hc
      refine jv_aload_n B d_M_isWhole_48 rfl 0 rfl ?_
      refine jv_iload_n B d_M_isWhole_49 rfl 1 rfl ?_
      refine jv_iconst (v := 2) B d_M_isWhole_50 (by decide) ?_
      refine jv_iconst (v := 2) B d_M_isWhole_51 (by decide) ?_
      refine jv_iload B d_M_isWhole_52 5 rfl ?_
      refine jv_imul B d_M_isWhole_54 ?_
      refine jv_iadd B d_M_isWhole_55 ?_
      refine jv_civ (As := [.int v1, .int (2 + (2 * v5))]) B hml hown hts hK hA (c_M_at (ad := ad) (cI := cI) (cA := cA) (cL := cL) (F := F) h) (cwV 2 hts g_M_136 rfl rfl rfl hd_M_at ⟨Nat.le_of_ble_eq_true rfl, Nat.le_of_ble_eq_true rfl⟩) 0 5 rfl rfl rfl rfl (Nat.le_of_ble_eq_true rfl) d_M_isWhole_56 ⟨Nat.le_of_ble_eq_true rfl, Nat.le_of_ble_eq_true rfl⟩ rfl (fun r10 σ9 h => ?_)
      refine jv_istore (lv' := [(6, .int r10), (0, .ref (ad 0)), (1, .int v1), (2, .int v2), (3, .int v3), (4, .int v4), (5, .int v5)]) B d_M_isWhole_59 (by decide) rfl ?_
      refine jv_aload_n B d_M_isWhole_61 rfl 1 rfl ?_
      refine jv_iload_n B d_M_isWhole_62 rfl 2 rfl ?_
      refine jv_iconst (v := 3) B d_M_isWhole_63 (by decide) ?_
      refine jv_iconst (v := 2) B d_M_isWhole_64 (by decide) ?_
      refine jv_iload B d_M_isWhole_65 6 rfl ?_
      refine jv_imul B d_M_isWhole_67 ?_
      refine jv_iadd B d_M_isWhole_68 ?_
      refine jv_civ (As := [.int v1, .int (3 + (2 * v5))]) B hml hown hts hK hA (c_M_at (ad := ad) (cI := cI) (cA := cA) (cL := cL) (F := F) h) (cwV 2 hts g_M_136 rfl rfl rfl hd_M_at ⟨Nat.le_of_ble_eq_true rfl, Nat.le_of_ble_eq_true rfl⟩) 0 5 rfl rfl rfl rfl (Nat.le_of_ble_eq_true rfl) d_M_isWhole_69 ⟨Nat.le_of_ble_eq_true rfl, Nat.le_of_ble_eq_true rfl⟩ rfl (fun r12 σ11 h => ?_)
      refine jv_istore (lv' := [(7, .int r12), (6, .int r10), (0, .ref (ad 0)), (1, .int v1), (2, .int v2), (3, .int v3), (4, .int v4), (5, .int v5)]) B d_M_isWhole_72 (by decide) rfl ?_
      refine jv_iload B d_M_isWhole_74 6 rfl ?_
      refine jv_if_eq (tgt := 115) B d_M_isWhole_76 (by decide) (fun hc => ?_) (fun hc => ?_)
      · replace h := h.1 hc
        refine jv_sub [2, 3, 4, 5, 7, 1] rfl ?_
        exact w_M_isWhole_115 X ih h
      · replace h := h.2 hc
        refine jv_iload B d_M_isWhole_79 1 rfl ?_
        refine jv_if_le (tgt := 115) B d_M_isWhole_81 (by decide) (fun hc => ?_) (fun hc => ?_)
        · replace h := h.1 hc
          refine jv_sub [2, 3, 4, 5, 7, 1] rfl ?_
          exact w_M_isWhole_115 X ih h
        · replace h := h.2 hc
          refine jv_iload B d_M_isWhole_84 0 rfl ?_
          refine jv_iconst (v := 4) B d_M_isWhole_86 (by decide) ?_
          refine jv_icmp_gt (tgt := 115) B d_M_isWhole_87 (by decide) (fun hc => ?_) (fun hc => ?_)
          · replace h := h.1 hc
            refine jv_sub [2, 3, 4, 5, 7, 1] rfl ?_
            exact w_M_isWhole_115 X ih h
          · replace h := h.2 hc
            refine jv_iload B d_M_isWhole_90 7 rfl ?_
            refine jv_if_eq (tgt := 111) B d_M_isWhole_92 (by decide) (fun hc => ?_) (fun hc => ?_)
            · replace h := h.1 hc
              refine jv_sub [2, 3, 4, 5, 7, 1] rfl ?_
              exact w_M_isWhole_111 X ih h
            · replace h := h.2 hc
              refine jv_iload B d_M_isWhole_95 0 rfl ?_
              refine jv_aload_n B d_M_isWhole_97 rfl 2 rfl ?_
              refine jv_iload_n B d_M_isWhole_98 rfl 3 rfl ?_
              refine jv_iconst (v := 1) B d_M_isWhole_99 (by decide) ?_
              refine jv_iconst (v := 2) B d_M_isWhole_100 (by decide) ?_
              refine jv_iload B d_M_isWhole_101 7 rfl ?_
              refine jv_imul B d_M_isWhole_103 ?_
              refine jv_iadd B d_M_isWhole_104 ?_
              refine jv_civ (As := [.int v1, .int (1 + (2 * v5))]) B hml hown hts hK hA (c_M_at (ad := ad) (cI := cI) (cA := cA) (cL := cL) (F := F) h) (cwV 2 hts g_M_136 rfl rfl rfl hd_M_at ⟨Nat.le_of_ble_eq_true rfl, Nat.le_of_ble_eq_true rfl⟩) 0 5 rfl rfl rfl rfl (Nat.le_of_ble_eq_true rfl) d_M_isWhole_105 ⟨Nat.le_of_ble_eq_true rfl, Nat.le_of_ble_eq_true rfl⟩ rfl (fun r14 σ13 h => ?_)
              refine jv_icmp_eq (tgt := 115) B d_M_isWhole_108 (by decide) (fun hc => ?_) (fun hc => ?_)
              · replace h := h.1 hc
                refine jv_sub [2, 3, 4, 5, 7, 1] rfl ?_
                exact w_M_isWhole_115 X ih h
              · replace h := h.2 hc
                refine jv_sub [2, 3, 4, 5, 7, 1] rfl ?_
                exact w_M_isWhole_111 X ih h
set_option maxRecDepth 100000 in
theorem w_M_isWhole_0 (X : jv_C p s m args meth c b_M_isWhole 8 (some .boolean) y_M_isWhole wb D jClasses (jTy cI cA cL) A) {post : Int32 → jS → Prop} {σ : jS} {v1 : Int32} (h : p_M_isWhole σ v1 post) : jv_V p l e (rmk 2 0 0) s m args below meth c D jClasses A 8 0 0 (MQ below (va_Qi post (jv_End D jClasses (jTy cI cA cL) A (fun σ => mw ad cI cA σ F)) A) args s 0 0 A) (mw ad cI cA σ F) [(0, .ref (ad 0)), (1, .int v1)] 0 [] := by
  obtain ⟨B, hml, hown, hts, hK, hA, hr, hlk, hnm⟩ := id X
  unfold p_M_isWhole at h
  refine jv_aload_n B d_M_isWhole_0 rfl 0 rfl ?_
  refine jv_iload_n B d_M_isWhole_1 rfl 1 rfl ?_
  refine jv_iconst (v := 1) B d_M_isWhole_2 (by decide) ?_
  refine jv_civ (As := [.int v1, .int 1]) B hml hown hts hK hA (c_M_at (ad := ad) (cI := cI) (cA := cA) (cL := cL) (F := F) h) (cwV 2 hts g_M_136 rfl rfl rfl hd_M_at ⟨Nat.le_of_ble_eq_true rfl, Nat.le_of_ble_eq_true rfl⟩) 0 5 rfl rfl rfl rfl (Nat.le_of_ble_eq_true rfl) d_M_isWhole_3 ⟨Nat.le_of_ble_eq_true rfl, Nat.le_of_ble_eq_true rfl⟩ rfl (fun r2 σ1 h => ?_)
  refine jv_istore_n (lv' := [(2, .int r2), (0, .ref (ad 0)), (1, .int v1)]) B d_M_isWhole_6 rfl (by decide) rfl ?_
  refine jv_aload_n B d_M_isWhole_7 rfl 1 rfl ?_
  refine jv_iload_n B d_M_isWhole_8 rfl 2 rfl ?_
  refine jv_iconst (v := 0) B d_M_isWhole_9 (by decide) ?_
  refine jv_civ (As := [.int v1, .int 0]) B hml hown hts hK hA (c_M_at (ad := ad) (cI := cI) (cA := cA) (cL := cL) (F := F) h) (cwV 2 hts g_M_136 rfl rfl rfl hd_M_at ⟨Nat.le_of_ble_eq_true rfl, Nat.le_of_ble_eq_true rfl⟩) 0 5 rfl rfl rfl rfl (Nat.le_of_ble_eq_true rfl) d_M_isWhole_10 ⟨Nat.le_of_ble_eq_true rfl, Nat.le_of_ble_eq_true rfl⟩ rfl (fun r4 σ3 h => ?_)
  refine jv_sipush (v := 199) B d_M_isWhole_13 (by decide) ?_
  refine jv_icmp_gt (tgt := 32) B d_M_isWhole_16 (by decide) (fun hc => ?_) (fun hc => ?_)
  · replace h := h.1 hc
    refine jv_iconst (v := 0) B d_M_isWhole_32 (by decide) ?_
    exact jv_iret B hr (nz h.1) hlk hK _ rfl h.2 d_M_isWhole_33
  · replace h := h.2 hc
    refine jv_iload_n B d_M_isWhole_19 rfl 0 rfl ?_
    refine jv_iconst (v := 1) B d_M_isWhole_20 (by decide) ?_
    refine jv_icmp_lt (tgt := 32) B d_M_isWhole_21 (by decide) (fun hc => ?_) (fun hc => ?_)
    · replace h := h.1 hc
      refine jv_iconst (v := 0) B d_M_isWhole_32 (by decide) ?_
      exact jv_iret B hr (nz h.1) hlk hK _ rfl h.2 d_M_isWhole_33
    · replace h := h.2 hc
      refine jv_iload_n B d_M_isWhole_24 rfl 0 rfl ?_
      refine jv_aload_n B d_M_isWhole_25 rfl 1 rfl ?_
      refine fg_M_sectors B hts hown hK d_M_isWhole_26 ?_
      refine jv_icmp_le (tgt := 34) B d_M_isWhole_29 (by decide) (fun hc => ?_) (fun hc => ?_)
      · replace h := h.1 hc
        refine jv_iconst (v := 0) B d_M_isWhole_34 (by decide) ?_
        refine jv_istore_n (lv' := [(3, .int 0), (2, .int r2), (0, .ref (ad 0)), (1, .int v1)]) B d_M_isWhole_35 rfl (by decide) rfl ?_
        refine jv_iconst (v := 1) B d_M_isWhole_36 (by decide) ?_
        refine jv_istore (lv' := [(4, .int 1), (3, .int 0), (2, .int r2), (0, .ref (ad 0)), (1, .int v1)]) B d_M_isWhole_37 (by decide) rfl ?_
        refine jv_iconst (v := 0) B d_M_isWhole_39 (by decide) ?_
        refine jv_istore (lv' := [(5, .int 0), (4, .int 1), (3, .int 0), (2, .int r2), (0, .ref (ad 0)), (1, .int v1)]) B d_M_isWhole_40 (by decide) rfl ?_
        refine jv_sub [4, 5, 3, 2, 1, 0] rfl ?_
        obtain ⟨n9, h⟩ := h
        exact w_M_isWhole_42 X n9 _ _ _ _ _ h
      · replace h := h.2 hc
        refine jv_iconst (v := 0) B d_M_isWhole_32 (by decide) ?_
        exact jv_iret B hr (nz h.1) hlk hK _ rfl h.2 d_M_isWhole_33
theorem c_M_isWhole {l : Launch} {D : va_G} {A : Nat → Prop} {ad : Nat → Nat} {cI cA cL : ClassId} {F : va_W} {σ : jS} {v1 : Int32} {post : Int32 → jS → Prop} (h : p_M_isWhole σ v1 post) : Met l y_M_isWhole (Cond.code y_M_isWhole b_M_isWhole 8 (some .boolean) :: wb) (rmk 2 0 0) (jv_Pre D jClasses (jTy cI cA cL) A (mw ad cI cA σ F) [.ref (ad 0), .int v1]) (va_Qi post (jv_End D jClasses (jTy cI cA cL) A (fun σ => mw ad cI cA σ F)) A) 0 0 A :=
  jv_ofB (by decide) (Nat.le_of_ble_eq_true rfl) (fun p e s m below meth c X => w_M_isWhole_0 X h)
set_option maxRecDepth 100000 in
theorem w_M_resume_198 (X : jv_C p s m args meth c b_M_resume 7 (some .int) y_M_resume wb D jClasses (jTy cI cA cL) A) {post : Int32 → jS → Prop} {σ : jS} {v3 : Int32} (h : p_M_resume_198 post σ v3) : jv_V p l e (rmk 3 0 0) s m args below meth c D jClasses A 7 0 0 (MQ below (va_Qi post (jv_End D jClasses (jTy cI cA cL) A (fun σ => mw ad cI cA σ F)) A) args s 0 0 A) (mw ad cI cA σ F) [(0, .ref (ad 0)), (3, .int v3)] 198 [] := by
  obtain ⟨B, hml, hown, hts, hK, hA, hr, hlk, hnm⟩ := id X
  unfold p_M_resume_198 at h
  refine jv_aload_n B d_M_resume_198 rfl 0 rfl ?_
  refine jv_iconst (v := 0) B d_M_resume_199 (by decide) ?_
  refine jv_cvv (As := [.int 0]) B hml hown hts hK hA (c_M_enter (ad := ad) (cI := cI) (cA := cA) (cL := cL) (F := F) h) (cwV 1 hts g_M_76 rfl rfl rfl hd_M_enter ⟨Nat.le_of_ble_eq_true rfl, Nat.le_of_ble_eq_true rfl⟩) 0 5 rfl rfl rfl rfl (Nat.le_of_ble_eq_true rfl) d_M_resume_200 ⟨Nat.le_of_ble_eq_true rfl, Nat.le_of_ble_eq_true rfl⟩ rfl (fun σ7 h => ?_)
  refine jv_iload_n B d_M_resume_203 rfl 1 rfl ?_
  exact jv_iret B hr rfl hlk hK _ rfl h d_M_resume_204
set_option maxRecDepth 100000 in
theorem w_M_resume_149 (X : jv_C p s m args meth c b_M_resume 7 (some .int) y_M_resume wb D jClasses (jTy cI cA cL) A) {post : Int32 → jS → Prop} {k131 : jS → Int32 → Int32 → Int32 → Prop} (H131 : ∀ (σ : jS) (v3 v4 v5 : Int32), k131 σ v3 v4 v5 → jv_V p l e (rmk 3 0 0) s m args below meth c D jClasses A 7 0 0 (MQ below (va_Qi post (jv_End D jClasses (jTy cI cA cL) A (fun σ => mw ad cI cA σ F)) A) args s 0 0 A) (mw ad cI cA σ F) [(0, .ref (ad 0)), (3, .int v3), (4, .int v4), (5, .int v5)] 131 []) : ∀ (n : Nat), ∀ (σ : jS) (v3 v4 v5 v6 : Int32), p_M_resume_149 post k131 n σ v3 v4 v5 v6 → jv_V p l e (rmk 3 0 0) s m args below meth c D jClasses A 7 0 0 (MQ below (va_Qi post (jv_End D jClasses (jTy cI cA cL) A (fun σ => mw ad cI cA σ F)) A) args s 0 0 A) (mw ad cI cA σ F) [(0, .ref (ad 0)), (3, .int v3), (4, .int v4), (5, .int v5), (6, .int v6)] 149 [] := by
  obtain ⟨B, hml, hown, hts, hK, hA, hr, hlk, hnm⟩ := id X
  intro n
  induction n with
  | zero => intro σ v3 v4 v5 v6 h; exact h.elim
  | succ n ih =>
    intro σ v3 v4 v5 v6 h
    rw [p_M_resume_149] at h
    refine jv_iload B d_M_resume_149 4 rfl ?_
    refine jv_aload_n B d_M_resume_151 rfl 0 rfl ?_
    refine jv_iload_n B d_M_resume_152 rfl 1 rfl ?_
    refine jv_iconst (v := 2) B d_M_resume_153 (by decide) ?_
    refine jv_iconst (v := 2) B d_M_resume_154 (by decide) ?_
    refine jv_iload B d_M_resume_155 3 rfl ?_
    refine jv_imul B d_M_resume_157 ?_
    refine jv_iadd B d_M_resume_158 ?_
    refine jv_civ (As := [.int v3, .int (2 + (2 * v5))]) B hml hown hts hK hA (c_M_at (ad := ad) (cI := cI) (cA := cA) (cL := cL) (F := F) h) (cwV 2 hts g_M_136 rfl rfl rfl hd_M_at ⟨Nat.le_of_ble_eq_true rfl, Nat.le_of_ble_eq_true rfl⟩) 0 5 rfl rfl rfl rfl (Nat.le_of_ble_eq_true rfl) d_M_resume_159 ⟨Nat.le_of_ble_eq_true rfl, Nat.le_of_ble_eq_true rfl⟩ rfl (fun r11 σ10 h => ?_)
    refine jv_icmp_ge (tgt := 192) B d_M_resume_162 (by decide) (fun hc => ?_) (fun hc => ?_)
    · replace h := h.1 hc
      refine jv_iinc (n9 := 3) (v := v5 + 1) (lv' := [(5, .int (v5 + 1)), (0, .ref (ad 0)), (3, .int v3), (4, .int v4), (6, .int v6)]) B d_M_resume_192 rfl rfl (by decide) rfl ?_
      refine jv_goto (tgt := 131) B d_M_resume_195 (by decide) ?_
      refine jv_sub [1, 2, 3, 0] rfl ?_
      exact H131 _ _ _ _ h
    · replace h := h.2 hc
      refine jv_aload_n B d_M_resume_165 rfl 0 rfl ?_
      refine fg_M_states B hts hown hK d_M_resume_166 ?_
      refine jv_iload B d_M_resume_169 2 rfl ?_
      refine jv_aload_n B d_M_resume_171 rfl 0 rfl ?_
      refine jv_iload_n B d_M_resume_172 rfl 1 rfl ?_
      refine jv_iconst (v := 3) B d_M_resume_173 (by decide) ?_
      refine jv_iconst (v := 2) B d_M_resume_174 (by decide) ?_
      refine jv_iload B d_M_resume_175 3 rfl ?_
      refine jv_imul B d_M_resume_177 ?_
      refine jv_iadd B d_M_resume_178 ?_
      refine jv_civ (As := [.int v3, .int (3 + (2 * v5))]) B hml hown hts hK hA (c_M_at (ad := ad) (cI := cI) (cA := cA) (cL := cL) (F := F) h) (cwV 2 hts g_M_136 rfl rfl rfl hd_M_at ⟨Nat.le_of_ble_eq_true rfl, Nat.le_of_ble_eq_true rfl⟩) 0 5 rfl rfl rfl rfl (Nat.le_of_ble_eq_true rfl) d_M_resume_179 ⟨Nat.le_of_ble_eq_true rfl, Nat.le_of_ble_eq_true rfl⟩ rfl (fun r13 σ12 h => ?_)
      refine sd_m_5 B hK h.1 d_M_resume_182 ?_
      replace h := h.2
      refine jv_iinc (n9 := 2) (v := v4 + 1) (lv' := [(4, .int (v4 + 1)), (0, .ref (ad 0)), (3, .int v3), (5, .int v5), (6, .int v6)]) B d_M_resume_183 rfl rfl (by decide) rfl ?_
      refine jv_iinc (n9 := 4) (v := v6 + 1) (lv' := [(6, .int (v6 + 1)), (4, .int (v4 + 1)), (0, .ref (ad 0)), (3, .int v3), (5, .int v5)]) B d_M_resume_186 rfl rfl (by decide) rfl ?_
      refine jv_goto (tgt := 149) B d_M_resume_189 (by decide) ?_
      refine jv_sub [2, 3, 1, 4, 0] rfl ?_
      exact ih _ _ _ _ _ h
set_option maxRecDepth 100000 in
theorem w_M_resume_131 (X : jv_C p s m args meth c b_M_resume 7 (some .int) y_M_resume wb D jClasses (jTy cI cA cL) A) {post : Int32 → jS → Prop} : ∀ (n : Nat), ∀ (σ : jS) (v3 v4 v5 : Int32), p_M_resume_131 post n σ v3 v4 v5 → jv_V p l e (rmk 3 0 0) s m args below meth c D jClasses A 7 0 0 (MQ below (va_Qi post (jv_End D jClasses (jTy cI cA cL) A (fun σ => mw ad cI cA σ F)) A) args s 0 0 A) (mw ad cI cA σ F) [(0, .ref (ad 0)), (3, .int v3), (4, .int v4), (5, .int v5)] 131 [] := by
  obtain ⟨B, hml, hown, hts, hK, hA, hr, hlk, hnm⟩ := id X
  intro n
  induction n with
  | zero => intro σ v3 v4 v5 h; exact h.elim
  | succ n ih =>
    intro σ v3 v4 v5 h
    rw [p_M_resume_131] at h
    refine jv_iload_n B d_M_resume_131 rfl 1 rfl ?_
    refine jv_if_lt (tgt := 198) B d_M_resume_132 (by decide) (fun hc => ?_) (fun hc => ?_)
    · replace h := h.1 hc
      refine jv_sub [0, 1] rfl ?_
      exact w_M_resume_198 X h
    · replace h := h.2 hc
      refine jv_iload B d_M_resume_135 3 rfl ?_
      refine jv_aload_n B d_M_resume_137 rfl 0 rfl ?_
      refine jv_iload_n B d_M_resume_138 rfl 1 rfl ?_
      refine jv_iconst (v := 1) B d_M_resume_139 (by decide) ?_
      refine jv_civ (As := [.int v3, .int 1]) B hml hown hts hK hA (c_M_at (ad := ad) (cI := cI) (cA := cA) (cL := cL) (F := F) h) (cwV 2 hts g_M_136 rfl rfl rfl hd_M_at ⟨Nat.le_of_ble_eq_true rfl, Nat.le_of_ble_eq_true rfl⟩) 0 5 rfl rfl rfl rfl (Nat.le_of_ble_eq_true rfl) d_M_resume_140 ⟨Nat.le_of_ble_eq_true rfl, Nat.le_of_ble_eq_true rfl⟩ rfl (fun r9 σ8 h => ?_)
      refine jv_icmp_ge (tgt := 198) B d_M_resume_143 (by decide) (fun hc => ?_) (fun hc => ?_)
      · replace h := h.1 hc
        refine jv_sub [0, 1] rfl ?_
        exact w_M_resume_198 X h
      · replace h := h.2 hc
        refine jv_iconst (v := 0) B d_M_resume_146 (by decide) ?_
        refine jv_istore (lv' := [(6, .int 0), (0, .ref (ad 0)), (3, .int v3), (4, .int v4), (5, .int v5)]) B d_M_resume_147 (by decide) rfl ?_
        refine jv_sub [1, 2, 3, 4, 0] rfl ?_
        obtain ⟨n9, h⟩ := h
        exact w_M_resume_149 X ih n9 _ _ _ _ _ h
set_option maxRecDepth 100000 in
theorem w_M_resume_104 (X : jv_C p s m args meth c b_M_resume 7 (some .int) y_M_resume wb D jClasses (jTy cI cA cL) A) {post : Int32 → jS → Prop} : ∀ (n : Nat), ∀ (σ : jS) (v3 v4 : Int32), p_M_resume_104 post n σ v3 v4 → jv_V p l e (rmk 3 0 0) s m args below meth c D jClasses A 7 0 0 (MQ below (va_Qi post (jv_End D jClasses (jTy cI cA cL) A (fun σ => mw ad cI cA σ F)) A) args s 0 0 A) (mw ad cI cA σ F) [(0, .ref (ad 0)), (3, .int v3), (4, .int v4)] 104 [] := by
  obtain ⟨B, hml, hown, hts, hK, hA, hr, hlk, hnm⟩ := id X
  intro n
  induction n with
  | zero => intro σ v3 v4 h; exact h.elim
  | succ n ih =>
    intro σ v3 v4 h
    rw [p_M_resume_104] at h
    refine jv_iload B d_M_resume_104 2 rfl ?_
    refine jv_bipush (v := 64) B d_M_resume_106 (by decide) ?_
    refine jv_icmp_ge (tgt := 125) B d_M_resume_108 (by decide) (fun hc => ?_) (fun hc => ?_)
    · replace h := h.1 hc
      refine jv_iconst (v := 0) B d_M_resume_125 (by decide) ?_
      refine jv_istore (lv' := [(4, .int 0), (0, .ref (ad 0)), (3, .int v3)]) B d_M_resume_126 (by decide) rfl ?_
      refine jv_iconst (v := 0) B d_M_resume_128 (by decide) ?_
      refine jv_istore (lv' := [(5, .int 0), (4, .int 0), (0, .ref (ad 0)), (3, .int v3)]) B d_M_resume_129 (by decide) rfl ?_
      refine jv_sub [2, 3, 1, 0] rfl ?_
      obtain ⟨n9, h⟩ := h
      exact w_M_resume_131 X n9 _ _ _ _ h
    · replace h := h.2 hc
      refine jv_aload_n B d_M_resume_111 rfl 0 rfl ?_
      refine fg_M_states B hts hown hK d_M_resume_112 ?_
      refine jv_iload B d_M_resume_115 2 rfl ?_
      refine jv_iconst (v := 0) B d_M_resume_117 (by decide) ?_
      refine sd_m_5 B hK h.1 d_M_resume_118 ?_
      replace h := h.2
      refine jv_iinc (n9 := 2) (v := v4 + 1) (lv' := [(4, .int (v4 + 1)), (0, .ref (ad 0)), (3, .int v3)]) B d_M_resume_119 rfl rfl (by decide) rfl ?_
      refine jv_goto (tgt := 104) B d_M_resume_122 (by decide) ?_
      refine jv_sub [1, 2, 0] rfl ?_
      exact ih _ _ _ h
set_option maxRecDepth 100000 in
theorem w_M_resume_98 (X : jv_C p s m args meth c b_M_resume 7 (some .int) y_M_resume wb D jClasses (jTy cI cA cL) A) {post : Int32 → jS → Prop} {σ : jS} {v3 y0 : Int32} (h : p_M_resume_98 post σ v3 y0) : jv_V p l e (rmk 3 0 0) s m args below meth c D jClasses A 7 0 0 (MQ below (va_Qi post (jv_End D jClasses (jTy cI cA cL) A (fun σ => mw ad cI cA σ F)) A) args s 0 0 A) (mw ad cI cA σ F) [(0, .ref (ad 0)), (3, .int v3)] 98 [.int y0, .ref (ad 0)] := by
  obtain ⟨B, hml, hown, hts, hK, hA, hr, hlk, hnm⟩ := id X
  unfold p_M_resume_98 at h
  refine fs_M_number B hts hown hK d_M_resume_98 ?_
  refine jv_iconst (v := 0) B d_M_resume_101 (by decide) ?_
  refine jv_istore (lv' := [(4, .int 0), (0, .ref (ad 0)), (3, .int v3)]) B d_M_resume_102 (by decide) rfl ?_
  refine jv_sub [1, 2, 0] rfl ?_
  obtain ⟨n9, h⟩ := h
  exact w_M_resume_104 X n9 _ _ _ h
set_option maxRecDepth 100000 in
theorem w_M_resume_82 (X : jv_C p s m args meth c b_M_resume 7 (some .int) y_M_resume wb D jClasses (jTy cI cA cL) A) {post : Int32 → jS → Prop} {σ : jS} {y0 : Int32} (h : p_M_resume_82 post σ y0) : jv_V p l e (rmk 3 0 0) s m args below meth c D jClasses A 7 0 0 (MQ below (va_Qi post (jv_End D jClasses (jTy cI cA cL) A (fun σ => mw ad cI cA σ F)) A) args s 0 0 A) (mw ad cI cA σ F) [(0, .ref (ad 0))] 82 [.int y0] := by
  obtain ⟨B, hml, hown, hts, hK, hA, hr, hlk, hnm⟩ := id X
  unfold p_M_resume_82 at h
  refine jv_istore_n (lv' := [(3, .int y0), (0, .ref (ad 0))]) B d_M_resume_82 rfl (by decide) rfl ?_
  refine jv_aload_n B d_M_resume_83 rfl 1 rfl ?_
  refine jv_iload_n B d_M_resume_84 rfl 0 rfl ?_
  refine jv_if_ge (tgt := 92) B d_M_resume_85 (by decide) (fun hc => ?_) (fun hc => ?_)
  · replace h := h.1 hc
    refine jv_aload_n B d_M_resume_92 rfl 1 rfl ?_
    refine jv_iload_n B d_M_resume_93 rfl 0 rfl ?_
    refine jv_iconst (v := 0) B d_M_resume_94 (by decide) ?_
    refine jv_civ (As := [.int y0, .int 0]) B hml hown hts hK hA (c_M_at (ad := ad) (cI := cI) (cA := cA) (cL := cL) (F := F) h) (cwV 2 hts g_M_136 rfl rfl rfl hd_M_at ⟨Nat.le_of_ble_eq_true rfl, Nat.le_of_ble_eq_true rfl⟩) 0 5 rfl rfl rfl rfl (Nat.le_of_ble_eq_true rfl) d_M_resume_95 ⟨Nat.le_of_ble_eq_true rfl, Nat.le_of_ble_eq_true rfl⟩ rfl (fun r6 σ5 h => ?_)
    refine jv_sub [1, 0] rfl ?_
    exact w_M_resume_98 X h
  · replace h := h.2 hc
    refine jv_iconst (v := 0) B d_M_resume_88 (by decide) ?_
    refine jv_goto (tgt := 98) B d_M_resume_89 (by decide) ?_
    refine jv_sub [1, 0] rfl ?_
    exact w_M_resume_98 X h
set_option maxRecDepth 100000 in
theorem w_M_resume_69 (X : jv_C p s m args meth c b_M_resume 7 (some .int) y_M_resume wb D jClasses (jTy cI cA cL) A) {post : Int32 → jS → Prop} {σ : jS} (h : p_M_resume_69 post σ) : jv_V p l e (rmk 3 0 0) s m args below meth c D jClasses A 7 0 0 (MQ below (va_Qi post (jv_End D jClasses (jTy cI cA cL) A (fun σ => mw ad cI cA σ F)) A) args s 0 0 A) (mw ad cI cA σ F) [(0, .ref (ad 0))] 69 [] := by
  obtain ⟨B, hml, hown, hts, hK, hA, hr, hlk, hnm⟩ := id X
  unfold p_M_resume_69 at h
  refine jv_iconst (v := 0) B d_M_resume_69 (by decide) ?_
  refine jv_goto (tgt := 82) B d_M_resume_70 (by decide) ?_
  exact w_M_resume_82 X h
set_option maxRecDepth 100000 in
theorem w_M_resume_15 (X : jv_C p s m args meth c b_M_resume 7 (some .int) y_M_resume wb D jClasses (jTy cI cA cL) A) {post : Int32 → jS → Prop} {σ : jS} {y0 : Int32} (h : p_M_resume_15 post σ y0) : jv_V p l e (rmk 3 0 0) s m args below meth c D jClasses A 7 0 0 (MQ below (va_Qi post (jv_End D jClasses (jTy cI cA cL) A (fun σ => mw ad cI cA σ F)) A) args s 0 0 A) (mw ad cI cA σ F) [(0, .ref (ad 0))] 15 [.int y0, .ref (ad 0)] := by
  obtain ⟨B, hml, hown, hts, hK, hA, hr, hlk, hnm⟩ := id X
  unfold p_M_resume_15 at h
  refine fs_M_code B hts hown hK d_M_resume_15 ?_
  refine jv_aload_n B d_M_resume_18 rfl 0 rfl ?_
  refine fg_M_code B hts hown hK d_M_resume_19 ?_
  refine jv_if_eq (tgt := 27) B d_M_resume_22 (by decide) (fun hc => ?_) (fun hc => ?_)
  · replace h := h.1 hc
    refine jv_aload_n B d_M_resume_27 rfl 0 rfl ?_
    refine jv_iconst (v := 0) B d_M_resume_28 (by decide) ?_
    refine jv_civ (As := [.int 0]) B hml hown hts hK hA (c_M_isWhole (ad := ad) (cI := cI) (cA := cA) (cL := cL) (F := F) h) (cwV 1 hts g_M_139 rfl rfl rfl hd_M_isWhole ⟨Nat.le_of_ble_eq_true rfl, Nat.le_of_ble_eq_true rfl⟩) 0 5 rfl rfl rfl rfl (Nat.le_of_ble_eq_true rfl) d_M_resume_29 ⟨Nat.le_of_ble_eq_true rfl, Nat.le_of_ble_eq_true rfl⟩ rfl (fun r2 σ1 h => ?_)
    refine jv_istore_n (lv' := [(1, .int r2), (0, .ref (ad 0))]) B d_M_resume_32 rfl (by decide) rfl ?_
    refine jv_aload_n B d_M_resume_33 rfl 1 rfl ?_
    refine jv_iconst (v := 1) B d_M_resume_34 (by decide) ?_
    refine jv_civ (As := [.int 1]) B hml hown hts hK hA (c_M_isWhole (ad := ad) (cI := cI) (cA := cA) (cL := cL) (F := F) h) (cwV 1 hts g_M_139 rfl rfl rfl hd_M_isWhole ⟨Nat.le_of_ble_eq_true rfl, Nat.le_of_ble_eq_true rfl⟩) 0 5 rfl rfl rfl rfl (Nat.le_of_ble_eq_true rfl) d_M_resume_35 ⟨Nat.le_of_ble_eq_true rfl, Nat.le_of_ble_eq_true rfl⟩ rfl (fun r4 σ3 h => ?_)
    refine jv_istore_n (lv' := [(2, .int r4), (1, .int r2), (0, .ref (ad 0))]) B d_M_resume_38 rfl (by decide) rfl ?_
    refine jv_iload_n B d_M_resume_39 rfl 1 rfl ?_
    refine jv_if_eq (tgt := 73) B d_M_resume_40 (by decide) (fun hc => ?_) (fun hc => ?_)
    · replace h := h.1 hc
      refine jv_iload_n B d_M_resume_73 rfl 0 rfl ?_
      refine jv_if_eq (tgt := 81) B d_M_resume_74 (by decide) (fun hc => ?_) (fun hc => ?_)
      · replace h := h.1 hc
        refine jv_iconst (v := (-1)) B d_M_resume_81 (by decide) ?_
        refine jv_sub [2] rfl ?_
        exact w_M_resume_82 X h
      · replace h := h.2 hc
        refine jv_iconst (v := 1) B d_M_resume_77 (by decide) ?_
        refine jv_goto (tgt := 82) B d_M_resume_78 (by decide) ?_
        refine jv_sub [2] rfl ?_
        exact w_M_resume_82 X h
    · replace h := h.2 hc
      refine jv_iload_n B d_M_resume_43 rfl 0 rfl ?_
      refine jv_if_eq (tgt := 69) B d_M_resume_44 (by decide) (fun hc => ?_) (fun hc => ?_)
      · replace h := h.1 hc
        refine jv_sub [2] rfl ?_
        exact w_M_resume_69 X h
      · replace h := h.2 hc
        refine jv_aload_n B d_M_resume_47 rfl 2 rfl ?_
        refine jv_iconst (v := 1) B d_M_resume_48 (by decide) ?_
        refine jv_iconst (v := 0) B d_M_resume_49 (by decide) ?_
        refine jv_civ (As := [.int 1, .int 0]) B hml hown hts hK hA (c_M_at (ad := ad) (cI := cI) (cA := cA) (cL := cL) (F := F) h) (cwV 2 hts g_M_136 rfl rfl rfl hd_M_at ⟨Nat.le_of_ble_eq_true rfl, Nat.le_of_ble_eq_true rfl⟩) 0 5 rfl rfl rfl rfl (Nat.le_of_ble_eq_true rfl) d_M_resume_50 ⟨Nat.le_of_ble_eq_true rfl, Nat.le_of_ble_eq_true rfl⟩ rfl (fun r15 σ14 h => ?_)
        refine jv_aload_n B d_M_resume_53 rfl 2 rfl ?_
        refine jv_iconst (v := 0) B d_M_resume_54 (by decide) ?_
        refine jv_iconst (v := 0) B d_M_resume_55 (by decide) ?_
        refine jv_civ (As := [.int 0, .int 0]) B hml hown hts hK hA (c_M_at (ad := ad) (cI := cI) (cA := cA) (cL := cL) (F := F) h) (cwV 2 hts g_M_136 rfl rfl rfl hd_M_at ⟨Nat.le_of_ble_eq_true rfl, Nat.le_of_ble_eq_true rfl⟩) 0 5 rfl rfl rfl rfl (Nat.le_of_ble_eq_true rfl) d_M_resume_56 ⟨Nat.le_of_ble_eq_true rfl, Nat.le_of_ble_eq_true rfl⟩ rfl (fun r17 σ16 h => ?_)
        refine jv_cis (As := [.int r17]) B hml hown hts hK hA (c_M_next (ad := ad) (cI := cI) (cA := cA) (cL := cL) (F := F) h) (cwS 1 hts g_M_127 rfl rfl rfl hd_M_next ⟨Nat.le_of_ble_eq_true rfl, Nat.le_of_ble_eq_true rfl⟩) rfl (Nat.le_of_ble_eq_true rfl) d_M_resume_59 ⟨Nat.le_of_ble_eq_true rfl, Nat.le_of_ble_eq_true rfl⟩ rfl (fun r19 σ18 h => ?_)
        refine jv_icmp_ne (tgt := 69) B d_M_resume_62 (by decide) (fun hc => ?_) (fun hc => ?_)
        · replace h := h.1 hc
          refine jv_sub [2] rfl ?_
          exact w_M_resume_69 X h
        · replace h := h.2 hc
          refine jv_iconst (v := 1) B d_M_resume_65 (by decide) ?_
          refine jv_goto (tgt := 82) B d_M_resume_66 (by decide) ?_
          refine jv_sub [2] rfl ?_
          exact w_M_resume_82 X h
  · replace h := h.2 hc
    refine jv_iconst (v := 0) B d_M_resume_25 (by decide) ?_
    exact jv_iret B hr rfl hlk hK _ rfl h d_M_resume_26
set_option maxRecDepth 100000 in
theorem w_M_resume_0 (X : jv_C p s m args meth c b_M_resume 7 (some .int) y_M_resume wb D jClasses (jTy cI cA cL) A) {post : Int32 → jS → Prop} {σ : jS} (h : p_M_resume σ post) : jv_V p l e (rmk 3 0 0) s m args below meth c D jClasses A 7 0 0 (MQ below (va_Qi post (jv_End D jClasses (jTy cI cA cL) A (fun σ => mw ad cI cA σ F)) A) args s 0 0 A) (mw ad cI cA σ F) [(0, .ref (ad 0))] 0 [] := by
  obtain ⟨B, hml, hown, hts, hK, hA, hr, hlk, hnm⟩ := id X
  unfold p_M_resume at h
  refine jv_aload_n B d_M_resume_0 rfl 0 rfl ?_
  refine jv_aload_n B d_M_resume_1 rfl 0 rfl ?_
  refine fg_M_phase B hts hown hK d_M_resume_2 ?_
  refine jv_bipush (v := 7) B d_M_resume_5 (by decide) ?_
  refine jv_icmp_ne (tgt := 14) B d_M_resume_7 (by decide) (fun hc => ?_) (fun hc => ?_)
  · replace h := h.1 hc
    refine jv_iconst (v := 1) B d_M_resume_14 (by decide) ?_
    exact w_M_resume_15 X h
  · replace h := h.2 hc
    refine jv_iconst (v := 0) B d_M_resume_10 (by decide) ?_
    refine jv_goto (tgt := 15) B d_M_resume_11 (by decide) ?_
    exact w_M_resume_15 X h
theorem c_M_resume {l : Launch} {D : va_G} {A : Nat → Prop} {ad : Nat → Nat} {cI cA cL : ClassId} {F : va_W} {σ : jS} {post : Int32 → jS → Prop} (h : p_M_resume σ post) : Met l y_M_resume (Cond.code y_M_resume b_M_resume 7 (some .int) :: wb) (rmk 3 0 0) (jv_Pre D jClasses (jTy cI cA cL) A (mw ad cI cA σ F) [.ref (ad 0)]) (va_Qi post (jv_End D jClasses (jTy cI cA cL) A (fun σ => mw ad cI cA σ F)) A) 0 0 A :=
  jv_ofB (by decide) (Nat.le_of_ble_eq_true rfl) (fun p e s m below meth c X => w_M_resume_0 X h)
set_option maxRecDepth 100000 in
theorem w_M_poke_37 (X : jv_C p s m args meth c b_M_poke 4 none y_M_poke wb D jClasses (jTy cI cA cL) A) {post : jS → Prop} {v1 v2 v3 : Int32} {σ : jS} {y0 : Int32} (h : p_M_poke_37 post v1 v2 v3 σ y0) : jv_V p l e (rmk 1 0 0) s m args below meth c D jClasses A 4 0 0 (MQ below (va_Qv post (jv_End D jClasses (jTy cI cA cL) A (fun σ => mw ad cI cA σ F)) A) args s 0 0 A) (mw ad cI cA σ F) [(0, .ref (ad 0)), (1, .int v1), (2, .int v2), (3, .int v3)] 37 [.int y0, .ref (ad 0)] := by
  obtain ⟨B, hml, hown, hts, hK, hA, hr, hlk, hnm⟩ := id X
  unfold p_M_poke_37 at h
  refine fs_M_code B hts hown hK d_M_poke_37 ?_
  refine jv_aload_n B d_M_poke_40 rfl 0 rfl ?_
  refine fg_M_code B hts hown hK d_M_poke_41 ?_
  refine jv_if_ne (tgt := 60) B d_M_poke_44 (by decide) (fun hc => ?_) (fun hc => ?_)
  · replace h := h.1 hc
    exact jv_vret B hr hlk hK _ rfl h d_M_poke_60
  · replace h := h.2 hc
    refine jv_aload_n B d_M_poke_47 rfl 0 rfl ?_
    refine fg_M_slots B hts hown hK d_M_poke_48 ?_
    refine jv_sipush (v := 140) B d_M_poke_51 (by decide) ?_
    refine jv_iload_n B d_M_poke_54 rfl 1 rfl ?_
    refine jv_imul B d_M_poke_55 ?_
    refine jv_iload_n B d_M_poke_56 rfl 2 rfl ?_
    refine jv_iadd B d_M_poke_57 ?_
    refine jv_iload_n B d_M_poke_58 rfl 3 rfl ?_
    refine sd_m_6 B hK h.1 d_M_poke_59 ?_
    replace h := h.2
    exact jv_vret B hr hlk hK _ rfl h d_M_poke_60
set_option maxRecDepth 100000 in
theorem w_M_poke_32 (X : jv_C p s m args meth c b_M_poke 4 none y_M_poke wb D jClasses (jTy cI cA cL) A) {post : jS → Prop} {v1 v2 v3 : Int32} {σ : jS} (h : p_M_poke_32 post v1 v2 v3 σ) : jv_V p l e (rmk 1 0 0) s m args below meth c D jClasses A 4 0 0 (MQ below (va_Qv post (jv_End D jClasses (jTy cI cA cL) A (fun σ => mw ad cI cA σ F)) A) args s 0 0 A) (mw ad cI cA σ F) [(0, .ref (ad 0)), (1, .int v1), (2, .int v2), (3, .int v3)] 32 [.ref (ad 0)] := by
  obtain ⟨B, hml, hown, hts, hK, hA, hr, hlk, hnm⟩ := id X
  unfold p_M_poke_32 at h
  refine jv_iconst (v := 1) B d_M_poke_32 (by decide) ?_
  refine jv_goto (tgt := 37) B d_M_poke_33 (by decide) ?_
  exact w_M_poke_37 X h
set_option maxRecDepth 100000 in
theorem w_M_poke_0 (X : jv_C p s m args meth c b_M_poke 4 none y_M_poke wb D jClasses (jTy cI cA cL) A) {post : jS → Prop} {σ : jS} {v1 v2 v3 : Int32} (h : p_M_poke σ v1 v2 v3 post) : jv_V p l e (rmk 1 0 0) s m args below meth c D jClasses A 4 0 0 (MQ below (va_Qv post (jv_End D jClasses (jTy cI cA cL) A (fun σ => mw ad cI cA σ F)) A) args s 0 0 A) (mw ad cI cA σ F) [(0, .ref (ad 0)), (1, .int v1), (2, .int v2), (3, .int v3)] 0 [] := by
  obtain ⟨B, hml, hown, hts, hK, hA, hr, hlk, hnm⟩ := id X
  unfold p_M_poke at h
  refine jv_aload_n B d_M_poke_0 rfl 0 rfl ?_
  refine jv_iload_n B d_M_poke_1 rfl 1 rfl ?_
  refine jv_if_lt (tgt := 32) B d_M_poke_2 (by decide) (fun hc => ?_) (fun hc => ?_)
  · replace h := h.1 hc
    exact w_M_poke_32 X h
  · replace h := h.2 hc
    refine jv_iload_n B d_M_poke_5 rfl 1 rfl ?_
    refine jv_iconst (v := 1) B d_M_poke_6 (by decide) ?_
    refine jv_icmp_gt (tgt := 32) B d_M_poke_7 (by decide) (fun hc => ?_) (fun hc => ?_)
    · replace h := h.1 hc
      exact w_M_poke_32 X h
    · replace h := h.2 hc
      refine jv_iload_n B d_M_poke_10 rfl 2 rfl ?_
      refine jv_if_lt (tgt := 32) B d_M_poke_11 (by decide) (fun hc => ?_) (fun hc => ?_)
      · replace h := h.1 hc
        exact w_M_poke_32 X h
      · replace h := h.2 hc
        refine jv_iload_n B d_M_poke_14 rfl 2 rfl ?_
        refine jv_sipush (v := 139) B d_M_poke_15 (by decide) ?_
        refine jv_icmp_gt (tgt := 32) B d_M_poke_18 (by decide) (fun hc => ?_) (fun hc => ?_)
        · replace h := h.1 hc
          exact w_M_poke_32 X h
        · replace h := h.2 hc
          refine jv_iload_n B d_M_poke_21 rfl 3 rfl ?_
          refine jv_if_lt (tgt := 32) B d_M_poke_22 (by decide) (fun hc => ?_) (fun hc => ?_)
          · replace h := h.1 hc
            exact w_M_poke_32 X h
          · replace h := h.2 hc
            refine jv_iload_n B d_M_poke_25 rfl 3 rfl ?_
            refine jv_sipush (v := 255) B d_M_poke_26 (by decide) ?_
            refine jv_icmp_le (tgt := 36) B d_M_poke_29 (by decide) (fun hc => ?_) (fun hc => ?_)
            · replace h := h.1 hc
              refine jv_iconst (v := 0) B d_M_poke_36 (by decide) ?_
              exact w_M_poke_37 X h
            · replace h := h.2 hc
              exact w_M_poke_32 X h
theorem c_M_poke {l : Launch} {D : va_G} {A : Nat → Prop} {ad : Nat → Nat} {cI cA cL : ClassId} {F : va_W} {σ : jS} {v1 v2 v3 : Int32} {post : jS → Prop} (h : p_M_poke σ v1 v2 v3 post) : Met l y_M_poke (Cond.code y_M_poke b_M_poke 4 none :: wb) (rmk 1 0 0) (jv_Pre D jClasses (jTy cI cA cL) A (mw ad cI cA σ F) [.ref (ad 0), .int v1, .int v2, .int v3]) (va_Qv post (jv_End D jClasses (jTy cI cA cL) A (fun σ => mw ad cI cA σ F)) A) 0 0 A :=
  jv_ofB (by decide) (Nat.le_of_ble_eq_true rfl) (fun p e s m below meth c X => w_M_poke_0 X h)
set_option maxRecDepth 100000 in
theorem w_M_second_25 (X : jv_C p s m args meth c b_M_second 3 (some .boolean) y_M_second wb D jClasses (jTy cI cA cL) A) {post : Int32 → jS → Prop} {v1 v2 : Int32} {σ : jS} {y0 : Int32} (h : p_M_second_25 post v1 v2 σ y0) : jv_V p l e (rmk 2 0 0) s m args below meth c D jClasses A 3 0 0 (MQ below (va_Qi post (jv_End D jClasses (jTy cI cA cL) A (fun σ => mw ad cI cA σ F)) A) args s 0 0 A) (mw ad cI cA σ F) [(0, .ref (ad 0)), (1, .int v1), (2, .int v2)] 25 [.int y0, .ref (ad 0)] := by
  obtain ⟨B, hml, hown, hts, hK, hA, hr, hlk, hnm⟩ := id X
  unfold p_M_second_25 at h
  refine fs_M_code B hts hown hK d_M_second_25 ?_
  refine jv_aload_n B d_M_second_28 rfl 0 rfl ?_
  refine fg_M_code B hts hown hK d_M_second_29 ?_
  refine jv_if_ne (tgt := 45) B d_M_second_32 (by decide) (fun hc => ?_) (fun hc => ?_)
  · replace h := h.1 hc
    refine jv_iconst (v := 0) B d_M_second_45 (by decide) ?_
    exact jv_iret B hr (nz h.1) hlk hK _ rfl h.2 d_M_second_46
  · replace h := h.2 hc
    refine jv_aload_n B d_M_second_35 rfl 0 rfl ?_
    refine fg_M_states B hts hown hK d_M_second_36 ?_
    refine jv_iload_n B d_M_second_39 rfl 1 rfl ?_
    refine ld_m_5 B hK h.1 d_M_second_40 ?_
    replace h := h.2
    refine jv_iconst (v := 3) B d_M_second_41 (by decide) ?_
    refine jv_icmp_eq (tgt := 47) B d_M_second_42 (by decide) (fun hc => ?_) (fun hc => ?_)
    · replace h := h.1 hc
      refine jv_aload_n B d_M_second_47 rfl 0 rfl ?_
      refine fg_M_states B hts hown hK d_M_second_48 ?_
      refine jv_iload_n B d_M_second_51 rfl 1 rfl ?_
      refine jv_iconst (v := 4) B d_M_second_52 (by decide) ?_
      refine sd_m_5 B hK h.1 d_M_second_53 ?_
      replace h := h.2
      refine jv_aload_n B d_M_second_54 rfl 0 rfl ?_
      refine fg_M_target B hts hown hK d_M_second_55 ?_
      refine jv_iload_n B d_M_second_58 rfl 1 rfl ?_
      refine jv_iload_n B d_M_second_59 rfl 2 rfl ?_
      refine sd_m_4 B hK h.1 d_M_second_60 ?_
      replace h := h.2
      refine jv_iconst (v := 1) B d_M_second_61 (by decide) ?_
      exact jv_iret B hr (nz h.1) hlk hK _ rfl h.2 d_M_second_62
    · replace h := h.2 hc
      refine jv_iconst (v := 0) B d_M_second_45 (by decide) ?_
      exact jv_iret B hr (nz h.1) hlk hK _ rfl h.2 d_M_second_46
set_option maxRecDepth 100000 in
theorem w_M_second_0 (X : jv_C p s m args meth c b_M_second 3 (some .boolean) y_M_second wb D jClasses (jTy cI cA cL) A) {post : Int32 → jS → Prop} {σ : jS} {v1 v2 : Int32} (h : p_M_second σ v1 v2 post) : jv_V p l e (rmk 2 0 0) s m args below meth c D jClasses A 3 0 0 (MQ below (va_Qi post (jv_End D jClasses (jTy cI cA cL) A (fun σ => mw ad cI cA σ F)) A) args s 0 0 A) (mw ad cI cA σ F) [(0, .ref (ad 0)), (1, .int v1), (2, .int v2)] 0 [] := by
  obtain ⟨B, hml, hown, hts, hK, hA, hr, hlk, hnm⟩ := id X
  unfold p_M_second at h
  refine jv_aload_n B d_M_second_0 rfl 0 rfl ?_
  refine jv_aload_n B d_M_second_1 rfl 0 rfl ?_
  refine jv_iload_n B d_M_second_2 rfl 1 rfl ?_
  refine jv_civ (As := [.int v1]) B hml hown hts hK hA (c_M_isSector (ad := ad) (cI := cI) (cA := cA) (cL := cL) (F := F) h) (cwV 1 hts g_M_50 rfl rfl rfl hd_M_isSector ⟨Nat.le_of_ble_eq_true rfl, Nat.le_of_ble_eq_true rfl⟩) 0 5 rfl rfl rfl rfl (Nat.le_of_ble_eq_true rfl) d_M_second_3 ⟨Nat.le_of_ble_eq_true rfl, Nat.le_of_ble_eq_true rfl⟩ rfl (fun r2 σ1 h => ?_)
  refine jv_if_ne (tgt := 13) B d_M_second_6 (by decide) (fun hc => ?_) (fun hc => ?_)
  · replace h := h.1 hc
    refine jv_aload_n B d_M_second_13 rfl 0 rfl ?_
    refine jv_civ (As := []) B hml hown hts hK hA (c_M_goesOn (ad := ad) (cI := cI) (cA := cA) (cL := cL) (F := F) h) (cwV 0 hts g_M_108 rfl rfl rfl hd_M_goesOn ⟨Nat.le_of_ble_eq_true rfl, Nat.le_of_ble_eq_true rfl⟩) 0 5 rfl rfl rfl rfl (Nat.le_of_ble_eq_true rfl) d_M_second_14 ⟨Nat.le_of_ble_eq_true rfl, Nat.le_of_ble_eq_true rfl⟩ rfl (fun r4 σ3 h => ?_)
    refine jv_if_ne (tgt := 24) B d_M_second_17 (by decide) (fun hc => ?_) (fun hc => ?_)
    · replace h := h.1 hc
      refine jv_iconst (v := 0) B d_M_second_24 (by decide) ?_
      exact w_M_second_25 X h
    · replace h := h.2 hc
      refine jv_iconst (v := 2) B d_M_second_20 (by decide) ?_
      refine jv_goto (tgt := 25) B d_M_second_21 (by decide) ?_
      exact w_M_second_25 X h
  · replace h := h.2 hc
    refine jv_iconst (v := 1) B d_M_second_9 (by decide) ?_
    refine jv_goto (tgt := 25) B d_M_second_10 (by decide) ?_
    exact w_M_second_25 X h
theorem c_M_second {l : Launch} {D : va_G} {A : Nat → Prop} {ad : Nat → Nat} {cI cA cL : ClassId} {F : va_W} {σ : jS} {v1 v2 : Int32} {post : Int32 → jS → Prop} (h : p_M_second σ v1 v2 post) : Met l y_M_second (Cond.code y_M_second b_M_second 3 (some .boolean) :: wb) (rmk 2 0 0) (jv_Pre D jClasses (jTy cI cA cL) A (mw ad cI cA σ F) [.ref (ad 0), .int v1, .int v2]) (va_Qi post (jv_End D jClasses (jTy cI cA cL) A (fun σ => mw ad cI cA σ F)) A) 0 0 A :=
  jv_ofB (by decide) (Nat.le_of_ble_eq_true rfl) (fun p e s m below meth c X => w_M_second_0 X h)
set_option maxRecDepth 100000 in
theorem w_M_state_0 (X : jv_C p s m args meth c b_M_state 2 (some .int) y_M_state wb D jClasses (jTy cI cA cL) A) {post : Int32 → jS → Prop} {σ : jS} {v1 : Int32} (h : p_M_state σ v1 post) : jv_V p l e (rmk 2 0 0) s m args below meth c D jClasses A 2 0 0 (MQ below (va_Qi post (jv_End D jClasses (jTy cI cA cL) A (fun σ => mw ad cI cA σ F)) A) args s 0 0 A) (mw ad cI cA σ F) [(0, .ref (ad 0)), (1, .int v1)] 0 [] := by
  obtain ⟨B, hml, hown, hts, hK, hA, hr, hlk, hnm⟩ := id X
  unfold p_M_state at h
  refine jv_aload_n B d_M_state_0 rfl 0 rfl ?_
  refine jv_iconst (v := 0) B d_M_state_1 (by decide) ?_
  refine fs_M_code B hts hown hK d_M_state_2 ?_
  refine jv_aload_n B d_M_state_5 rfl 0 rfl ?_
  refine jv_civ (As := []) B hml hown hts hK hA (c_M_goesOn (ad := ad) (cI := cI) (cA := cA) (cL := cL) (F := F) h) (cwV 0 hts g_M_108 rfl rfl rfl hd_M_goesOn ⟨Nat.le_of_ble_eq_true rfl, Nat.le_of_ble_eq_true rfl⟩) 0 5 rfl rfl rfl rfl (Nat.le_of_ble_eq_true rfl) d_M_state_6 ⟨Nat.le_of_ble_eq_true rfl, Nat.le_of_ble_eq_true rfl⟩ rfl (fun r2 σ1 h => ?_)
  refine jv_if_eq (tgt := 29) B d_M_state_9 (by decide) (fun hc => ?_) (fun hc => ?_)
  · replace h := h.1 hc
    refine jv_iconst (v := (-1)) B d_M_state_29 (by decide) ?_
    exact jv_iret B hr rfl hlk hK _ rfl h d_M_state_30
  · replace h := h.2 hc
    refine jv_aload_n B d_M_state_12 rfl 0 rfl ?_
    refine jv_iload_n B d_M_state_13 rfl 1 rfl ?_
    refine jv_civ (As := [.int v1]) B hml hown hts hK hA (c_M_isSector (ad := ad) (cI := cI) (cA := cA) (cL := cL) (F := F) h) (cwV 1 hts g_M_50 rfl rfl rfl hd_M_isSector ⟨Nat.le_of_ble_eq_true rfl, Nat.le_of_ble_eq_true rfl⟩) 0 5 rfl rfl rfl rfl (Nat.le_of_ble_eq_true rfl) d_M_state_14 ⟨Nat.le_of_ble_eq_true rfl, Nat.le_of_ble_eq_true rfl⟩ rfl (fun r4 σ3 h => ?_)
    refine jv_if_eq (tgt := 29) B d_M_state_17 (by decide) (fun hc => ?_) (fun hc => ?_)
    · replace h := h.1 hc
      refine jv_iconst (v := (-1)) B d_M_state_29 (by decide) ?_
      exact jv_iret B hr rfl hlk hK _ rfl h d_M_state_30
    · replace h := h.2 hc
      refine jv_aload_n B d_M_state_20 rfl 0 rfl ?_
      refine fg_M_states B hts hown hK d_M_state_21 ?_
      refine jv_iload_n B d_M_state_24 rfl 1 rfl ?_
      refine ld_m_5 B hK h.1 d_M_state_25 ?_
      replace h := h.2
      refine jv_goto (tgt := 30) B d_M_state_26 (by decide) ?_
      exact jv_iret B hr rfl hlk hK _ rfl h d_M_state_30
theorem c_M_state {l : Launch} {D : va_G} {A : Nat → Prop} {ad : Nat → Nat} {cI cA cL : ClassId} {F : va_W} {σ : jS} {v1 : Int32} {post : Int32 → jS → Prop} (h : p_M_state σ v1 post) : Met l y_M_state (Cond.code y_M_state b_M_state 2 (some .int) :: wb) (rmk 2 0 0) (jv_Pre D jClasses (jTy cI cA cL) A (mw ad cI cA σ F) [.ref (ad 0), .int v1]) (va_Qi post (jv_End D jClasses (jTy cI cA cL) A (fun σ => mw ad cI cA σ F)) A) 0 0 A :=
  jv_ofB (by decide) (Nat.le_of_ble_eq_true rfl) (fun p e s m below meth c X => w_M_state_0 X h)
set_option maxRecDepth 100000 in
theorem w_M_count_40 (X : jv_C p s m args meth c b_M_count 4 (some .int) y_M_count wb D jClasses (jTy cI cA cL) A) {post : Int32 → jS → Prop} {v1 : Int32} {σ : jS} {v3 y0 y1 : Int32} {k9 : jS → Int32 → Int32 → Prop} (H9 : ∀ (σ : jS) (v2 v3 : Int32), k9 σ v2 v3 → jv_V p l e (rmk 2 0 0) s m args below meth c D jClasses A 4 0 0 (MQ below (va_Qi post (jv_End D jClasses (jTy cI cA cL) A (fun σ => mw ad cI cA σ F)) A) args s 0 0 A) (mw ad cI cA σ F) [(0, .ref (ad 0)), (1, .int v1), (2, .int v2), (3, .int v3)] 9 []) (h : p_M_count_40 post k9 v1 σ v3 y0 y1) : jv_V p l e (rmk 2 0 0) s m args below meth c D jClasses A 4 0 0 (MQ below (va_Qi post (jv_End D jClasses (jTy cI cA cL) A (fun σ => mw ad cI cA σ F)) A) args s 0 0 A) (mw ad cI cA σ F) [(0, .ref (ad 0)), (1, .int v1), (3, .int v3)] 40 [.int y0, .int y1] := by
  obtain ⟨B, hml, hown, hts, hK, hA, hr, hlk, hnm⟩ := id X
  unfold p_M_count_40 at h
  refine jv_iadd B d_M_count_40 ?_
  refine jv_istore_n (lv' := [(2, .int (y1 + y0)), (0, .ref (ad 0)), (1, .int v1), (3, .int v3)]) B d_M_count_41 rfl (by decide) rfl ?_
  refine jv_iinc (n9 := 3) (v := v3 + 1) (lv' := [(3, .int (v3 + 1)), (2, .int (y1 + y0)), (0, .ref (ad 0)), (1, .int v1)]) B d_M_count_42 rfl rfl (by decide) rfl ?_
  refine jv_goto (tgt := 9) B d_M_count_45 (by decide) ?_
  refine jv_sub [2, 3, 1, 0] rfl ?_
  exact H9 _ _ _ h
set_option maxRecDepth 100000 in
theorem w_M_count_39 (X : jv_C p s m args meth c b_M_count 4 (some .int) y_M_count wb D jClasses (jTy cI cA cL) A) {post : Int32 → jS → Prop} {v1 : Int32} {σ : jS} {v3 y0 : Int32} {k9 : jS → Int32 → Int32 → Prop} (H9 : ∀ (σ : jS) (v2 v3 : Int32), k9 σ v2 v3 → jv_V p l e (rmk 2 0 0) s m args below meth c D jClasses A 4 0 0 (MQ below (va_Qi post (jv_End D jClasses (jTy cI cA cL) A (fun σ => mw ad cI cA σ F)) A) args s 0 0 A) (mw ad cI cA σ F) [(0, .ref (ad 0)), (1, .int v1), (2, .int v2), (3, .int v3)] 9 []) (h : p_M_count_39 post k9 v1 σ v3 y0) : jv_V p l e (rmk 2 0 0) s m args below meth c D jClasses A 4 0 0 (MQ below (va_Qi post (jv_End D jClasses (jTy cI cA cL) A (fun σ => mw ad cI cA σ F)) A) args s 0 0 A) (mw ad cI cA σ F) [(0, .ref (ad 0)), (1, .int v1), (3, .int v3)] 39 [.int y0] := by
  obtain ⟨B, hml, hown, hts, hK, hA, hr, hlk, hnm⟩ := id X
  unfold p_M_count_39 at h
  refine jv_iconst (v := 0) B d_M_count_39 (by decide) ?_
  exact w_M_count_40 X H9 h
set_option maxRecDepth 100000 in
theorem w_M_count_9 (X : jv_C p s m args meth c b_M_count 4 (some .int) y_M_count wb D jClasses (jTy cI cA cL) A) {post : Int32 → jS → Prop} {v1 : Int32} : ∀ (n : Nat), ∀ (σ : jS) (v2 v3 : Int32), p_M_count_9 post v1 n σ v2 v3 → jv_V p l e (rmk 2 0 0) s m args below meth c D jClasses A 4 0 0 (MQ below (va_Qi post (jv_End D jClasses (jTy cI cA cL) A (fun σ => mw ad cI cA σ F)) A) args s 0 0 A) (mw ad cI cA σ F) [(0, .ref (ad 0)), (1, .int v1), (2, .int v2), (3, .int v3)] 9 [] := by
  obtain ⟨B, hml, hown, hts, hK, hA, hr, hlk, hnm⟩ := id X
  intro n
  induction n with
  | zero => intro σ v2 v3 h; exact h.elim
  | succ n ih =>
    intro σ v2 v3 h
    rw [p_M_count_9] at h
    refine jv_iload_n B d_M_count_9 rfl 3 rfl ?_
    refine jv_aload_n B d_M_count_10 rfl 0 rfl ?_
    refine fg_M_sectors B hts hown hK d_M_count_11 ?_
    refine jv_icmp_ge (tgt := 48) B d_M_count_14 (by decide) (fun hc => ?_) (fun hc => ?_)
    · replace h := h.1 hc
      refine jv_iload_n B d_M_count_48 rfl 2 rfl ?_
      exact jv_iret B hr rfl hlk hK _ rfl h d_M_count_49
    · replace h := h.2 hc
      refine jv_iload_n B d_M_count_17 rfl 2 rfl ?_
      refine jv_aload_n B d_M_count_18 rfl 0 rfl ?_
      refine jv_civ (As := []) B hml hown hts hK hA (c_M_goesOn (ad := ad) (cI := cI) (cA := cA) (cL := cL) (F := F) h) (cwV 0 hts g_M_108 rfl rfl rfl hd_M_goesOn ⟨Nat.le_of_ble_eq_true rfl, Nat.le_of_ble_eq_true rfl⟩) 0 5 rfl rfl rfl rfl (Nat.le_of_ble_eq_true rfl) d_M_count_19 ⟨Nat.le_of_ble_eq_true rfl, Nat.le_of_ble_eq_true rfl⟩ rfl (fun r2 σ1 h => ?_)
      refine jv_if_eq (tgt := 39) B d_M_count_22 (by decide) (fun hc => ?_) (fun hc => ?_)
      · replace h := h.1 hc
        refine jv_sub [0, 1, 3] rfl ?_
        exact w_M_count_39 X ih h
      · replace h := h.2 hc
        refine jv_aload_n B d_M_count_25 rfl 0 rfl ?_
        refine fg_M_states B hts hown hK d_M_count_26 ?_
        refine jv_iload_n B d_M_count_29 rfl 3 rfl ?_
        refine ld_m_5 B hK h.1 d_M_count_30 ?_
        replace h := h.2
        refine jv_iload_n B d_M_count_31 rfl 1 rfl ?_
        refine jv_icmp_ne (tgt := 39) B d_M_count_32 (by decide) (fun hc => ?_) (fun hc => ?_)
        · replace h := h.1 hc
          refine jv_sub [0, 1, 3] rfl ?_
          exact w_M_count_39 X ih h
        · replace h := h.2 hc
          refine jv_iconst (v := 1) B d_M_count_35 (by decide) ?_
          refine jv_goto (tgt := 40) B d_M_count_36 (by decide) ?_
          refine jv_sub [0, 1, 3] rfl ?_
          exact w_M_count_40 X ih h
set_option maxRecDepth 100000 in
theorem w_M_count_0 (X : jv_C p s m args meth c b_M_count 4 (some .int) y_M_count wb D jClasses (jTy cI cA cL) A) {post : Int32 → jS → Prop} {σ : jS} {v1 : Int32} (h : p_M_count σ v1 post) : jv_V p l e (rmk 2 0 0) s m args below meth c D jClasses A 4 0 0 (MQ below (va_Qi post (jv_End D jClasses (jTy cI cA cL) A (fun σ => mw ad cI cA σ F)) A) args s 0 0 A) (mw ad cI cA σ F) [(0, .ref (ad 0)), (1, .int v1)] 0 [] := by
  obtain ⟨B, hml, hown, hts, hK, hA, hr, hlk, hnm⟩ := id X
  unfold p_M_count at h
  refine jv_aload_n B d_M_count_0 rfl 0 rfl ?_
  refine jv_iconst (v := 0) B d_M_count_1 (by decide) ?_
  refine fs_M_code B hts hown hK d_M_count_2 ?_
  refine jv_iconst (v := 0) B d_M_count_5 (by decide) ?_
  refine jv_istore_n (lv' := [(2, .int 0), (0, .ref (ad 0)), (1, .int v1)]) B d_M_count_6 rfl (by decide) rfl ?_
  refine jv_iconst (v := 0) B d_M_count_7 (by decide) ?_
  refine jv_istore_n (lv' := [(3, .int 0), (2, .int 0), (0, .ref (ad 0)), (1, .int v1)]) B d_M_count_8 rfl (by decide) rfl ?_
  refine jv_sub [2, 3, 1, 0] rfl ?_
  obtain ⟨n9, h⟩ := h
  exact w_M_count_9 X n9 _ _ _ h
theorem c_M_count {l : Launch} {D : va_G} {A : Nat → Prop} {ad : Nat → Nat} {cI cA cL : ClassId} {F : va_W} {σ : jS} {v1 : Int32} {post : Int32 → jS → Prop} (h : p_M_count σ v1 post) : Met l y_M_count (Cond.code y_M_count b_M_count 4 (some .int) :: wb) (rmk 2 0 0) (jv_Pre D jClasses (jTy cI cA cL) A (mw ad cI cA σ F) [.ref (ad 0), .int v1]) (va_Qi post (jv_End D jClasses (jTy cI cA cL) A (fun σ => mw ad cI cA σ F)) A) 0 0 A :=
  jv_ofB (by decide) (Nat.le_of_ble_eq_true rfl) (fun p e s m below meth c X => w_M_count_0 X h)
end JM

section JM
variable {p : Program} {l : Launch} {e : Env} {s : State} {m : MethodId} {args : Array Value} {below : List Frame} {meth : Method} {c : Code} {D : va_G} {A : Nat → Prop} {ad : Nat → Nat} {cI cA cL : ClassId} {F : va_W}
set_option maxRecDepth 100000 in
theorem w_V_write_25 (X : jv_C p s m args meth c b_V_write 5 (some .int) y_V_write wb D jClasses (jTy cI cA cL) A) {post : Int32 → jS → Prop} {v2 : Int32} : ∀ (n : Nat), ∀ (σ : jS) (v3 v4 : Int32), p_V_write_25 post v2 n σ v3 v4 → jv_V p l e (rmk 4 0 0) s m args below meth c D jClasses A 5 0 0 (MQ below (va_Qi post (jv_End D jClasses (jTy cI cA cL) A (fun σ => cw ad cI cA σ F)) A) args s 0 0 A) (cw ad cI cA σ F) [(0, .ref (ad 9)), (3, .int v3), (4, .int v4)] 25 [] := by
  obtain ⟨B, hml, hown, hts, hK, hA, hr, hlk, hnm⟩ := id X
  intro n
  induction n with
  | zero => intro σ v3 v4 h; exact h.elim
  | succ n ih =>
    intro σ v3 v4 h
    rw [p_V_write_25] at h
    refine jv_iload B d_V_write_25 2 rfl ?_
    refine jv_iload_n B d_V_write_27 rfl 1 rfl ?_
    refine jv_icmp_ge (tgt := 66) B d_V_write_28 (by decide) (fun hc => ?_) (fun hc => ?_)
    · replace h := h.1 hc
      refine jv_aload_n B d_V_write_66 rfl 0 rfl ?_
      refine fg_V_lastNumber B hts hown hK d_V_write_67 ?_
      exact jv_iret B hr rfl hlk hK _ rfl h d_V_write_70
    · replace h := h.2 hc
      refine jv_iload B d_V_write_31 2 rfl ?_
      refine jv_aload_n B d_V_write_33 rfl 0 rfl ?_
      refine fg_V_drawn B hts hown hK d_V_write_34 ?_
      refine al_c_13 B hK d_V_write_37 ?_
      refine jv_icmp_ge (tgt := 66) B d_V_write_38 (by decide) (fun hc => ?_) (fun hc => ?_)
      · replace h := h.1 hc
        refine jv_aload_n B d_V_write_66 rfl 0 rfl ?_
        refine fg_V_lastNumber B hts hown hK d_V_write_67 ?_
        exact jv_iret B hr rfl hlk hK _ rfl h d_V_write_70
      · replace h := h.2 hc
        refine jv_aload_n B d_V_write_41 rfl 0 rfl ?_
        refine jv_aload_n B d_V_write_42 rfl 0 rfl ?_
        refine fg_V_lastNumber B hts hown hK d_V_write_43 ?_
        refine jv_iconst (v := 2) B d_V_write_46 (by decide) ?_
        refine jv_irem B d_V_write_47 (by decide) ?_
        refine jv_iload B d_V_write_48 2 rfl ?_
        refine jv_aload_n B d_V_write_50 rfl 0 rfl ?_
        refine fg_V_drawn B hts hown hK d_V_write_51 ?_
        refine jv_iload B d_V_write_54 2 rfl ?_
        refine ld_c_13 B hK h.1 d_V_write_56 ?_
        replace h := h.2
        refine jv_cvv (As := [.int ((σ 9 2) - (σ 9 2) / 2 * 2), .int v4, .int (σ 13 v4.toNatClampNeg)]) B hml hown hts hK hA (c_V_put (ad := ad) (cI := cI) (cA := cA) (cL := cL) (F := F) h) (cwV 3 hts g_V_48 rfl rfl rfl hd_V_put ⟨Nat.le_of_ble_eq_true rfl, Nat.le_of_ble_eq_true rfl⟩) 9 2 rfl rfl rfl rfl (Nat.le_of_ble_eq_true rfl) d_V_write_57 ⟨Nat.le_of_ble_eq_true rfl, Nat.le_of_ble_eq_true rfl⟩ rfl (fun σ5 h => ?_)
        refine jv_iinc (n9 := 2) (v := v4 + 1) (lv' := [(4, .int (v4 + 1)), (0, .ref (ad 9)), (3, .int v3)]) B d_V_write_60 rfl rfl (by decide) rfl ?_
        refine jv_goto (tgt := 25) B d_V_write_63 (by decide) ?_
        refine jv_sub [1, 2, 0] rfl ?_
        exact ih _ _ _ h
set_option maxRecDepth 100000 in
theorem w_V_write_0 (X : jv_C p s m args meth c b_V_write 5 (some .int) y_V_write wb D jClasses (jTy cI cA cL) A) {post : Int32 → jS → Prop} {σ : jS} {v2 : Int32} (h : p_V_write σ v2 post) : jv_V p l e (rmk 4 0 0) s m args below meth c D jClasses A 5 0 0 (MQ below (va_Qi post (jv_End D jClasses (jTy cI cA cL) A (fun σ => cw ad cI cA σ F)) A) args s 0 0 A) (cw ad cI cA σ F) [(0, .ref (ad 9)), (1, .ref (ad 6)), (2, .int v2)] 0 [] := by
  obtain ⟨B, hml, hown, hts, hK, hA, hr, hlk, hnm⟩ := id X
  unfold p_V_write at h
  refine jv_aload_n B d_V_write_0 rfl 0 rfl ?_
  refine jv_aload_n B d_V_write_1 rfl 0 rfl ?_
  refine jv_aload_n B d_V_write_2 rfl 0 rfl ?_
  refine fg_V_lastNumber B hts hown hK d_V_write_3 ?_
  refine jv_civ (As := [.int (σ 9 2)]) B hml hown hts hK hA (c_V_behindNumber (ad := ad) (cI := cI) (cA := cA) (cL := cL) (F := F) h) (cwV 1 hts g_V_34 rfl rfl rfl hd_V_behindNumber ⟨Nat.le_of_ble_eq_true rfl, Nat.le_of_ble_eq_true rfl⟩) 9 2 rfl rfl rfl rfl (Nat.le_of_ble_eq_true rfl) d_V_write_6 ⟨Nat.le_of_ble_eq_true rfl, Nat.le_of_ble_eq_true rfl⟩ rfl (fun r2 σ1 h => ?_)
  refine fs_V_lastNumber B hts hown hK d_V_write_9 ?_
  refine jv_iload_n B d_V_write_12 rfl 2 rfl ?_
  refine jv_aload_n B d_V_write_13 rfl 0 rfl ?_
  refine jv_aload_n B d_V_write_14 rfl 1 rfl ?_
  refine jv_civ (As := [.ref (ad 6)]) B hml hown hts hK hA (c_V_draw (ad := ad) (cI := cI) (cA := cA) (cL := cL) (F := F) h) (cwV 1 hts g_V_38 rfl rfl rfl hd_V_draw ⟨Nat.le_of_ble_eq_true rfl, Nat.le_of_ble_eq_true rfl⟩) 9 2 rfl rfl rfl rfl (Nat.le_of_ble_eq_true rfl) d_V_write_15 ⟨Nat.le_of_ble_eq_true rfl, Nat.le_of_ble_eq_true rfl⟩ rfl (fun r4 σ3 h => ?_)
  refine jv_mmin B hml hown hts (hts _ kw_493) (Nat.le_of_ble_eq_true rfl) (Nat.le_of_ble_eq_true rfl) (Nat.le_of_ble_eq_true rfl) (Nat.le_of_ble_eq_true rfl) d_V_write_18 ?_
  refine jv_istore_n (lv' := [(3, .int (if r4 < v2 then r4 else v2)), (0, .ref (ad 9)), (1, .ref (ad 6)), (2, .int v2)]) B d_V_write_21 rfl (by decide) rfl ?_
  refine jv_iconst (v := 0) B d_V_write_22 (by decide) ?_
  refine jv_istore (lv' := [(4, .int 0), (3, .int (if r4 < v2 then r4 else v2)), (0, .ref (ad 9)), (1, .ref (ad 6)), (2, .int v2)]) B d_V_write_23 (by decide) rfl ?_
  refine jv_sub [2, 1, 0] rfl ?_
  obtain ⟨n9, h⟩ := h
  exact w_V_write_25 X n9 _ _ _ h
theorem c_V_write {l : Launch} {D : va_G} {A : Nat → Prop} {ad : Nat → Nat} {cI cA cL : ClassId} {F : va_W} {σ : jS} {v2 : Int32} {post : Int32 → jS → Prop} (h : p_V_write σ v2 post) : Met l y_V_write (Cond.code y_V_write b_V_write 5 (some .int) :: wb) (rmk 4 0 0) (jv_Pre D jClasses (jTy cI cA cL) A (cw ad cI cA σ F) [.ref (ad 9), .ref (ad 6), .int v2]) (va_Qi post (jv_End D jClasses (jTy cI cA cL) A (fun σ => cw ad cI cA σ F)) A) 0 0 A :=
  jv_ofB (by decide) (Nat.le_of_ble_eq_true rfl) (fun p e s m below meth c X => w_V_write_0 X h)
set_option maxRecDepth 100000 in
theorem w_V_hasRuns_9 (X : jv_C p s m args meth c b_V_hasRuns 9 (some .boolean) y_V_hasRuns wb D jClasses (jTy cI cA cL) A) {post : Int32 → jS → Prop} {v1 v2 v3 : Int32} : ∀ (n : Nat), ∀ (σ : jS) (v4 v5 v6 : Int32), p_V_hasRuns_9 post v1 v2 v3 n σ v4 v5 v6 → jv_V p l e (rmk 3 0 0) s m args below meth c D jClasses A 9 0 0 (MQ below (va_Qi post (jv_End D jClasses (jTy cI cA cL) A (fun σ => cw ad cI cA σ F)) A) args s 0 0 A) (cw ad cI cA σ F) [(0, .ref (ad 9)), (1, .int v1), (2, .int v2), (3, .int v3), (4, .int v4), (5, .int v5), (6, .int v6)] 9 [] := by
  obtain ⟨B, hml, hown, hts, hK, hA, hr, hlk, hnm⟩ := id X
  intro n
  induction n with
  | zero => intro σ v4 v5 v6 h; exact h.elim
  | succ n ih =>
    intro σ v4 v5 v6 h
    rw [p_V_hasRuns_9] at h
    refine jv_iload B d_V_hasRuns_9 6 rfl ?_
    refine jv_iload_n B d_V_hasRuns_11 rfl 2 rfl ?_
    refine jv_icmp_ge (tgt := 80) B d_V_hasRuns_12 (by decide) (fun hc => ?_) (fun hc => ?_)
    · replace h := h.1 hc
      refine jv_iload B d_V_hasRuns_80 4 rfl ?_
      refine jv_iload_n B d_V_hasRuns_82 rfl 3 rfl ?_
      refine jv_icmp_ne (tgt := 90) B d_V_hasRuns_83 (by decide) (fun hc => ?_) (fun hc => ?_)
      · replace h := h.1 hc
        refine jv_iconst (v := 0) B d_V_hasRuns_90 (by decide) ?_
        exact jv_iret B hr (nz h.1) hlk hK _ rfl h.2 d_V_hasRuns_91
      · replace h := h.2 hc
        refine jv_iconst (v := 1) B d_V_hasRuns_86 (by decide) ?_
        refine jv_goto (tgt := 91) B d_V_hasRuns_87 (by decide) ?_
        exact jv_iret B hr (nz h.1) hlk hK _ rfl h.2 d_V_hasRuns_91
    · replace h := h.2 hc
      refine jv_aload_n B d_V_hasRuns_15 rfl 0 rfl ?_
      refine jv_iload_n B d_V_hasRuns_16 rfl 1 rfl ?_
      refine jv_aload_n B d_V_hasRuns_17 rfl 0 rfl ?_
      refine jv_iload B d_V_hasRuns_18 6 rfl ?_
      refine jv_civ (As := [.int v6]) B hml hown hts hK hA (c_V_placeOfRun (ad := ad) (cI := cI) (cA := cA) (cL := cL) (F := F) h) (cwV 1 hts g_V_62 rfl rfl rfl hd_V_placeOfRun ⟨Nat.le_of_ble_eq_true rfl, Nat.le_of_ble_eq_true rfl⟩) 9 2 rfl rfl rfl rfl (Nat.le_of_ble_eq_true rfl) d_V_hasRuns_20 ⟨Nat.le_of_ble_eq_true rfl, Nat.le_of_ble_eq_true rfl⟩ rfl (fun r2 σ1 h => ?_)
      refine jv_civ (As := [.int v1, .int r2]) B hml hown hts hK hA (c_V_byteAt (ad := ad) (cI := cI) (cA := cA) (cL := cL) (F := F) h) (cwV 2 hts g_V_82 rfl rfl rfl hd_V_byteAt ⟨Nat.le_of_ble_eq_true rfl, Nat.le_of_ble_eq_true rfl⟩) 9 2 rfl rfl rfl rfl (Nat.le_of_ble_eq_true rfl) d_V_hasRuns_23 ⟨Nat.le_of_ble_eq_true rfl, Nat.le_of_ble_eq_true rfl⟩ rfl (fun r4 σ3 h => ?_)
      refine jv_istore (lv' := [(7, .int r4), (0, .ref (ad 9)), (1, .int v1), (2, .int v2), (3, .int v3), (4, .int v4), (5, .int v5), (6, .int v6)]) B d_V_hasRuns_26 (by decide) rfl ?_
      refine jv_aload_n B d_V_hasRuns_28 rfl 1 rfl ?_
      refine jv_iload_n B d_V_hasRuns_29 rfl 2 rfl ?_
      refine jv_aload_n B d_V_hasRuns_30 rfl 1 rfl ?_
      refine jv_iload B d_V_hasRuns_31 7 rfl ?_
      refine jv_civ (As := [.int v6]) B hml hown hts hK hA (c_V_placeOfRun (ad := ad) (cI := cI) (cA := cA) (cL := cL) (F := F) h) (cwV 1 hts g_V_62 rfl rfl rfl hd_V_placeOfRun ⟨Nat.le_of_ble_eq_true rfl, Nat.le_of_ble_eq_true rfl⟩) 9 2 rfl rfl rfl rfl (Nat.le_of_ble_eq_true rfl) d_V_hasRuns_33 ⟨Nat.le_of_ble_eq_true rfl, Nat.le_of_ble_eq_true rfl⟩ rfl (fun r6 σ5 h => ?_)
      refine jv_iconst (v := 1) B d_V_hasRuns_36 (by decide) ?_
      refine jv_iadd B d_V_hasRuns_37 ?_
      refine jv_civ (As := [.int v1, .int (r6 + 1)]) B hml hown hts hK hA (c_V_byteAt (ad := ad) (cI := cI) (cA := cA) (cL := cL) (F := F) h) (cwV 2 hts g_V_82 rfl rfl rfl hd_V_byteAt ⟨Nat.le_of_ble_eq_true rfl, Nat.le_of_ble_eq_true rfl⟩) 9 2 rfl rfl rfl rfl (Nat.le_of_ble_eq_true rfl) d_V_hasRuns_38 ⟨Nat.le_of_ble_eq_true rfl, Nat.le_of_ble_eq_true rfl⟩ rfl (fun r8 σ7 h => ?_)
      refine jv_istore (lv' := [(8, .int r8), (7, .int r4), (0, .ref (ad 9)), (1, .int v1), (2, .int v2), (3, .int v3), (4, .int v4), (5, .int v5), (6, .int v6)]) B d_V_hasRuns_41 (by decide) rfl ?_
      refine jv_iload B d_V_hasRuns_43 1 rfl ?_
      refine jv_if_eq (tgt := 61) B d_V_hasRuns_45 (by decide) (fun hc => ?_) (fun hc => ?_)
      · replace h := h.1 hc
        refine jv_iconst (v := 0) B d_V_hasRuns_61 (by decide) ?_
        exact jv_iret B hr (nz h.1) hlk hK _ rfl h.2 d_V_hasRuns_62
      · replace h := h.2 hc
        refine jv_iload B d_V_hasRuns_48 0 rfl ?_
        refine jv_iconst (v := 4) B d_V_hasRuns_50 (by decide) ?_
        refine jv_icmp_gt (tgt := 61) B d_V_hasRuns_51 (by decide) (fun hc => ?_) (fun hc => ?_)
        · replace h := h.1 hc
          refine jv_iconst (v := 0) B d_V_hasRuns_61 (by decide) ?_
          exact jv_iret B hr (nz h.1) hlk hK _ rfl h.2 d_V_hasRuns_62
        · replace h := h.2 hc
          refine jv_iload B d_V_hasRuns_54 0 rfl ?_
          refine jv_iload B d_V_hasRuns_56 7 rfl ?_
          refine jv_icmp_ne (tgt := 63) B d_V_hasRuns_58 (by decide) (fun hc => ?_) (fun hc => ?_)
          · replace h := h.1 hc
            refine jv_iload B d_V_hasRuns_63 6 rfl ?_
            refine jv_iload B d_V_hasRuns_65 1 rfl ?_
            refine jv_iadd B d_V_hasRuns_67 ?_
            refine jv_istore (lv' := [(4, .int (v4 + r4)), (8, .int r8), (7, .int r4), (0, .ref (ad 9)), (1, .int v1), (2, .int v2), (3, .int v3), (5, .int v5), (6, .int v6)]) B d_V_hasRuns_68 (by decide) rfl ?_
            refine jv_iload B d_V_hasRuns_70 1 rfl ?_
            refine jv_istore (lv' := [(5, .int r8), (4, .int (v4 + r4)), (8, .int r8), (7, .int r4), (0, .ref (ad 9)), (1, .int v1), (2, .int v2), (3, .int v3), (6, .int v6)]) B d_V_hasRuns_72 (by decide) rfl ?_
            refine jv_iinc (n9 := 8) (v := v6 + 1) (lv' := [(6, .int (v6 + 1)), (5, .int r8), (4, .int (v4 + r4)), (8, .int r8), (7, .int r4), (0, .ref (ad 9)), (1, .int v1), (2, .int v2), (3, .int v3)]) B d_V_hasRuns_74 rfl rfl (by decide) rfl ?_
            refine jv_goto (tgt := 9) B d_V_hasRuns_77 (by decide) ?_
            refine jv_sub [5, 6, 7, 8, 2, 1, 0] rfl ?_
            exact ih _ _ _ _ h
          · replace h := h.2 hc
            refine jv_iconst (v := 0) B d_V_hasRuns_61 (by decide) ?_
            exact jv_iret B hr (nz h.1) hlk hK _ rfl h.2 d_V_hasRuns_62
set_option maxRecDepth 100000 in
theorem w_V_hasRuns_0 (X : jv_C p s m args meth c b_V_hasRuns 9 (some .boolean) y_V_hasRuns wb D jClasses (jTy cI cA cL) A) {post : Int32 → jS → Prop} {σ : jS} {v1 v2 v3 : Int32} (h : p_V_hasRuns σ v1 v2 v3 post) : jv_V p l e (rmk 3 0 0) s m args below meth c D jClasses A 9 0 0 (MQ below (va_Qi post (jv_End D jClasses (jTy cI cA cL) A (fun σ => cw ad cI cA σ F)) A) args s 0 0 A) (cw ad cI cA σ F) [(0, .ref (ad 9)), (1, .int v1), (2, .int v2), (3, .int v3)] 0 [] := by
  obtain ⟨B, hml, hown, hts, hK, hA, hr, hlk, hnm⟩ := id X
  unfold p_V_hasRuns at h
  refine jv_iconst (v := 0) B d_V_hasRuns_0 (by decide) ?_
  refine jv_istore (lv' := [(4, .int 0), (0, .ref (ad 9)), (1, .int v1), (2, .int v2), (3, .int v3)]) B d_V_hasRuns_1 (by decide) rfl ?_
  refine jv_iconst (v := (-1)) B d_V_hasRuns_3 (by decide) ?_
  refine jv_istore (lv' := [(5, .int (-1)), (4, .int 0), (0, .ref (ad 9)), (1, .int v1), (2, .int v2), (3, .int v3)]) B d_V_hasRuns_4 (by decide) rfl ?_
  refine jv_iconst (v := 0) B d_V_hasRuns_6 (by decide) ?_
  refine jv_istore (lv' := [(6, .int 0), (5, .int (-1)), (4, .int 0), (0, .ref (ad 9)), (1, .int v1), (2, .int v2), (3, .int v3)]) B d_V_hasRuns_7 (by decide) rfl ?_
  refine jv_sub [3, 4, 5, 6, 2, 1, 0] rfl ?_
  obtain ⟨n9, h⟩ := h
  exact w_V_hasRuns_9 X n9 _ _ _ _ h
theorem c_V_hasRuns {l : Launch} {D : va_G} {A : Nat → Prop} {ad : Nat → Nat} {cI cA cL : ClassId} {F : va_W} {σ : jS} {v1 v2 v3 : Int32} {post : Int32 → jS → Prop} (h : p_V_hasRuns σ v1 v2 v3 post) : Met l y_V_hasRuns (Cond.code y_V_hasRuns b_V_hasRuns 9 (some .boolean) :: wb) (rmk 3 0 0) (jv_Pre D jClasses (jTy cI cA cL) A (cw ad cI cA σ F) [.ref (ad 9), .int v1, .int v2, .int v3]) (va_Qi post (jv_End D jClasses (jTy cI cA cL) A (fun σ => cw ad cI cA σ F)) A) 0 0 A :=
  jv_ofB (by decide) (Nat.le_of_ble_eq_true rfl) (fun p e s m below meth c X => w_V_hasRuns_0 X h)
set_option maxRecDepth 100000 in
theorem w_V_isWhole_0 (X : jv_C p s m args meth c b_V_isWhole 5 (some .boolean) y_V_isWhole wb D jClasses (jTy cI cA cL) A) {post : Int32 → jS → Prop} {σ : jS} {v1 v2 : Int32} (h : p_V_isWhole σ v1 v2 post) : jv_V p l e (rmk 4 0 0) s m args below meth c D jClasses A 5 0 0 (MQ below (va_Qi post (jv_End D jClasses (jTy cI cA cL) A (fun σ => cw ad cI cA σ F)) A) args s 0 0 A) (cw ad cI cA σ F) [(0, .ref (ad 9)), (1, .int v1), (2, .int v2)] 0 [] := by
  obtain ⟨B, hml, hown, hts, hK, hA, hr, hlk, hnm⟩ := id X
  unfold p_V_isWhole at h
  refine jv_aload_n B d_V_isWhole_0 rfl 0 rfl ?_
  refine jv_iload_n B d_V_isWhole_1 rfl 1 rfl ?_
  refine jv_iconst (v := 1) B d_V_isWhole_2 (by decide) ?_
  refine jv_civ (As := [.int v1, .int 1]) B hml hown hts hK hA (c_V_byteAt (ad := ad) (cI := cI) (cA := cA) (cL := cL) (F := F) h) (cwV 2 hts g_V_82 rfl rfl rfl hd_V_byteAt ⟨Nat.le_of_ble_eq_true rfl, Nat.le_of_ble_eq_true rfl⟩) 9 2 rfl rfl rfl rfl (Nat.le_of_ble_eq_true rfl) d_V_isWhole_3 ⟨Nat.le_of_ble_eq_true rfl, Nat.le_of_ble_eq_true rfl⟩ rfl (fun r2 σ1 h => ?_)
  refine jv_istore_n (lv' := [(3, .int r2), (0, .ref (ad 9)), (1, .int v1), (2, .int v2)]) B d_V_isWhole_6 rfl (by decide) rfl ?_
  refine jv_aload_n B d_V_isWhole_7 rfl 1 rfl ?_
  refine jv_iload_n B d_V_isWhole_8 rfl 2 rfl ?_
  refine jv_iconst (v := 1) B d_V_isWhole_9 (by decide) ?_
  refine jv_civ (As := [.int v1, .int 1]) B hml hown hts hK hA (c_V_has (ad := ad) (cI := cI) (cA := cA) (cL := cL) (F := F) h) (cwV 2 hts g_V_30 rfl rfl rfl hd_V_has ⟨Nat.le_of_ble_eq_true rfl, Nat.le_of_ble_eq_true rfl⟩) 9 2 rfl rfl rfl rfl (Nat.le_of_ble_eq_true rfl) d_V_isWhole_10 ⟨Nat.le_of_ble_eq_true rfl, Nat.le_of_ble_eq_true rfl⟩ rfl (fun r4 σ3 h => ?_)
  refine jv_if_eq (tgt := 33) B d_V_isWhole_13 (by decide) (fun hc => ?_) (fun hc => ?_)
  · replace h := h.1 hc
    refine jv_iconst (v := 0) B d_V_isWhole_33 (by decide) ?_
    exact jv_iret B hr (nz h.1) hlk hK _ rfl h.2 d_V_isWhole_34
  · replace h := h.2 hc
    refine jv_aload_n B d_V_isWhole_16 rfl 1 rfl ?_
    refine jv_iload_n B d_V_isWhole_17 rfl 2 rfl ?_
    refine jv_iconst (v := 0) B d_V_isWhole_18 (by decide) ?_
    refine jv_civ (As := [.int v1, .int 0]) B hml hown hts hK hA (c_V_byteAt (ad := ad) (cI := cI) (cA := cA) (cL := cL) (F := F) h) (cwV 2 hts g_V_82 rfl rfl rfl hd_V_byteAt ⟨Nat.le_of_ble_eq_true rfl, Nat.le_of_ble_eq_true rfl⟩) 9 2 rfl rfl rfl rfl (Nat.le_of_ble_eq_true rfl) d_V_isWhole_19 ⟨Nat.le_of_ble_eq_true rfl, Nat.le_of_ble_eq_true rfl⟩ rfl (fun r6 σ5 h => ?_)
    refine jv_sipush (v := 200) B d_V_isWhole_22 (by decide) ?_
    refine jv_icmp_ge (tgt := 33) B d_V_isWhole_25 (by decide) (fun hc => ?_) (fun hc => ?_)
    · replace h := h.1 hc
      refine jv_iconst (v := 0) B d_V_isWhole_33 (by decide) ?_
      exact jv_iret B hr (nz h.1) hlk hK _ rfl h.2 d_V_isWhole_34
    · replace h := h.2 hc
      refine jv_iload_n B d_V_isWhole_28 rfl 0 rfl ?_
      refine jv_iload_n B d_V_isWhole_29 rfl 3 rfl ?_
      refine jv_icmp_le (tgt := 35) B d_V_isWhole_30 (by decide) (fun hc => ?_) (fun hc => ?_)
      · replace h := h.1 hc
        refine jv_aload_n B d_V_isWhole_35 rfl 1 rfl ?_
        refine jv_iload_n B d_V_isWhole_36 rfl 0 rfl ?_
        refine jv_civ (As := [.int r2]) B hml hown hts hK hA (c_V_placeOfRun (ad := ad) (cI := cI) (cA := cA) (cL := cL) (F := F) h) (cwV 1 hts g_V_62 rfl rfl rfl hd_V_placeOfRun ⟨Nat.le_of_ble_eq_true rfl, Nat.le_of_ble_eq_true rfl⟩) 9 2 rfl rfl rfl rfl (Nat.le_of_ble_eq_true rfl) d_V_isWhole_37 ⟨Nat.le_of_ble_eq_true rfl, Nat.le_of_ble_eq_true rfl⟩ rfl (fun r8 σ7 h => ?_)
        refine jv_istore (lv' := [(4, .int r8), (3, .int r2), (0, .ref (ad 9)), (1, .int v1), (2, .int v2)]) B d_V_isWhole_40 (by decide) rfl ?_
        refine jv_aload_n B d_V_isWhole_42 rfl 2 rfl ?_
        refine jv_iload_n B d_V_isWhole_43 rfl 3 rfl ?_
        refine jv_iload_n B d_V_isWhole_44 rfl 1 rfl ?_
        refine jv_iload_n B d_V_isWhole_45 rfl 4 rfl ?_
        refine jv_civ (As := [.int v1, .int r2, .int v2]) B hml hown hts hK hA (c_V_hasRuns (ad := ad) (cI := cI) (cA := cA) (cL := cL) (F := F) h) (cwV 3 hts g_V_85 rfl rfl rfl hd_V_hasRuns ⟨Nat.le_of_ble_eq_true rfl, Nat.le_of_ble_eq_true rfl⟩) 9 2 rfl rfl rfl rfl (Nat.le_of_ble_eq_true rfl) d_V_isWhole_46 ⟨Nat.le_of_ble_eq_true rfl, Nat.le_of_ble_eq_true rfl⟩ rfl (fun r10 σ9 h => ?_)
        refine jv_if_eq (tgt := 78) B d_V_isWhole_49 (by decide) (fun hc => ?_) (fun hc => ?_)
        · replace h := h.1 hc
          refine jv_iconst (v := 0) B d_V_isWhole_78 (by decide) ?_
          exact jv_iret B hr (nz h.1) hlk hK _ rfl h.2 d_V_isWhole_79
        · replace h := h.2 hc
          refine jv_aload_n B d_V_isWhole_52 rfl 2 rfl ?_
          refine jv_iload_n B d_V_isWhole_53 rfl 3 rfl ?_
          refine jv_iload B d_V_isWhole_54 0 rfl ?_
          refine jv_civ (As := [.int v1, .int r8]) B hml hown hts hK hA (c_V_byteAt (ad := ad) (cI := cI) (cA := cA) (cL := cL) (F := F) h) (cwV 2 hts g_V_82 rfl rfl rfl hd_V_byteAt ⟨Nat.le_of_ble_eq_true rfl, Nat.le_of_ble_eq_true rfl⟩) 9 2 rfl rfl rfl rfl (Nat.le_of_ble_eq_true rfl) d_V_isWhole_56 ⟨Nat.le_of_ble_eq_true rfl, Nat.le_of_ble_eq_true rfl⟩ rfl (fun r12 σ11 h => ?_)
          refine jv_aload_n B d_V_isWhole_59 rfl 2 rfl ?_
          refine jv_aload_n B d_V_isWhole_60 rfl 2 rfl ?_
          refine fg_V_slots B hts hown hK d_V_isWhole_61 ?_
          refine jv_iload_n B d_V_isWhole_64 rfl 3 rfl ?_
          refine aa_c B hK h.1 d_V_isWhole_65 (fun hc => ?_) (fun hc => ?_)
          · replace h := h.2.1 hc
            refine jv_iload B d_V_isWhole_66 0 rfl ?_
            refine jv_civ (As := [.ref (ad 11), .int r8]) B hml hown hts hK hA (c_V_sumBefore (qa := 11) (hga := rfl) (ad := ad) (cI := cI) (cA := cA) (cL := cL) (F := F) h) (cwV 2 hts g_V_75 rfl rfl rfl hd_V_sumBefore ⟨Nat.le_of_ble_eq_true rfl, Nat.le_of_ble_eq_true rfl⟩) 9 2 rfl rfl rfl rfl (Nat.le_of_ble_eq_true rfl) d_V_isWhole_68 ⟨Nat.le_of_ble_eq_true rfl, Nat.le_of_ble_eq_true rfl⟩ rfl (fun r14 σ13 h => ?_)
            refine jv_icmp_ne (tgt := 78) B d_V_isWhole_71 (by decide) (fun hc => ?_) (fun hc => ?_)
            · replace h := h.1 hc
              refine jv_iconst (v := 0) B d_V_isWhole_78 (by decide) ?_
              exact jv_iret B hr (nz h.1) hlk hK _ rfl h.2 d_V_isWhole_79
            · replace h := h.2 hc
              refine jv_iconst (v := 1) B d_V_isWhole_74 (by decide) ?_
              refine jv_goto (tgt := 79) B d_V_isWhole_75 (by decide) ?_
              exact jv_iret B hr (nz h.1) hlk hK _ rfl h.2 d_V_isWhole_79
          · replace h := h.2.2 hc
            refine jv_iload B d_V_isWhole_66 0 rfl ?_
            refine jv_civ (As := [.ref (ad 12), .int r8]) B hml hown hts hK hA (c_V_sumBefore (qa := 12) (hga := rfl) (ad := ad) (cI := cI) (cA := cA) (cL := cL) (F := F) h) (cwV 2 hts g_V_75 rfl rfl rfl hd_V_sumBefore ⟨Nat.le_of_ble_eq_true rfl, Nat.le_of_ble_eq_true rfl⟩) 9 2 rfl rfl rfl rfl (Nat.le_of_ble_eq_true rfl) d_V_isWhole_68 ⟨Nat.le_of_ble_eq_true rfl, Nat.le_of_ble_eq_true rfl⟩ rfl (fun r16 σ15 h => ?_)
            refine jv_icmp_ne (tgt := 78) B d_V_isWhole_71 (by decide) (fun hc => ?_) (fun hc => ?_)
            · replace h := h.1 hc
              refine jv_iconst (v := 0) B d_V_isWhole_78 (by decide) ?_
              exact jv_iret B hr (nz h.1) hlk hK _ rfl h.2 d_V_isWhole_79
            · replace h := h.2 hc
              refine jv_iconst (v := 1) B d_V_isWhole_74 (by decide) ?_
              refine jv_goto (tgt := 79) B d_V_isWhole_75 (by decide) ?_
              exact jv_iret B hr (nz h.1) hlk hK _ rfl h.2 d_V_isWhole_79
      · replace h := h.2 hc
        refine jv_iconst (v := 0) B d_V_isWhole_33 (by decide) ?_
        exact jv_iret B hr (nz h.1) hlk hK _ rfl h.2 d_V_isWhole_34
theorem c_V_isWhole {l : Launch} {D : va_G} {A : Nat → Prop} {ad : Nat → Nat} {cI cA cL : ClassId} {F : va_W} {σ : jS} {v1 v2 : Int32} {post : Int32 → jS → Prop} (h : p_V_isWhole σ v1 v2 post) : Met l y_V_isWhole (Cond.code y_V_isWhole b_V_isWhole 5 (some .boolean) :: wb) (rmk 4 0 0) (jv_Pre D jClasses (jTy cI cA cL) A (cw ad cI cA σ F) [.ref (ad 9), .int v1, .int v2]) (va_Qi post (jv_End D jClasses (jTy cI cA cL) A (fun σ => cw ad cI cA σ F)) A) 0 0 A :=
  jv_ofB (by decide) (Nat.le_of_ble_eq_true rfl) (fun p e s m below meth c X => w_V_isWhole_0 X h)
set_option maxRecDepth 100000 in
theorem w_V_newestWhole_47 (X : jv_C p s m args meth c b_V_newestWhole 4 (some .int) y_V_newestWhole wb D jClasses (jTy cI cA cL) A) {post : Int32 → jS → Prop} {v1 : Int32} {σ : jS} {v2 v3 : Int32} (h : p_V_newestWhole_47 post v1 σ v2 v3) : jv_V p l e (rmk 5 0 0) s m args below meth c D jClasses A 4 0 0 (MQ below (va_Qi post (jv_End D jClasses (jTy cI cA cL) A (fun σ => cw ad cI cA σ F)) A) args s 0 0 A) (cw ad cI cA σ F) [(2, .int v2), (3, .int v3)] 47 [] := by
  obtain ⟨B, hml, hown, hts, hK, hA, hr, hlk, hnm⟩ := id X
  unfold p_V_newestWhole_47 at h
  refine jv_iload_n B d_V_newestWhole_47 rfl 0 rfl ?_
  refine jv_if_eq (tgt := 53) B d_V_newestWhole_48 (by decide) (fun hc => ?_) (fun hc => ?_)
  · replace h := h.1 hc
    refine jv_iload_n B d_V_newestWhole_53 rfl 1 rfl ?_
    refine jv_if_eq (tgt := 61) B d_V_newestWhole_54 (by decide) (fun hc => ?_) (fun hc => ?_)
    · replace h := h.1 hc
      refine jv_iconst (v := (-1)) B d_V_newestWhole_61 (by decide) ?_
      exact jv_iret B hr rfl hlk hK _ rfl h d_V_newestWhole_62
    · replace h := h.2 hc
      refine jv_iconst (v := 1) B d_V_newestWhole_57 (by decide) ?_
      refine jv_goto (tgt := 62) B d_V_newestWhole_58 (by decide) ?_
      exact jv_iret B hr rfl hlk hK _ rfl h d_V_newestWhole_62
  · replace h := h.2 hc
    refine jv_iconst (v := 0) B d_V_newestWhole_51 (by decide) ?_
    exact jv_iret B hr rfl hlk hK _ rfl h d_V_newestWhole_52
set_option maxRecDepth 100000 in
theorem w_V_newestWhole_0 (X : jv_C p s m args meth c b_V_newestWhole 4 (some .int) y_V_newestWhole wb D jClasses (jTy cI cA cL) A) {post : Int32 → jS → Prop} {σ : jS} {v1 : Int32} (h : p_V_newestWhole σ v1 post) : jv_V p l e (rmk 5 0 0) s m args below meth c D jClasses A 4 0 0 (MQ below (va_Qi post (jv_End D jClasses (jTy cI cA cL) A (fun σ => cw ad cI cA σ F)) A) args s 0 0 A) (cw ad cI cA σ F) [(0, .ref (ad 9)), (1, .int v1)] 0 [] := by
  obtain ⟨B, hml, hown, hts, hK, hA, hr, hlk, hnm⟩ := id X
  unfold p_V_newestWhole at h
  refine jv_aload_n B d_V_newestWhole_0 rfl 0 rfl ?_
  refine jv_iconst (v := 0) B d_V_newestWhole_1 (by decide) ?_
  refine jv_iload_n B d_V_newestWhole_2 rfl 1 rfl ?_
  refine jv_civ (As := [.int 0, .int v1]) B hml hown hts hK hA (c_V_isWhole (ad := ad) (cI := cI) (cA := cA) (cL := cL) (F := F) h) (cwV 2 hts g_V_79 rfl rfl rfl hd_V_isWhole ⟨Nat.le_of_ble_eq_true rfl, Nat.le_of_ble_eq_true rfl⟩) 9 2 rfl rfl rfl rfl (Nat.le_of_ble_eq_true rfl) d_V_newestWhole_3 ⟨Nat.le_of_ble_eq_true rfl, Nat.le_of_ble_eq_true rfl⟩ rfl (fun r2 σ1 h => ?_)
  refine jv_istore_n (lv' := [(2, .int r2), (0, .ref (ad 9)), (1, .int v1)]) B d_V_newestWhole_6 rfl (by decide) rfl ?_
  refine jv_aload_n B d_V_newestWhole_7 rfl 1 rfl ?_
  refine jv_iconst (v := 1) B d_V_newestWhole_8 (by decide) ?_
  refine jv_iload_n B d_V_newestWhole_9 rfl 2 rfl ?_
  refine jv_civ (As := [.int 1, .int v1]) B hml hown hts hK hA (c_V_isWhole (ad := ad) (cI := cI) (cA := cA) (cL := cL) (F := F) h) (cwV 2 hts g_V_79 rfl rfl rfl hd_V_isWhole ⟨Nat.le_of_ble_eq_true rfl, Nat.le_of_ble_eq_true rfl⟩) 9 2 rfl rfl rfl rfl (Nat.le_of_ble_eq_true rfl) d_V_newestWhole_10 ⟨Nat.le_of_ble_eq_true rfl, Nat.le_of_ble_eq_true rfl⟩ rfl (fun r4 σ3 h => ?_)
  refine jv_istore_n (lv' := [(3, .int r4), (2, .int r2), (0, .ref (ad 9)), (1, .int v1)]) B d_V_newestWhole_13 rfl (by decide) rfl ?_
  refine jv_iload_n B d_V_newestWhole_14 rfl 1 rfl ?_
  refine jv_if_eq (tgt := 47) B d_V_newestWhole_15 (by decide) (fun hc => ?_) (fun hc => ?_)
  · replace h := h.1 hc
    refine jv_sub [1, 0] rfl ?_
    exact w_V_newestWhole_47 X h
  · replace h := h.2 hc
    refine jv_iload_n B d_V_newestWhole_18 rfl 0 rfl ?_
    refine jv_if_eq (tgt := 47) B d_V_newestWhole_19 (by decide) (fun hc => ?_) (fun hc => ?_)
    · replace h := h.1 hc
      refine jv_sub [1, 0] rfl ?_
      exact w_V_newestWhole_47 X h
    · replace h := h.2 hc
      refine jv_aload_n B d_V_newestWhole_22 rfl 2 rfl ?_
      refine jv_iconst (v := 1) B d_V_newestWhole_23 (by decide) ?_
      refine jv_iconst (v := 0) B d_V_newestWhole_24 (by decide) ?_
      refine jv_civ (As := [.int 1, .int 0]) B hml hown hts hK hA (c_V_byteAt (ad := ad) (cI := cI) (cA := cA) (cL := cL) (F := F) h) (cwV 2 hts g_V_82 rfl rfl rfl hd_V_byteAt ⟨Nat.le_of_ble_eq_true rfl, Nat.le_of_ble_eq_true rfl⟩) 9 2 rfl rfl rfl rfl (Nat.le_of_ble_eq_true rfl) d_V_newestWhole_25 ⟨Nat.le_of_ble_eq_true rfl, Nat.le_of_ble_eq_true rfl⟩ rfl (fun r6 σ5 h => ?_)
      refine jv_aload_n B d_V_newestWhole_28 rfl 2 rfl ?_
      refine jv_aload_n B d_V_newestWhole_29 rfl 2 rfl ?_
      refine jv_iconst (v := 0) B d_V_newestWhole_30 (by decide) ?_
      refine jv_iconst (v := 0) B d_V_newestWhole_31 (by decide) ?_
      refine jv_civ (As := [.int 0, .int 0]) B hml hown hts hK hA (c_V_byteAt (ad := ad) (cI := cI) (cA := cA) (cL := cL) (F := F) h) (cwV 2 hts g_V_82 rfl rfl rfl hd_V_byteAt ⟨Nat.le_of_ble_eq_true rfl, Nat.le_of_ble_eq_true rfl⟩) 9 2 rfl rfl rfl rfl (Nat.le_of_ble_eq_true rfl) d_V_newestWhole_32 ⟨Nat.le_of_ble_eq_true rfl, Nat.le_of_ble_eq_true rfl⟩ rfl (fun r8 σ7 h => ?_)
      refine jv_civ (As := [.int r8]) B hml hown hts hK hA (c_V_behindNumber (ad := ad) (cI := cI) (cA := cA) (cL := cL) (F := F) h) (cwV 1 hts g_V_34 rfl rfl rfl hd_V_behindNumber ⟨Nat.le_of_ble_eq_true rfl, Nat.le_of_ble_eq_true rfl⟩) 9 2 rfl rfl rfl rfl (Nat.le_of_ble_eq_true rfl) d_V_newestWhole_35 ⟨Nat.le_of_ble_eq_true rfl, Nat.le_of_ble_eq_true rfl⟩ rfl (fun r10 σ9 h => ?_)
      refine jv_icmp_ne (tgt := 45) B d_V_newestWhole_38 (by decide) (fun hc => ?_) (fun hc => ?_)
      · replace h := h.1 hc
        refine jv_iconst (v := 0) B d_V_newestWhole_45 (by decide) ?_
        exact jv_iret B hr rfl hlk hK _ rfl h d_V_newestWhole_46
      · replace h := h.2 hc
        refine jv_iconst (v := 1) B d_V_newestWhole_41 (by decide) ?_
        refine jv_goto (tgt := 46) B d_V_newestWhole_42 (by decide) ?_
        exact jv_iret B hr rfl hlk hK _ rfl h d_V_newestWhole_46
theorem c_V_newestWhole {l : Launch} {D : va_G} {A : Nat → Prop} {ad : Nat → Nat} {cI cA cL : ClassId} {F : va_W} {σ : jS} {v1 : Int32} {post : Int32 → jS → Prop} (h : p_V_newestWhole σ v1 post) : Met l y_V_newestWhole (Cond.code y_V_newestWhole b_V_newestWhole 4 (some .int) :: wb) (rmk 5 0 0) (jv_Pre D jClasses (jTy cI cA cL) A (cw ad cI cA σ F) [.ref (ad 9), .int v1]) (va_Qi post (jv_End D jClasses (jTy cI cA cL) A (fun σ => cw ad cI cA σ F)) A) 0 0 A :=
  jv_ofB (by decide) (Nat.le_of_ble_eq_true rfl) (fun p e s m below meth c X => w_V_newestWhole_0 X h)
set_option maxRecDepth 100000 in
theorem w_V_load_34 (X : jv_C p s m args meth c b_V_load 7 none y_V_load wb D jClasses (jTy cI cA cL) A) {post : jS → Prop} {v1 : Int32} : ∀ (n : Nat), ∀ (σ : jS) (v3 v4 v5 : Int32), p_V_load_34 post v1 n σ v3 v4 v5 → jv_V p l e (rmk 3 0 0) s m args below meth c D jClasses A 7 0 0 (MQ below (va_Qv post (jv_End D jClasses (jTy cI cA cL) A (fun σ => cw ad cI cA σ F)) A) args s 0 0 A) (cw ad cI cA σ F) [(0, .ref (ad 9)), (1, .int v1), (2, .ref (ad 6)), (3, .int v3), (4, .int v4), (5, .int v5)] 34 [] := by
  obtain ⟨B, hml, hown, hts, hK, hA, hr, hlk, hnm⟩ := id X
  intro n
  induction n with
  | zero => intro σ v3 v4 v5 h; exact h.elim
  | succ n ih =>
    intro σ v3 v4 v5 h
    rw [p_V_load_34] at h
    refine jv_iload B d_V_load_34 5 rfl ?_
    refine jv_iload_n B d_V_load_36 rfl 3 rfl ?_
    refine jv_icmp_ge (tgt := 87) B d_V_load_37 (by decide) (fun hc => ?_) (fun hc => ?_)
    · replace h := h.1 hc
      exact jv_vret B hr hlk hK _ rfl h d_V_load_87
    · replace h := h.2 hc
      refine jv_iload B d_V_load_40 4 rfl ?_
      refine jv_aload_n B d_V_load_42 rfl 0 rfl ?_
      refine jv_iload_n B d_V_load_43 rfl 1 rfl ?_
      refine jv_aload_n B d_V_load_44 rfl 0 rfl ?_
      refine jv_iload B d_V_load_45 5 rfl ?_
      refine jv_civ (As := [.int v5]) B hml hown hts hK hA (c_V_placeOfRun (ad := ad) (cI := cI) (cA := cA) (cL := cL) (F := F) h) (cwV 1 hts g_V_62 rfl rfl rfl hd_V_placeOfRun ⟨Nat.le_of_ble_eq_true rfl, Nat.le_of_ble_eq_true rfl⟩) 9 2 rfl rfl rfl rfl (Nat.le_of_ble_eq_true rfl) d_V_load_47 ⟨Nat.le_of_ble_eq_true rfl, Nat.le_of_ble_eq_true rfl⟩ rfl (fun r6 σ5 h => ?_)
      refine jv_civ (As := [.int v1, .int r6]) B hml hown hts hK hA (c_V_byteAt (ad := ad) (cI := cI) (cA := cA) (cL := cL) (F := F) h) (cwV 2 hts g_V_82 rfl rfl rfl hd_V_byteAt ⟨Nat.le_of_ble_eq_true rfl, Nat.le_of_ble_eq_true rfl⟩) 9 2 rfl rfl rfl rfl (Nat.le_of_ble_eq_true rfl) d_V_load_50 ⟨Nat.le_of_ble_eq_true rfl, Nat.le_of_ble_eq_true rfl⟩ rfl (fun r8 σ7 h => ?_)
      refine jv_iadd B d_V_load_53 ?_
      refine jv_istore (lv' := [(6, .int (v4 + r8)), (0, .ref (ad 9)), (1, .int v1), (2, .ref (ad 6)), (3, .int v3), (4, .int v4), (5, .int v5)]) B d_V_load_54 (by decide) rfl ?_
      refine jv_aload_n B d_V_load_56 rfl 3 rfl ?_
      refine jv_iload B d_V_load_57 5 rfl ?_
      refine jv_iload B d_V_load_59 0 rfl ?_
      refine jv_aload_n B d_V_load_61 rfl 1 rfl ?_
      refine jv_iload_n B d_V_load_62 rfl 2 rfl ?_
      refine jv_aload_n B d_V_load_63 rfl 1 rfl ?_
      refine jv_iload B d_V_load_64 6 rfl ?_
      refine jv_civ (As := [.int v5]) B hml hown hts hK hA (c_V_placeOfRun (ad := ad) (cI := cI) (cA := cA) (cL := cL) (F := F) h) (cwV 1 hts g_V_62 rfl rfl rfl hd_V_placeOfRun ⟨Nat.le_of_ble_eq_true rfl, Nat.le_of_ble_eq_true rfl⟩) 9 2 rfl rfl rfl rfl (Nat.le_of_ble_eq_true rfl) d_V_load_66 ⟨Nat.le_of_ble_eq_true rfl, Nat.le_of_ble_eq_true rfl⟩ rfl (fun r10 σ9 h => ?_)
      refine jv_iconst (v := 1) B d_V_load_69 (by decide) ?_
      refine jv_iadd B d_V_load_70 ?_
      refine jv_civ (As := [.int v1, .int (r10 + 1)]) B hml hown hts hK hA (c_V_byteAt (ad := ad) (cI := cI) (cA := cA) (cL := cL) (F := F) h) (cwV 2 hts g_V_82 rfl rfl rfl hd_V_byteAt ⟨Nat.le_of_ble_eq_true rfl, Nat.le_of_ble_eq_true rfl⟩) 9 2 rfl rfl rfl rfl (Nat.le_of_ble_eq_true rfl) d_V_load_71 ⟨Nat.le_of_ble_eq_true rfl, Nat.le_of_ble_eq_true rfl⟩ rfl (fun r12 σ11 h => ?_)
      refine jv_cvv (As := [.int v4, .int (v4 + r8), .int r12]) B hml hown hts hK hA (c_S_mark (ad := ad) (cI := cI) (cA := cA) (cL := cL) (F := F) h) (cwV 3 hts g_V_89 rfl rfl rfl hd_S_mark ⟨Nat.le_of_ble_eq_true rfl, Nat.le_of_ble_eq_true rfl⟩) 6 3 rfl rfl rfl rfl (Nat.le_of_ble_eq_true rfl) d_V_load_74 ⟨Nat.le_of_ble_eq_true rfl, Nat.le_of_ble_eq_true rfl⟩ rfl (fun σ13 h => ?_)
      refine jv_iload B d_V_load_77 0 rfl ?_
      refine jv_istore (lv' := [(4, .int (v4 + r8)), (6, .int (v4 + r8)), (0, .ref (ad 9)), (1, .int v1), (2, .ref (ad 6)), (3, .int v3), (5, .int v5)]) B d_V_load_79 (by decide) rfl ?_
      refine jv_iinc (n9 := 6) (v := v5 + 1) (lv' := [(5, .int (v5 + 1)), (4, .int (v4 + r8)), (6, .int (v4 + r8)), (0, .ref (ad 9)), (1, .int v1), (2, .ref (ad 6)), (3, .int v3)]) B d_V_load_81 rfl rfl (by decide) rfl ?_
      refine jv_goto (tgt := 34) B d_V_load_84 (by decide) ?_
      refine jv_sub [3, 4, 5, 6, 1, 0] rfl ?_
      exact ih _ _ _ _ h
set_option maxRecDepth 100000 in
theorem w_V_load_0 (X : jv_C p s m args meth c b_V_load 7 none y_V_load wb D jClasses (jTy cI cA cL) A) {post : jS → Prop} {σ : jS} {v1 : Int32} (h : p_V_load σ v1 post) : jv_V p l e (rmk 3 0 0) s m args below meth c D jClasses A 7 0 0 (MQ below (va_Qv post (jv_End D jClasses (jTy cI cA cL) A (fun σ => cw ad cI cA σ F)) A) args s 0 0 A) (cw ad cI cA σ F) [(0, .ref (ad 9)), (1, .int v1), (2, .ref (ad 6))] 0 [] := by
  obtain ⟨B, hml, hown, hts, hK, hA, hr, hlk, hnm⟩ := id X
  unfold p_V_load at h
  refine jv_iload_n B d_V_load_0 rfl 1 rfl ?_
  refine jv_iconst (v := (-1)) B d_V_load_1 (by decide) ?_
  refine jv_icmp_ne (tgt := 11) B d_V_load_2 (by decide) (fun hc => ?_) (fun hc => ?_)
  · replace h := h.1 hc
    refine jv_aload_n B d_V_load_11 rfl 0 rfl ?_
    refine jv_aload_n B d_V_load_12 rfl 0 rfl ?_
    refine jv_iload_n B d_V_load_13 rfl 1 rfl ?_
    refine jv_iconst (v := 0) B d_V_load_14 (by decide) ?_
    refine jv_civ (As := [.int v1, .int 0]) B hml hown hts hK hA (c_V_byteAt (ad := ad) (cI := cI) (cA := cA) (cL := cL) (F := F) h) (cwV 2 hts g_V_82 rfl rfl rfl hd_V_byteAt ⟨Nat.le_of_ble_eq_true rfl, Nat.le_of_ble_eq_true rfl⟩) 9 2 rfl rfl rfl rfl (Nat.le_of_ble_eq_true rfl) d_V_load_15 ⟨Nat.le_of_ble_eq_true rfl, Nat.le_of_ble_eq_true rfl⟩ rfl (fun r2 σ1 h => ?_)
    refine fs_V_lastNumber B hts hown hK d_V_load_18 ?_
    refine jv_aload_n B d_V_load_21 rfl 0 rfl ?_
    refine jv_iload_n B d_V_load_22 rfl 1 rfl ?_
    refine jv_iconst (v := 1) B d_V_load_23 (by decide) ?_
    refine jv_civ (As := [.int v1, .int 1]) B hml hown hts hK hA (c_V_byteAt (ad := ad) (cI := cI) (cA := cA) (cL := cL) (F := F) h) (cwV 2 hts g_V_82 rfl rfl rfl hd_V_byteAt ⟨Nat.le_of_ble_eq_true rfl, Nat.le_of_ble_eq_true rfl⟩) 9 2 rfl rfl rfl rfl (Nat.le_of_ble_eq_true rfl) d_V_load_24 ⟨Nat.le_of_ble_eq_true rfl, Nat.le_of_ble_eq_true rfl⟩ rfl (fun r4 σ3 h => ?_)
    refine jv_istore_n (lv' := [(3, .int r4), (0, .ref (ad 9)), (1, .int v1), (2, .ref (ad 6))]) B d_V_load_27 rfl (by decide) rfl ?_
    refine jv_iconst (v := 0) B d_V_load_28 (by decide) ?_
    refine jv_istore (lv' := [(4, .int 0), (3, .int r4), (0, .ref (ad 9)), (1, .int v1), (2, .ref (ad 6))]) B d_V_load_29 (by decide) rfl ?_
    refine jv_iconst (v := 0) B d_V_load_31 (by decide) ?_
    refine jv_istore (lv' := [(5, .int 0), (4, .int 0), (3, .int r4), (0, .ref (ad 9)), (1, .int v1), (2, .ref (ad 6))]) B d_V_load_32 (by decide) rfl ?_
    refine jv_sub [3, 4, 5, 2, 1, 0] rfl ?_
    obtain ⟨n9, h⟩ := h
    exact w_V_load_34 X n9 _ _ _ _ h
  · replace h := h.2 hc
    refine jv_aload_n B d_V_load_5 rfl 0 rfl ?_
    refine jv_iconst (v := 0) B d_V_load_6 (by decide) ?_
    refine fs_V_lastNumber B hts hown hK d_V_load_7 ?_
    exact jv_vret B hr hlk hK _ rfl h d_V_load_10
theorem c_V_load {l : Launch} {D : va_G} {A : Nat → Prop} {ad : Nat → Nat} {cI cA cL : ClassId} {F : va_W} {σ : jS} {v1 : Int32} {post : jS → Prop} (h : p_V_load σ v1 post) : Met l y_V_load (Cond.code y_V_load b_V_load 7 none :: wb) (rmk 3 0 0) (jv_Pre D jClasses (jTy cI cA cL) A (cw ad cI cA σ F) [.ref (ad 9), .int v1, .ref (ad 6)]) (va_Qv post (jv_End D jClasses (jTy cI cA cL) A (fun σ => cw ad cI cA σ F)) A) 0 0 A :=
  jv_ofB (by decide) (Nat.le_of_ble_eq_true rfl) (fun p e s m below meth c X => w_V_load_0 X h)
set_option maxRecDepth 100000 in
theorem w_S_clear_0 (X : jv_C p s m args meth c b_S_clear 2 none y_S_clear wb D jClasses (jTy cI cA cL) A) {post : jS → Prop} {σ : jS} {v1 : Int32} (h : p_S_clear σ v1 post) : jv_V p l e (rmk 2 0 0) s m args below meth c D jClasses A 2 0 0 (MQ below (va_Qv post (jv_End D jClasses (jTy cI cA cL) A (fun σ => cw ad cI cA σ F)) A) args s 0 0 A) (cw ad cI cA σ F) [(0, .ref (ad 6)), (1, .int v1)] 0 [] := by
  obtain ⟨B, hml, hown, hts, hK, hA, hr, hlk, hnm⟩ := id X
  unfold p_S_clear at h
  refine jv_aload_n B d_S_clear_0 rfl 0 rfl ?_
  refine jv_iconst (v := 0) B d_S_clear_1 (by decide) ?_
  refine jv_iload_n B d_S_clear_2 rfl 1 rfl ?_
  refine jv_bipush (v := 64) B d_S_clear_3 (by decide) ?_
  refine jv_mmin B hml hown hts (hts _ kw_350) (Nat.le_of_ble_eq_true rfl) (Nat.le_of_ble_eq_true rfl) (Nat.le_of_ble_eq_true rfl) (Nat.le_of_ble_eq_true rfl) d_S_clear_5 ?_
  refine jv_mmax B hml hown hts (hts _ kw_353) (Nat.le_of_ble_eq_true rfl) (Nat.le_of_ble_eq_true rfl) (Nat.le_of_ble_eq_true rfl) (Nat.le_of_ble_eq_true rfl) d_S_clear_8 ?_
  refine fs_S_sectors B hts hown hK d_S_clear_11 ?_
  refine jv_aload_n B d_S_clear_14 rfl 0 rfl ?_
  refine fg_S_states B hts hown hK d_S_clear_15 ?_
  refine jv_iconst (v := 0) B d_S_clear_18 (by decide) ?_
  refine jv_fill (ws' := cw ad cI cA (upA (up2 σ 6 1 (if 0 < (if 64 < v1 then 64 else v1) then (if 64 < v1 then 64 else v1) else 0)) 7 64 0) F) B hml hown hts hK hA kw_356 7 rfl rfl (by decide) rfl (Nat.le_of_ble_eq_true rfl) (Nat.le_of_ble_eq_true rfl) ⟨Nat.le_of_ble_eq_true rfl, Nat.le_of_ble_eq_true rfl⟩ (Nat.le_of_ble_eq_true rfl) d_S_clear_19 ?_
  exact jv_vret B hr hlk hK _ rfl h d_S_clear_22
theorem c_S_clear {l : Launch} {D : va_G} {A : Nat → Prop} {ad : Nat → Nat} {cI cA cL : ClassId} {F : va_W} {σ : jS} {v1 : Int32} {post : jS → Prop} (h : p_S_clear σ v1 post) : Met l y_S_clear (Cond.code y_S_clear b_S_clear 2 none :: wb) (rmk 2 0 0) (jv_Pre D jClasses (jTy cI cA cL) A (cw ad cI cA σ F) [.ref (ad 6), .int v1]) (va_Qv post (jv_End D jClasses (jTy cI cA cL) A (fun σ => cw ad cI cA σ F)) A) 0 0 A :=
  jv_ofB (by decide) (Nat.le_of_ble_eq_true rfl) (fun p e s m below meth c X => w_S_clear_0 X h)
set_option maxRecDepth 100000 in
theorem w_S_countOf_25 (X : jv_C p s m args meth c b_S_countOf 4 (some .int) y_S_countOf wb D jClasses (jTy cI cA cL) A) {post : Int32 → jS → Prop} {v1 : Int32} {σ : jS} {v2 v3 : Int32} {k4 : jS → Int32 → Int32 → Prop} (H4 : ∀ (σ : jS) (v2 v3 : Int32), k4 σ v2 v3 → jv_V p l e (rmk 1 0 0) s m args below meth c D jClasses A 4 0 0 (MQ below (va_Qi post (jv_End D jClasses (jTy cI cA cL) A (fun σ => cw ad cI cA σ F)) A) args s 0 0 A) (cw ad cI cA σ F) [(0, .ref (ad 6)), (1, .int v1), (2, .int v2), (3, .int v3)] 4 []) (h : p_S_countOf_25 post k4 v1 σ v2 v3) : jv_V p l e (rmk 1 0 0) s m args below meth c D jClasses A 4 0 0 (MQ below (va_Qi post (jv_End D jClasses (jTy cI cA cL) A (fun σ => cw ad cI cA σ F)) A) args s 0 0 A) (cw ad cI cA σ F) [(0, .ref (ad 6)), (1, .int v1), (2, .int v2), (3, .int v3)] 25 [] := by
  obtain ⟨B, hml, hown, hts, hK, hA, hr, hlk, hnm⟩ := id X
  unfold p_S_countOf_25 at h
  refine jv_iinc (n9 := 3) (v := v3 + 1) (lv' := [(3, .int (v3 + 1)), (0, .ref (ad 6)), (1, .int v1), (2, .int v2)]) B d_S_countOf_25 rfl rfl (by decide) rfl ?_
  refine jv_goto (tgt := 4) B d_S_countOf_28 (by decide) ?_
  refine jv_sub [1, 2, 3, 0] rfl ?_
  exact H4 _ _ _ h
set_option maxRecDepth 100000 in
theorem w_S_countOf_4 (X : jv_C p s m args meth c b_S_countOf 4 (some .int) y_S_countOf wb D jClasses (jTy cI cA cL) A) {post : Int32 → jS → Prop} {v1 : Int32} : ∀ (n : Nat), ∀ (σ : jS) (v2 v3 : Int32), p_S_countOf_4 post v1 n σ v2 v3 → jv_V p l e (rmk 1 0 0) s m args below meth c D jClasses A 4 0 0 (MQ below (va_Qi post (jv_End D jClasses (jTy cI cA cL) A (fun σ => cw ad cI cA σ F)) A) args s 0 0 A) (cw ad cI cA σ F) [(0, .ref (ad 6)), (1, .int v1), (2, .int v2), (3, .int v3)] 4 [] := by
  obtain ⟨B, hml, hown, hts, hK, hA, hr, hlk, hnm⟩ := id X
  intro n
  induction n with
  | zero => intro σ v2 v3 h; exact h.elim
  | succ n ih =>
    intro σ v2 v3 h
    rw [p_S_countOf_4] at h
    refine jv_iload_n B d_S_countOf_4 rfl 3 rfl ?_
    refine jv_aload_n B d_S_countOf_5 rfl 0 rfl ?_
    refine fg_S_sectors B hts hown hK d_S_countOf_6 ?_
    refine jv_icmp_ge (tgt := 31) B d_S_countOf_9 (by decide) (fun hc => ?_) (fun hc => ?_)
    · replace h := h.1 hc
      refine jv_iload_n B d_S_countOf_31 rfl 2 rfl ?_
      exact jv_iret B hr rfl hlk hK _ rfl h d_S_countOf_32
    · replace h := h.2 hc
      refine jv_aload_n B d_S_countOf_12 rfl 0 rfl ?_
      refine fg_S_states B hts hown hK d_S_countOf_13 ?_
      refine jv_iload_n B d_S_countOf_16 rfl 3 rfl ?_
      refine ld_c_7 B hK h.1 d_S_countOf_17 ?_
      replace h := h.2
      refine jv_iload_n B d_S_countOf_18 rfl 1 rfl ?_
      refine jv_icmp_ne (tgt := 25) B d_S_countOf_19 (by decide) (fun hc => ?_) (fun hc => ?_)
      · replace h := h.1 hc
        exact w_S_countOf_25 X ih h
      · replace h := h.2 hc
        refine jv_iinc (n9 := 2) (v := v2 + 1) (lv' := [(2, .int (v2 + 1)), (0, .ref (ad 6)), (1, .int v1), (3, .int v3)]) B d_S_countOf_22 rfl rfl (by decide) rfl ?_
        refine jv_sub [1, 2, 0, 3] rfl ?_
        exact w_S_countOf_25 X ih h
set_option maxRecDepth 100000 in
theorem w_S_countOf_0 (X : jv_C p s m args meth c b_S_countOf 4 (some .int) y_S_countOf wb D jClasses (jTy cI cA cL) A) {post : Int32 → jS → Prop} {σ : jS} {v1 : Int32} (h : p_S_countOf σ v1 post) : jv_V p l e (rmk 1 0 0) s m args below meth c D jClasses A 4 0 0 (MQ below (va_Qi post (jv_End D jClasses (jTy cI cA cL) A (fun σ => cw ad cI cA σ F)) A) args s 0 0 A) (cw ad cI cA σ F) [(0, .ref (ad 6)), (1, .int v1)] 0 [] := by
  obtain ⟨B, hml, hown, hts, hK, hA, hr, hlk, hnm⟩ := id X
  unfold p_S_countOf at h
  refine jv_iconst (v := 0) B d_S_countOf_0 (by decide) ?_
  refine jv_istore_n (lv' := [(2, .int 0), (0, .ref (ad 6)), (1, .int v1)]) B d_S_countOf_1 rfl (by decide) rfl ?_
  refine jv_iconst (v := 0) B d_S_countOf_2 (by decide) ?_
  refine jv_istore_n (lv' := [(3, .int 0), (2, .int 0), (0, .ref (ad 6)), (1, .int v1)]) B d_S_countOf_3 rfl (by decide) rfl ?_
  refine jv_sub [2, 3, 1, 0] rfl ?_
  obtain ⟨n9, h⟩ := h
  exact w_S_countOf_4 X n9 _ _ _ h
theorem c_S_countOf {l : Launch} {D : va_G} {A : Nat → Prop} {ad : Nat → Nat} {cI cA cL : ClassId} {F : va_W} {σ : jS} {v1 : Int32} {post : Int32 → jS → Prop} (h : p_S_countOf σ v1 post) : Met l y_S_countOf (Cond.code y_S_countOf b_S_countOf 4 (some .int) :: wb) (rmk 1 0 0) (jv_Pre D jClasses (jTy cI cA cL) A (cw ad cI cA σ F) [.ref (ad 6), .int v1]) (va_Qi post (jv_End D jClasses (jTy cI cA cL) A (fun σ => cw ad cI cA σ F)) A) 0 0 A :=
  jv_ofB (by decide) (Nat.le_of_ble_eq_true rfl) (fun p e s m below meth c X => w_S_countOf_0 X h)
set_option maxRecDepth 100000 in
theorem w_S_firstOfRun_30 (X : jv_C p s m args meth c b_S_firstOfRun 4 (some .int) y_S_firstOfRun wb D jClasses (jTy cI cA cL) A) {post : Int32 → jS → Prop} {v1 : Int32} {σ : jS} {v2 v3 : Int32} {k4 : jS → Int32 → Int32 → Prop} (H4 : ∀ (σ : jS) (v2 v3 : Int32), k4 σ v2 v3 → jv_V p l e (rmk 3 0 0) s m args below meth c D jClasses A 4 0 0 (MQ below (va_Qi post (jv_End D jClasses (jTy cI cA cL) A (fun σ => cw ad cI cA σ F)) A) args s 0 0 A) (cw ad cI cA σ F) [(0, .ref (ad 6)), (1, .int v1), (2, .int v2), (3, .int v3)] 4 []) (h : p_S_firstOfRun_30 post k4 v1 σ v2 v3) : jv_V p l e (rmk 3 0 0) s m args below meth c D jClasses A 4 0 0 (MQ below (va_Qi post (jv_End D jClasses (jTy cI cA cL) A (fun σ => cw ad cI cA σ F)) A) args s 0 0 A) (cw ad cI cA σ F) [(0, .ref (ad 6)), (1, .int v1), (2, .int v2), (3, .int v3)] 30 [] := by
  obtain ⟨B, hml, hown, hts, hK, hA, hr, hlk, hnm⟩ := id X
  unfold p_S_firstOfRun_30 at h
  refine jv_iinc (n9 := 3) (v := v3 + 1) (lv' := [(3, .int (v3 + 1)), (0, .ref (ad 6)), (1, .int v1), (2, .int v2)]) B d_S_firstOfRun_30 rfl rfl (by decide) rfl ?_
  refine jv_goto (tgt := 4) B d_S_firstOfRun_33 (by decide) ?_
  refine jv_sub [1, 2, 3, 0] rfl ?_
  exact H4 _ _ _ h
set_option maxRecDepth 100000 in
theorem w_S_firstOfRun_4 (X : jv_C p s m args meth c b_S_firstOfRun 4 (some .int) y_S_firstOfRun wb D jClasses (jTy cI cA cL) A) {post : Int32 → jS → Prop} {v1 : Int32} : ∀ (n : Nat), ∀ (σ : jS) (v2 v3 : Int32), p_S_firstOfRun_4 post v1 n σ v2 v3 → jv_V p l e (rmk 3 0 0) s m args below meth c D jClasses A 4 0 0 (MQ below (va_Qi post (jv_End D jClasses (jTy cI cA cL) A (fun σ => cw ad cI cA σ F)) A) args s 0 0 A) (cw ad cI cA σ F) [(0, .ref (ad 6)), (1, .int v1), (2, .int v2), (3, .int v3)] 4 [] := by
  obtain ⟨B, hml, hown, hts, hK, hA, hr, hlk, hnm⟩ := id X
  intro n
  induction n with
  | zero => intro σ v2 v3 h; exact h.elim
  | succ n ih =>
    intro σ v2 v3 h
    rw [p_S_firstOfRun_4] at h
    refine jv_iload_n B d_S_firstOfRun_4 rfl 3 rfl ?_
    refine jv_aload_n B d_S_firstOfRun_5 rfl 0 rfl ?_
    refine fg_S_sectors B hts hown hK d_S_firstOfRun_6 ?_
    refine jv_icmp_ge (tgt := 36) B d_S_firstOfRun_9 (by decide) (fun hc => ?_) (fun hc => ?_)
    · replace h := h.1 hc
      refine jv_iconst (v := (-1)) B d_S_firstOfRun_36 (by decide) ?_
      exact jv_iret B hr rfl hlk hK _ rfl h d_S_firstOfRun_37
    · replace h := h.2 hc
      refine jv_aload_n B d_S_firstOfRun_12 rfl 0 rfl ?_
      refine jv_iload_n B d_S_firstOfRun_13 rfl 3 rfl ?_
      refine jv_civ (As := [.int v3]) B hml hown hts hK hA (c_S_startsRun (ad := ad) (cI := cI) (cA := cA) (cL := cL) (F := F) h) (cwV 1 hts g_S_38 rfl rfl rfl hd_S_startsRun ⟨Nat.le_of_ble_eq_true rfl, Nat.le_of_ble_eq_true rfl⟩) 6 3 rfl rfl rfl rfl (Nat.le_of_ble_eq_true rfl) d_S_firstOfRun_14 ⟨Nat.le_of_ble_eq_true rfl, Nat.le_of_ble_eq_true rfl⟩ rfl (fun r2 σ1 h => ?_)
      refine jv_if_eq (tgt := 30) B d_S_firstOfRun_17 (by decide) (fun hc => ?_) (fun hc => ?_)
      · replace h := h.1 hc
        exact w_S_firstOfRun_30 X ih h
      · replace h := h.2 hc
        refine jv_iload_n B d_S_firstOfRun_20 rfl 2 rfl ?_
        refine jv_iload_n B d_S_firstOfRun_21 rfl 1 rfl ?_
        refine jv_icmp_ne (tgt := 27) B d_S_firstOfRun_22 (by decide) (fun hc => ?_) (fun hc => ?_)
        · replace h := h.1 hc
          refine jv_iinc (n9 := 2) (v := v2 + 1) (lv' := [(2, .int (v2 + 1)), (0, .ref (ad 6)), (1, .int v1), (3, .int v3)]) B d_S_firstOfRun_27 rfl rfl (by decide) rfl ?_
          refine jv_sub [1, 2, 0, 3] rfl ?_
          exact w_S_firstOfRun_30 X ih h
        · replace h := h.2 hc
          refine jv_iload_n B d_S_firstOfRun_25 rfl 3 rfl ?_
          exact jv_iret B hr rfl hlk hK _ rfl h d_S_firstOfRun_26
set_option maxRecDepth 100000 in
theorem w_S_firstOfRun_0 (X : jv_C p s m args meth c b_S_firstOfRun 4 (some .int) y_S_firstOfRun wb D jClasses (jTy cI cA cL) A) {post : Int32 → jS → Prop} {σ : jS} {v1 : Int32} (h : p_S_firstOfRun σ v1 post) : jv_V p l e (rmk 3 0 0) s m args below meth c D jClasses A 4 0 0 (MQ below (va_Qi post (jv_End D jClasses (jTy cI cA cL) A (fun σ => cw ad cI cA σ F)) A) args s 0 0 A) (cw ad cI cA σ F) [(0, .ref (ad 6)), (1, .int v1)] 0 [] := by
  obtain ⟨B, hml, hown, hts, hK, hA, hr, hlk, hnm⟩ := id X
  unfold p_S_firstOfRun at h
  refine jv_iconst (v := 0) B d_S_firstOfRun_0 (by decide) ?_
  refine jv_istore_n (lv' := [(2, .int 0), (0, .ref (ad 6)), (1, .int v1)]) B d_S_firstOfRun_1 rfl (by decide) rfl ?_
  refine jv_iconst (v := 0) B d_S_firstOfRun_2 (by decide) ?_
  refine jv_istore_n (lv' := [(3, .int 0), (2, .int 0), (0, .ref (ad 6)), (1, .int v1)]) B d_S_firstOfRun_3 rfl (by decide) rfl ?_
  refine jv_sub [2, 3, 1, 0] rfl ?_
  obtain ⟨n9, h⟩ := h
  exact w_S_firstOfRun_4 X n9 _ _ _ h
theorem c_S_firstOfRun {l : Launch} {D : va_G} {A : Nat → Prop} {ad : Nat → Nat} {cI cA cL : ClassId} {F : va_W} {σ : jS} {v1 : Int32} {post : Int32 → jS → Prop} (h : p_S_firstOfRun σ v1 post) : Met l y_S_firstOfRun (Cond.code y_S_firstOfRun b_S_firstOfRun 4 (some .int) :: wb) (rmk 3 0 0) (jv_Pre D jClasses (jTy cI cA cL) A (cw ad cI cA σ F) [.ref (ad 6), .int v1]) (va_Qi post (jv_End D jClasses (jTy cI cA cL) A (fun σ => cw ad cI cA σ F)) A) 0 0 A :=
  jv_ofB (by decide) (Nat.le_of_ble_eq_true rfl) (fun p e s m below meth c X => w_S_firstOfRun_0 X h)
set_option maxRecDepth 100000 in
theorem w_R_state_0 (X : jv_C p s m args meth c b_R_state 2 (some .int) y_R_state wb D jClasses (jTy cI cA cL) A) {post : Int32 → jS → Prop} {σ : jS} {v1 : Int32} (h : p_R_state σ v1 post) : jv_V p l e (rmk 2 0 0) s m args below meth c D jClasses A 2 0 0 (MQ below (va_Qi post (jv_End D jClasses (jTy cI cA cL) A (fun σ => cw ad cI cA σ F)) A) args s 0 0 A) (cw ad cI cA σ F) [(0, .ref (ad 0)), (1, .int v1)] 0 [] := by
  obtain ⟨B, hml, hown, hts, hK, hA, hr, hlk, hnm⟩ := id X
  unfold p_R_state at h
  refine jv_aload_n B d_R_state_0 rfl 0 rfl ?_
  refine fg_R_copier B hts hown hK d_R_state_1 ?_
  refine jv_civ (As := []) B hml hown hts hK hA (c_K_goesOn (ad := ad) (cI := cI) (cA := cA) (cL := cL) (F := F) h) (cwV 0 hts g_R_88 rfl rfl rfl hd_K_goesOn ⟨Nat.le_of_ble_eq_true rfl, Nat.le_of_ble_eq_true rfl⟩) 8 0 rfl rfl rfl rfl (Nat.le_of_ble_eq_true rfl) d_R_state_4 ⟨Nat.le_of_ble_eq_true rfl, Nat.le_of_ble_eq_true rfl⟩ rfl (fun r2 σ1 h => ?_)
  refine jv_if_eq (tgt := 21) B d_R_state_7 (by decide) (fun hc => ?_) (fun hc => ?_)
  · replace h := h.1 hc
    refine jv_iconst (v := (-1)) B d_R_state_21 (by decide) ?_
    exact jv_iret B hr rfl hlk hK _ rfl h d_R_state_22
  · replace h := h.2 hc
    refine jv_aload_n B d_R_state_10 rfl 0 rfl ?_
    refine fg_R_map B hts hown hK d_R_state_11 ?_
    refine jv_iload_n B d_R_state_14 rfl 1 rfl ?_
    refine jv_civ (As := [.int v1]) B hml hown hts hK hA (c_S_stateOf (ad := ad) (cI := cI) (cA := cA) (cL := cL) (F := F) h) (cwV 1 hts g_R_129 rfl rfl rfl hd_S_stateOf ⟨Nat.le_of_ble_eq_true rfl, Nat.le_of_ble_eq_true rfl⟩) 6 3 rfl rfl rfl rfl (Nat.le_of_ble_eq_true rfl) d_R_state_15 ⟨Nat.le_of_ble_eq_true rfl, Nat.le_of_ble_eq_true rfl⟩ rfl (fun r4 σ3 h => ?_)
    refine jv_goto (tgt := 22) B d_R_state_18 (by decide) ?_
    exact jv_iret B hr rfl hlk hK _ rfl h d_R_state_22
theorem c_R_state {l : Launch} {D : va_G} {A : Nat → Prop} {ad : Nat → Nat} {cI cA cL : ClassId} {F : va_W} {σ : jS} {v1 : Int32} {post : Int32 → jS → Prop} (h : p_R_state σ v1 post) : Met l y_R_state (Cond.code y_R_state b_R_state 2 (some .int) :: wb) (rmk 2 0 0) (jv_Pre D jClasses (jTy cI cA cL) A (cw ad cI cA σ F) [.ref (ad 0), .int v1]) (va_Qi post (jv_End D jClasses (jTy cI cA cL) A (fun σ => cw ad cI cA σ F)) A) 0 0 A :=
  jv_ofB (by decide) (Nat.le_of_ble_eq_true rfl) (fun p e s m below meth c X => w_R_state_0 X h)
set_option maxRecDepth 100000 in
theorem w_R_count_0 (X : jv_C p s m args meth c b_R_count 2 (some .int) y_R_count wb D jClasses (jTy cI cA cL) A) {post : Int32 → jS → Prop} {σ : jS} {v1 : Int32} (h : p_R_count σ v1 post) : jv_V p l e (rmk 2 0 0) s m args below meth c D jClasses A 2 0 0 (MQ below (va_Qi post (jv_End D jClasses (jTy cI cA cL) A (fun σ => cw ad cI cA σ F)) A) args s 0 0 A) (cw ad cI cA σ F) [(0, .ref (ad 0)), (1, .int v1)] 0 [] := by
  obtain ⟨B, hml, hown, hts, hK, hA, hr, hlk, hnm⟩ := id X
  unfold p_R_count at h
  refine jv_aload_n B d_R_count_0 rfl 0 rfl ?_
  refine fg_R_copier B hts hown hK d_R_count_1 ?_
  refine jv_civ (As := []) B hml hown hts hK hA (c_K_goesOn (ad := ad) (cI := cI) (cA := cA) (cL := cL) (F := F) h) (cwV 0 hts g_R_88 rfl rfl rfl hd_K_goesOn ⟨Nat.le_of_ble_eq_true rfl, Nat.le_of_ble_eq_true rfl⟩) 8 0 rfl rfl rfl rfl (Nat.le_of_ble_eq_true rfl) d_R_count_4 ⟨Nat.le_of_ble_eq_true rfl, Nat.le_of_ble_eq_true rfl⟩ rfl (fun r2 σ1 h => ?_)
  refine jv_if_eq (tgt := 21) B d_R_count_7 (by decide) (fun hc => ?_) (fun hc => ?_)
  · replace h := h.1 hc
    refine jv_iconst (v := 0) B d_R_count_21 (by decide) ?_
    exact jv_iret B hr rfl hlk hK _ rfl h d_R_count_22
  · replace h := h.2 hc
    refine jv_aload_n B d_R_count_10 rfl 0 rfl ?_
    refine fg_R_map B hts hown hK d_R_count_11 ?_
    refine jv_iload_n B d_R_count_14 rfl 1 rfl ?_
    refine jv_civ (As := [.int v1]) B hml hown hts hK hA (c_S_countOf (ad := ad) (cI := cI) (cA := cA) (cL := cL) (F := F) h) (cwV 1 hts g_R_139 rfl rfl rfl hd_S_countOf ⟨Nat.le_of_ble_eq_true rfl, Nat.le_of_ble_eq_true rfl⟩) 6 3 rfl rfl rfl rfl (Nat.le_of_ble_eq_true rfl) d_R_count_15 ⟨Nat.le_of_ble_eq_true rfl, Nat.le_of_ble_eq_true rfl⟩ rfl (fun r4 σ3 h => ?_)
    refine jv_goto (tgt := 22) B d_R_count_18 (by decide) ?_
    exact jv_iret B hr rfl hlk hK _ rfl h d_R_count_22
theorem c_R_count {l : Launch} {D : va_G} {A : Nat → Prop} {ad : Nat → Nat} {cI cA cL : ClassId} {F : va_W} {σ : jS} {v1 : Int32} {post : Int32 → jS → Prop} (h : p_R_count σ v1 post) : Met l y_R_count (Cond.code y_R_count b_R_count 2 (some .int) :: wb) (rmk 2 0 0) (jv_Pre D jClasses (jTy cI cA cL) A (cw ad cI cA σ F) [.ref (ad 0), .int v1]) (va_Qi post (jv_End D jClasses (jTy cI cA cL) A (fun σ => cw ad cI cA σ F)) A) 0 0 A :=
  jv_ofB (by decide) (Nat.le_of_ble_eq_true rfl) (fun p e s m below meth c X => w_R_count_0 X h)
set_option maxRecDepth 100000 in
theorem w_R_part_22 (X : jv_C p s m args meth c b_R_part 4 (some .int) y_R_part wb D jClasses (jTy cI cA cL) A) {post : Int32 → jS → Prop} {v1 v2 : Int32} {σ : jS} {y0 : Int32} (h : p_R_part_22 post v1 v2 σ y0) : jv_V p l e (rmk 4 0 0) s m args below meth c D jClasses A 4 0 0 (MQ below (va_Qi post (jv_End D jClasses (jTy cI cA cL) A (fun σ => cw ad cI cA σ F)) A) args s 0 0 A) (cw ad cI cA σ F) [(0, .ref (ad 0)), (2, .int v2)] 22 [.int y0] := by
  obtain ⟨B, hml, hown, hts, hK, hA, hr, hlk, hnm⟩ := id X
  unfold p_R_part_22 at h
  refine jv_istore_n (lv' := [(3, .int y0), (0, .ref (ad 0)), (2, .int v2)]) B d_R_part_22 rfl (by decide) rfl ?_
  refine jv_iload_n B d_R_part_23 rfl 0 rfl ?_
  refine jv_iconst (v := (-1)) B d_R_part_24 (by decide) ?_
  refine jv_icmp_ne (tgt := 30) B d_R_part_25 (by decide) (fun hc => ?_) (fun hc => ?_)
  · replace h := h.1 hc
    refine jv_iload_n B d_R_part_30 rfl 2 rfl ?_
    refine jv_tsw (n := 3) (tg := fun j => match j with | 0 => 56 | 1 => 58 | 2 => 71 | _ => 80) (tgd := 80) B d_R_part_31 (by decide) (by decide) (by decide) (fun j hj hc => ?_) (fun hc => ?_)
    · match j, hj with
      | 0, _ =>
        replace h := h.1 hc
        refine jv_iload_n B d_R_part_56 rfl 0 rfl ?_
        exact jv_iret B hr rfl hlk hK _ rfl h d_R_part_57
      | 1, _ =>
        replace h := h.2.1 hc
        refine jv_aload_n B d_R_part_58 rfl 1 rfl ?_
        refine fg_R_map B hts hown hK d_R_part_59 ?_
        refine jv_iload_n B d_R_part_62 rfl 0 rfl ?_
        refine jv_bipush (v := 64) B d_R_part_63 (by decide) ?_
        refine jv_civ (As := [.int y0, .int 64]) B hml hown hts hK hA (c_S_behindStretch (ad := ad) (cI := cI) (cA := cA) (cL := cL) (F := F) h) (cwV 2 hts g_R_145 rfl rfl rfl hd_S_behindStretch ⟨Nat.le_of_ble_eq_true rfl, Nat.le_of_ble_eq_true rfl⟩) 6 3 rfl rfl rfl rfl (Nat.le_of_ble_eq_true rfl) d_R_part_65 ⟨Nat.le_of_ble_eq_true rfl, Nat.le_of_ble_eq_true rfl⟩ rfl (fun r4 σ3 h => ?_)
        refine jv_iload_n B d_R_part_68 rfl 0 rfl ?_
        refine jv_isub B d_R_part_69 ?_
        exact jv_iret B hr rfl hlk hK _ rfl h d_R_part_70
      | 2, _ =>
        replace h := h.2.2.1 hc
        refine jv_aload_n B d_R_part_71 rfl 1 rfl ?_
        refine fg_R_map B hts hown hK d_R_part_72 ?_
        refine jv_iload_n B d_R_part_75 rfl 0 rfl ?_
        refine jv_civ (As := [.int y0]) B hml hown hts hK hA (c_S_stateOf (ad := ad) (cI := cI) (cA := cA) (cL := cL) (F := F) h) (cwV 1 hts g_R_129 rfl rfl rfl hd_S_stateOf ⟨Nat.le_of_ble_eq_true rfl, Nat.le_of_ble_eq_true rfl⟩) 6 3 rfl rfl rfl rfl (Nat.le_of_ble_eq_true rfl) d_R_part_76 ⟨Nat.le_of_ble_eq_true rfl, Nat.le_of_ble_eq_true rfl⟩ rfl (fun r6 σ5 h => ?_)
        exact jv_iret B hr rfl hlk hK _ rfl h d_R_part_79
      | j + 3, hj => exact absurd hj (by omega)
    · replace h := h.2.2.2 hc
      refine jv_iconst (v := (-1)) B d_R_part_80 (by decide) ?_
      exact jv_iret B hr rfl hlk hK _ rfl h d_R_part_81
  · replace h := h.2 hc
    refine jv_iconst (v := (-1)) B d_R_part_28 (by decide) ?_
    exact jv_iret B hr rfl hlk hK _ rfl h d_R_part_29
set_option maxRecDepth 100000 in
theorem w_R_part_0 (X : jv_C p s m args meth c b_R_part 4 (some .int) y_R_part wb D jClasses (jTy cI cA cL) A) {post : Int32 → jS → Prop} {σ : jS} {v1 v2 : Int32} (h : p_R_part σ v1 v2 post) : jv_V p l e (rmk 4 0 0) s m args below meth c D jClasses A 4 0 0 (MQ below (va_Qi post (jv_End D jClasses (jTy cI cA cL) A (fun σ => cw ad cI cA σ F)) A) args s 0 0 A) (cw ad cI cA σ F) [(0, .ref (ad 0)), (1, .int v1), (2, .int v2)] 0 [] := by
  obtain ⟨B, hml, hown, hts, hK, hA, hr, hlk, hnm⟩ := id X
  unfold p_R_part at h
  refine jv_aload_n B d_R_part_0 rfl 0 rfl ?_
  refine fg_R_copier B hts hown hK d_R_part_1 ?_
  refine jv_civ (As := []) B hml hown hts hK hA (c_K_goesOn (ad := ad) (cI := cI) (cA := cA) (cL := cL) (F := F) h) (cwV 0 hts g_R_88 rfl rfl rfl hd_K_goesOn ⟨Nat.le_of_ble_eq_true rfl, Nat.le_of_ble_eq_true rfl⟩) 8 0 rfl rfl rfl rfl (Nat.le_of_ble_eq_true rfl) d_R_part_4 ⟨Nat.le_of_ble_eq_true rfl, Nat.le_of_ble_eq_true rfl⟩ rfl (fun r2 σ1 h => ?_)
  refine jv_if_eq (tgt := 21) B d_R_part_7 (by decide) (fun hc => ?_) (fun hc => ?_)
  · replace h := h.1 hc
    refine jv_iconst (v := (-1)) B d_R_part_21 (by decide) ?_
    refine jv_sub [0, 2] rfl ?_
    exact w_R_part_22 X h
  · replace h := h.2 hc
    refine jv_aload_n B d_R_part_10 rfl 0 rfl ?_
    refine fg_R_map B hts hown hK d_R_part_11 ?_
    refine jv_iload_n B d_R_part_14 rfl 1 rfl ?_
    refine jv_civ (As := [.int v1]) B hml hown hts hK hA (c_S_firstOfRun (ad := ad) (cI := cI) (cA := cA) (cL := cL) (F := F) h) (cwV 1 hts g_R_142 rfl rfl rfl hd_S_firstOfRun ⟨Nat.le_of_ble_eq_true rfl, Nat.le_of_ble_eq_true rfl⟩) 6 3 rfl rfl rfl rfl (Nat.le_of_ble_eq_true rfl) d_R_part_15 ⟨Nat.le_of_ble_eq_true rfl, Nat.le_of_ble_eq_true rfl⟩ rfl (fun r8 σ7 h => ?_)
    refine jv_goto (tgt := 22) B d_R_part_18 (by decide) ?_
    refine jv_sub [0, 2] rfl ?_
    exact w_R_part_22 X h
theorem c_R_part {l : Launch} {D : va_G} {A : Nat → Prop} {ad : Nat → Nat} {cI cA cL : ClassId} {F : va_W} {σ : jS} {v1 v2 : Int32} {post : Int32 → jS → Prop} (h : p_R_part σ v1 v2 post) : Met l y_R_part (Cond.code y_R_part b_R_part 4 (some .int) :: wb) (rmk 4 0 0) (jv_Pre D jClasses (jTy cI cA cL) A (cw ad cI cA σ F) [.ref (ad 0), .int v1, .int v2]) (va_Qi post (jv_End D jClasses (jTy cI cA cL) A (fun σ => cw ad cI cA σ F)) A) 0 0 A :=
  jv_ofB (by decide) (Nat.le_of_ble_eq_true rfl) (fun p e s m below meth c X => w_R_part_0 X h)
set_option maxRecDepth 100000 in
theorem w_R_phase_0 (X : jv_C p s m args meth c b_R_phase 1 (some .int) y_R_phase wb D jClasses (jTy cI cA cL) A) {post : Int32 → jS → Prop} {σ : jS} (h : p_R_phase σ post) : jv_V p l e (rmk 2 0 0) s m args below meth c D jClasses A 1 0 0 (MQ below (va_Qi post (jv_End D jClasses (jTy cI cA cL) A (fun σ => cw ad cI cA σ F)) A) args s 0 0 A) (cw ad cI cA σ F) [(0, .ref (ad 0))] 0 [] := by
  obtain ⟨B, hml, hown, hts, hK, hA, hr, hlk, hnm⟩ := id X
  unfold p_R_phase at h
  refine jv_aload_n B d_R_phase_0 rfl 0 rfl ?_
  refine fg_R_copier B hts hown hK d_R_phase_1 ?_
  refine jv_civ (As := []) B hml hown hts hK hA (c_K_currentPhase (ad := ad) (cI := cI) (cA := cA) (cL := cL) (F := F) h) (cwV 0 hts g_R_74 rfl rfl rfl hd_K_currentPhase ⟨Nat.le_of_ble_eq_true rfl, Nat.le_of_ble_eq_true rfl⟩) 8 0 rfl rfl rfl rfl (Nat.le_of_ble_eq_true rfl) d_R_phase_4 ⟨Nat.le_of_ble_eq_true rfl, Nat.le_of_ble_eq_true rfl⟩ rfl (fun r2 σ1 h => ?_)
  exact jv_iret B hr rfl hlk hK _ rfl h d_R_phase_7
theorem c_R_phase {l : Launch} {D : va_G} {A : Nat → Prop} {ad : Nat → Nat} {cI cA cL : ClassId} {F : va_W} {σ : jS} {post : Int32 → jS → Prop} (h : p_R_phase σ post) : Met l y_R_phase (Cond.code y_R_phase b_R_phase 1 (some .int) :: wb) (rmk 2 0 0) (jv_Pre D jClasses (jTy cI cA cL) A (cw ad cI cA σ F) [.ref (ad 0)]) (va_Qi post (jv_End D jClasses (jTy cI cA cL) A (fun σ => cw ad cI cA σ F)) A) 0 0 A :=
  jv_ofB (by decide) (Nat.le_of_ble_eq_true rfl) (fun p e s m below meth c X => w_R_phase_0 X h)
set_option maxRecDepth 100000 in
theorem w_R_out_0 (X : jv_C p s m args meth c b_R_out 2 (some .int) y_R_out wb D jClasses (jTy cI cA cL) A) {post : Int32 → jS → Prop} {σ : jS} {v1 : Int32} (h : p_R_out σ v1 post) : jv_V p l e (rmk 3 0 0) s m args below meth c D jClasses A 2 0 0 (MQ below (va_Qi post (jv_End D jClasses (jTy cI cA cL) A (fun σ => cw ad cI cA σ F)) A) args s 0 0 A) (cw ad cI cA σ F) [(0, .ref (ad 0)), (1, .int v1)] 0 [] := by
  obtain ⟨B, hml, hown, hts, hK, hA, hr, hlk, hnm⟩ := id X
  unfold p_R_out at h
  refine jv_aload_n B d_R_out_0 rfl 0 rfl ?_
  refine fg_R_disk B hts hown hK d_R_out_1 ?_
  refine jv_iload_n B d_R_out_4 rfl 1 rfl ?_
  refine jv_civ (As := [.int v1]) B hml hown hts hK hA (c_D_wordOut (ad := ad) (cI := cI) (cA := cA) (cL := cL) (F := F) h) (cwV 1 hts g_R_149 rfl rfl rfl hd_D_wordOut ⟨Nat.le_of_ble_eq_true rfl, Nat.le_of_ble_eq_true rfl⟩) 1 1 rfl rfl rfl rfl (Nat.le_of_ble_eq_true rfl) d_R_out_5 ⟨Nat.le_of_ble_eq_true rfl, Nat.le_of_ble_eq_true rfl⟩ rfl (fun r2 σ1 h => ?_)
  exact jv_iret B hr rfl hlk hK _ rfl h d_R_out_8
theorem c_R_out {l : Launch} {D : va_G} {A : Nat → Prop} {ad : Nat → Nat} {cI cA cL : ClassId} {F : va_W} {σ : jS} {v1 : Int32} {post : Int32 → jS → Prop} (h : p_R_out σ v1 post) : Met l y_R_out (Cond.code y_R_out b_R_out 2 (some .int) :: wb) (rmk 3 0 0) (jv_Pre D jClasses (jTy cI cA cL) A (cw ad cI cA σ F) [.ref (ad 0), .int v1]) (va_Qi post (jv_End D jClasses (jTy cI cA cL) A (fun σ => cw ad cI cA σ F)) A) 0 0 A :=
  jv_ofB (by decide) (Nat.le_of_ble_eq_true rfl) (fun p e s m below meth c X => w_R_out_0 X h)
set_option maxRecDepth 100000 in
theorem w_R_reads_0 (X : jv_C p s m args meth c b_R_reads 2 (some .int) y_R_reads wb D jClasses (jTy cI cA cL) A) {post : Int32 → jS → Prop} {σ : jS} {v1 : Int32} (h : p_R_reads σ v1 post) : jv_V p l e (rmk 3 0 0) s m args below meth c D jClasses A 2 0 0 (MQ below (va_Qi post (jv_End D jClasses (jTy cI cA cL) A (fun σ => cw ad cI cA σ F)) A) args s 0 0 A) (cw ad cI cA σ F) [(0, .ref (ad 0)), (1, .int v1)] 0 [] := by
  obtain ⟨B, hml, hown, hts, hK, hA, hr, hlk, hnm⟩ := id X
  unfold p_R_reads at h
  refine jv_aload_n B d_R_reads_0 rfl 0 rfl ?_
  refine fg_R_disk B hts hown hK d_R_reads_1 ?_
  refine jv_iload_n B d_R_reads_4 rfl 1 rfl ?_
  refine jv_civ (As := [.int v1]) B hml hown hts hK hA (c_D_readsOf (ad := ad) (cI := cI) (cA := cA) (cL := cL) (F := F) h) (cwV 1 hts g_R_152 rfl rfl rfl hd_D_readsOf ⟨Nat.le_of_ble_eq_true rfl, Nat.le_of_ble_eq_true rfl⟩) 1 1 rfl rfl rfl rfl (Nat.le_of_ble_eq_true rfl) d_R_reads_5 ⟨Nat.le_of_ble_eq_true rfl, Nat.le_of_ble_eq_true rfl⟩ rfl (fun r2 σ1 h => ?_)
  exact jv_iret B hr rfl hlk hK _ rfl h d_R_reads_8
theorem c_R_reads {l : Launch} {D : va_G} {A : Nat → Prop} {ad : Nat → Nat} {cI cA cL : ClassId} {F : va_W} {σ : jS} {v1 : Int32} {post : Int32 → jS → Prop} (h : p_R_reads σ v1 post) : Met l y_R_reads (Cond.code y_R_reads b_R_reads 2 (some .int) :: wb) (rmk 3 0 0) (jv_Pre D jClasses (jTy cI cA cL) A (cw ad cI cA σ F) [.ref (ad 0), .int v1]) (va_Qi post (jv_End D jClasses (jTy cI cA cL) A (fun σ => cw ad cI cA σ F)) A) 0 0 A :=
  jv_ofB (by decide) (Nat.le_of_ble_eq_true rfl) (fun p e s m below meth c X => w_R_reads_0 X h)
set_option maxRecDepth 100000 in
theorem w_R_made_0 (X : jv_C p s m args meth c b_R_made 2 (some .int) y_R_made wb D jClasses (jTy cI cA cL) A) {post : Int32 → jS → Prop} {σ : jS} {v1 : Int32} (h : p_R_made σ v1 post) : jv_V p l e (rmk 2 0 0) s m args below meth c D jClasses A 2 0 0 (MQ below (va_Qi post (jv_End D jClasses (jTy cI cA cL) A (fun σ => cw ad cI cA σ F)) A) args s 0 0 A) (cw ad cI cA σ F) [(0, .ref (ad 0)), (1, .int v1)] 0 [] := by
  obtain ⟨B, hml, hown, hts, hK, hA, hr, hlk, hnm⟩ := id X
  unfold p_R_made at h
  refine jv_aload_n B d_R_made_0 rfl 0 rfl ?_
  refine fg_R_disk B hts hown hK d_R_made_1 ?_
  refine jv_iload_n B d_R_made_4 rfl 1 rfl ?_
  refine jv_civ (As := [.int v1]) B hml hown hts hK hA (c_D_stretchesRead (ad := ad) (cI := cI) (cA := cA) (cL := cL) (F := F) h) (cwV 1 hts g_R_155 rfl rfl rfl hd_D_stretchesRead ⟨Nat.le_of_ble_eq_true rfl, Nat.le_of_ble_eq_true rfl⟩) 1 1 rfl rfl rfl rfl (Nat.le_of_ble_eq_true rfl) d_R_made_5 ⟨Nat.le_of_ble_eq_true rfl, Nat.le_of_ble_eq_true rfl⟩ rfl (fun r2 σ1 h => ?_)
  exact jv_iret B hr rfl hlk hK _ rfl h d_R_made_8
theorem c_R_made {l : Launch} {D : va_G} {A : Nat → Prop} {ad : Nat → Nat} {cI cA cL : ClassId} {F : va_W} {σ : jS} {v1 : Int32} {post : Int32 → jS → Prop} (h : p_R_made σ v1 post) : Met l y_R_made (Cond.code y_R_made b_R_made 2 (some .int) :: wb) (rmk 2 0 0) (jv_Pre D jClasses (jTy cI cA cL) A (cw ad cI cA σ F) [.ref (ad 0), .int v1]) (va_Qi post (jv_End D jClasses (jTy cI cA cL) A (fun σ => cw ad cI cA σ F)) A) 0 0 A :=
  jv_ofB (by decide) (Nat.le_of_ble_eq_true rfl) (fun p e s m below meth c X => w_R_made_0 X h)
set_option maxRecDepth 100000 in
theorem w_R_image_0 (X : jv_C p s m args meth c b_R_image 3 (some .int) y_R_image wb D jClasses (jTy cI cA cL) A) {post : Int32 → jS → Prop} {σ : jS} {v1 v2 : Int32} (h : p_R_image σ v1 v2 post) : jv_V p l e (rmk 3 0 0) s m args below meth c D jClasses A 3 0 0 (MQ below (va_Qi post (jv_End D jClasses (jTy cI cA cL) A (fun σ => cw ad cI cA σ F)) A) args s 0 0 A) (cw ad cI cA σ F) [(0, .ref (ad 0)), (1, .int v1), (2, .int v2)] 0 [] := by
  obtain ⟨B, hml, hown, hts, hK, hA, hr, hlk, hnm⟩ := id X
  unfold p_R_image at h
  refine jv_aload_n B d_R_image_0 rfl 0 rfl ?_
  refine fg_R_saves B hts hown hK d_R_image_1 ?_
  refine jv_iload_n B d_R_image_4 rfl 1 rfl ?_
  refine jv_iload_n B d_R_image_5 rfl 2 rfl ?_
  refine jv_civ (As := [.int v1, .int v2]) B hml hown hts hK hA (c_V_byteAt (ad := ad) (cI := cI) (cA := cA) (cL := cL) (F := F) h) (cwV 2 hts g_R_159 rfl rfl rfl hd_V_byteAt ⟨Nat.le_of_ble_eq_true rfl, Nat.le_of_ble_eq_true rfl⟩) 9 2 rfl rfl rfl rfl (Nat.le_of_ble_eq_true rfl) d_R_image_6 ⟨Nat.le_of_ble_eq_true rfl, Nat.le_of_ble_eq_true rfl⟩ rfl (fun r2 σ1 h => ?_)
  exact jv_iret B hr rfl hlk hK _ rfl h d_R_image_9
theorem c_R_image {l : Launch} {D : va_G} {A : Nat → Prop} {ad : Nat → Nat} {cI cA cL : ClassId} {F : va_W} {σ : jS} {v1 v2 : Int32} {post : Int32 → jS → Prop} (h : p_R_image σ v1 v2 post) : Met l y_R_image (Cond.code y_R_image b_R_image 3 (some .int) :: wb) (rmk 3 0 0) (jv_Pre D jClasses (jTy cI cA cL) A (cw ad cI cA σ F) [.ref (ad 0), .int v1, .int v2]) (va_Qi post (jv_End D jClasses (jTy cI cA cL) A (fun σ => cw ad cI cA σ F)) A) 0 0 A :=
  jv_ofB (by decide) (Nat.le_of_ble_eq_true rfl) (fun p e s m below meth c X => w_R_image_0 X h)
end JM

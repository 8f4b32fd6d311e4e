section JM
variable {p : Program} {l : Launch} {e : Env} {s : State} {m : MethodId} {args : Array Value} {below : List Frame} {meth : Method} {c : Code} {D : va_G} {A : Nat → Prop} {ad : Nat → Nat} {cI cA cL : ClassId} {F : va_W}
set_option maxRecDepth 100000 in
theorem w_R_source_11 (X : jv_CX p l s m args meth c b_R_source 2 none y_R_source wb D jClasses (jTy cI cA cL) A) {post : jS → Prop} {px : Nat → jS → Prop} {v1 : Int32} {σ : jS} (h : p_R_source_11 post px v1 σ) : jv_V p l e (rmk 7 1 6) s m args below meth c D jClasses A 2 0 0 (vx_MQ below (va_Qv post (jv_End D jClasses (jTy cI cA cL) A (fun σ => cw ad cI cA σ F)) A) (jv_XC D jClasses (jTy cI cA cL) A (fun σ => cw ad cI cA σ F) px) args s 1 6 A) (cw ad cI cA σ F) [] 11 [] := by
  obtain ⟨⟨B, hml, hown, hts, hK, hA, hr, hlk, hnm⟩, hJ, hex, hl⟩ := id X
  unfold p_R_source_11 at h
  exact jv_throw (code := 1) (text := "a source has 1 to 64 sectors") (names := jSup) B hml hown hts hK hA hJ hex hl hlk rfl (by decide +kernel) (by decide +kernel) kclI kniI (by decide) katI kbtI (vx_c (va_Nw.use rfl hJ.2.2.2.1) hJ.dec) kgtI (Nat.lt_of_lt_of_le (show jSup.length + 3 < 6 by decide) (Nat.le_of_ble_eq_true rfl)) (Nat.le_of_ble_eq_true rfl) (Nat.le_of_ble_eq_true rfl) (Nat.le_of_ble_eq_true rfl) rfl h d_R_source_11 d_R_source_14 d_R_source_15 d_R_source_17 d_R_source_20
set_option maxRecDepth 100000 in
theorem w_R_source_0 (X : jv_CX p l s m args meth c b_R_source 2 none y_R_source wb D jClasses (jTy cI cA cL) A) {post : jS → Prop} {px : Nat → jS → Prop} {σ : jS} {v1 : Int32} (h : p_R_source σ v1 post px) : jv_V p l e (rmk 7 1 6) s m args below meth c D jClasses A 2 0 0 (vx_MQ below (va_Qv post (jv_End D jClasses (jTy cI cA cL) A (fun σ => cw ad cI cA σ F)) A) (jv_XC D jClasses (jTy cI cA cL) A (fun σ => cw ad cI cA σ F) px) args s 1 6 A) (cw ad cI cA σ F) [(0, .ref (ad 0)), (1, .int v1)] 0 [] := by
  obtain ⟨⟨B, hml, hown, hts, hK, hA, hr, hlk, hnm⟩, hJ, hex, hl⟩ := id X
  unfold p_R_source at h
  refine jv_iload_n B d_R_source_0 rfl 1 rfl ?_
  refine jv_iconst (v := 1) B d_R_source_1 (by decide) ?_
  refine jv_icmp_lt (tgt := 11) B d_R_source_2 (by decide) (fun hc => ?_) (fun hc => ?_)
  · replace h := h.1 hc
    refine jv_sub [] rfl ?_
    exact w_R_source_11 X h
  · replace h := h.2 hc
    refine jv_iload_n B d_R_source_5 rfl 1 rfl ?_
    refine jv_bipush (v := 64) B d_R_source_6 (by decide) ?_
    refine jv_icmp_le (tgt := 21) B d_R_source_8 (by decide) (fun hc => ?_) (fun hc => ?_)
    · replace h := h.1 hc
      refine jv_aload_n B d_R_source_21 rfl 0 rfl ?_
      refine fg_R_disk B hts hown hK d_R_source_22 ?_
      refine jv_iload_n B d_R_source_25 rfl 1 rfl ?_
      refine jv_cvv (As := [.int v1]) B hml hown hts hK hA (c_D_lay (ad := ad) (cI := cI) (cA := cA) (cL := cL) (F := F) h) (cwV 1 hts g_R_46 rfl rfl rfl hd_D_lay ⟨Nat.le_of_ble_eq_true rfl, Nat.le_of_ble_eq_true rfl⟩) 1 1 rfl rfl rfl rfl (Nat.le_of_ble_eq_true rfl) d_R_source_26 ⟨Nat.le_of_ble_eq_true rfl, Nat.le_of_ble_eq_true rfl⟩ rfl (fun σ1 h => ?_)
      refine jv_aload_n B d_R_source_29 rfl 0 rfl ?_
      refine fg_R_saves B hts hown hK d_R_source_30 ?_
      refine jv_cvv (As := []) B hml hown hts hK hA (c_V_wipe (ad := ad) (cI := cI) (cA := cA) (cL := cL) (F := F) h) (cwV 0 hts g_R_50 rfl rfl rfl hd_V_wipe ⟨Nat.le_of_ble_eq_true rfl, Nat.le_of_ble_eq_true rfl⟩) 9 2 rfl rfl rfl rfl (Nat.le_of_ble_eq_true rfl) d_R_source_33 ⟨Nat.le_of_ble_eq_true rfl, Nat.le_of_ble_eq_true rfl⟩ rfl (fun σ2 h => ?_)
      refine jv_aload_n B d_R_source_36 rfl 0 rfl ?_
      refine fg_R_copier B hts hown hK d_R_source_37 ?_
      refine jv_cvv (As := []) B hml hown hts hK hA (c_K_forget (ad := ad) (cI := cI) (cA := cA) (cL := cL) (F := F) h) (cwV 0 hts g_R_53 rfl rfl rfl hd_K_forget ⟨Nat.le_of_ble_eq_true rfl, Nat.le_of_ble_eq_true rfl⟩) 8 0 rfl rfl rfl rfl (Nat.le_of_ble_eq_true rfl) d_R_source_40 ⟨Nat.le_of_ble_eq_true rfl, Nat.le_of_ble_eq_true rfl⟩ rfl (fun σ3 h => ?_)
      exact jv_widen (Nat.zero_le _) (Nat.zero_le _) (jv_retX (jv_vret B hr hlk hK _ rfl h d_R_source_43))
    · replace h := h.2 hc
      refine jv_sub [] rfl ?_
      exact w_R_source_11 X h
theorem c_R_source {l : Launch} (hl : l.stackTraces = false) {D : va_G} {A : Nat → Prop} {ad : Nat → Nat} {cI cA cL : ClassId} {F : va_W} {σ : jS} {v1 : Int32} {post : jS → Prop} {px : Nat → jS → Prop} (h : p_R_source σ v1 post px) : vx_Met l y_R_source (Cond.code y_R_source b_R_source 2 none :: wb) (rmk 7 1 6) (jv_PreX D jClasses (jTy cI cA cL) A (cw ad cI cA σ F) [.ref (ad 0), .int v1]) (va_Qv post (jv_End D jClasses (jTy cI cA cL) A (fun σ => cw ad cI cA σ F)) A) (jv_XC D jClasses (jTy cI cA cL) A (fun σ => cw ad cI cA σ F) px) 1 6 A :=
  jv_ofX hl (by decide) (Nat.le_of_ble_eq_true rfl) (fun p e s m below meth c X => w_R_source_0 X h)
set_option maxRecDepth 100000 in
theorem w_R_sector_32 (X : jv_CX p l s m args meth c b_R_sector 4 none y_R_sector wb D jClasses (jTy cI cA cL) A) {post : jS → Prop} {px : Nat → jS → Prop} {v1 v2 v3 : Int32} {σ : jS} (h : p_R_sector_32 post px v1 v2 v3 σ) : jv_V p l e (rmk 7 1 6) s m args below meth c D jClasses A 4 0 0 (vx_MQ below (va_Qv post (jv_End D jClasses (jTy cI cA cL) A (fun σ => cw ad cI cA σ F)) A) (jv_XC D jClasses (jTy cI cA cL) A (fun σ => cw ad cI cA σ F) px) args s 1 6 A) (cw ad cI cA σ F) [] 32 [] := by
  obtain ⟨⟨B, hml, hown, hts, hK, hA, hr, hlk, hnm⟩, hJ, hex, hl⟩ := id X
  unfold p_R_sector_32 at h
  exact jv_throw (code := 1) (text := "failures are -1 to 9") (names := jSup) B hml hown hts hK hA hJ hex hl hlk rfl (by decide +kernel) (by decide +kernel) kclI kniI (by decide) katI kbtI (vx_c (va_Nw.use rfl hJ.2.2.2.1) hJ.dec) kgtI (Nat.lt_of_lt_of_le (show jSup.length + 3 < 6 by decide) (Nat.le_of_ble_eq_true rfl)) (Nat.le_of_ble_eq_true rfl) (Nat.le_of_ble_eq_true rfl) (Nat.le_of_ble_eq_true rfl) rfl h d_R_sector_32 d_R_sector_35 d_R_sector_36 d_R_sector_38 d_R_sector_41
set_option maxRecDepth 100000 in
theorem w_R_sector_0 (X : jv_CX p l s m args meth c b_R_sector 4 none y_R_sector wb D jClasses (jTy cI cA cL) A) {post : jS → Prop} {px : Nat → jS → Prop} {σ : jS} {v1 v2 v3 : Int32} (h : p_R_sector σ v1 v2 v3 post px) : jv_V p l e (rmk 7 1 6) s m args below meth c D jClasses A 4 0 0 (vx_MQ below (va_Qv post (jv_End D jClasses (jTy cI cA cL) A (fun σ => cw ad cI cA σ F)) A) (jv_XC D jClasses (jTy cI cA cL) A (fun σ => cw ad cI cA σ F) px) args s 1 6 A) (cw ad cI cA σ F) [(0, .ref (ad 0)), (1, .int v1), (2, .int v2), (3, .int v3)] 0 [] := by
  obtain ⟨⟨B, hml, hown, hts, hK, hA, hr, hlk, hnm⟩, hJ, hex, hl⟩ := id X
  unfold p_R_sector at h
  refine jv_aload_n B d_R_sector_0 rfl 0 rfl ?_
  refine fg_R_disk B hts hown hK d_R_sector_1 ?_
  refine jv_iload_n B d_R_sector_4 rfl 1 rfl ?_
  refine jv_civ (As := [.int v1]) B hml hown hts hK hA (c_D_has (ad := ad) (cI := cI) (cA := cA) (cL := cL) (F := F) h) (cwV 1 hts g_R_56 rfl rfl rfl hd_D_has ⟨Nat.le_of_ble_eq_true rfl, Nat.le_of_ble_eq_true rfl⟩) 1 1 rfl rfl rfl rfl (Nat.le_of_ble_eq_true rfl) d_R_sector_5 ⟨Nat.le_of_ble_eq_true rfl, Nat.le_of_ble_eq_true rfl⟩ rfl (fun r2 σ1 h => ?_)
  refine jv_if_ne (tgt := 21) B d_R_sector_8 (by decide) (fun hc => ?_) (fun hc => ?_)
  · replace h := h.1 hc
    refine jv_iload_n B d_R_sector_21 rfl 3 rfl ?_
    refine jv_iconst (v := (-1)) B d_R_sector_22 (by decide) ?_
    refine jv_icmp_lt (tgt := 32) B d_R_sector_23 (by decide) (fun hc => ?_) (fun hc => ?_)
    · replace h := h.1 hc
      refine jv_sub [] rfl ?_
      exact w_R_sector_32 X h
    · replace h := h.2 hc
      refine jv_iload_n B d_R_sector_26 rfl 3 rfl ?_
      refine jv_bipush (v := 9) B d_R_sector_27 (by decide) ?_
      refine jv_icmp_le (tgt := 42) B d_R_sector_29 (by decide) (fun hc => ?_) (fun hc => ?_)
      · replace h := h.1 hc
        refine jv_aload_n B d_R_sector_42 rfl 0 rfl ?_
        refine fg_R_disk B hts hown hK d_R_sector_43 ?_
        refine jv_iload_n B d_R_sector_46 rfl 1 rfl ?_
        refine jv_iload_n B d_R_sector_47 rfl 2 rfl ?_
        refine jv_iload_n B d_R_sector_48 rfl 3 rfl ?_
        refine jv_cvv (As := [.int v1, .int v2, .int v3]) B hml hown hts hK hA (c_D_put (ad := ad) (cI := cI) (cA := cA) (cL := cL) (F := F) h) (cwV 3 hts g_R_64 rfl rfl rfl hd_D_put ⟨Nat.le_of_ble_eq_true rfl, Nat.le_of_ble_eq_true rfl⟩) 1 1 rfl rfl rfl rfl (Nat.le_of_ble_eq_true rfl) d_R_sector_49 ⟨Nat.le_of_ble_eq_true rfl, Nat.le_of_ble_eq_true rfl⟩ rfl (fun σ3 h => ?_)
        exact jv_widen (Nat.zero_le _) (Nat.zero_le _) (jv_retX (jv_vret B hr hlk hK _ rfl h d_R_sector_52))
      · replace h := h.2 hc
        refine jv_sub [] rfl ?_
        exact w_R_sector_32 X h
  · replace h := h.2 hc
    exact jv_throw (code := 1) (text := "no such sector") (names := jSup) B hml hown hts hK hA hJ hex hl hlk rfl (by decide +kernel) (by decide +kernel) kclI kniI (by decide) katI kbtI (vx_c (va_Nw.use rfl hJ.2.2.2.1) hJ.dec) kgtI (Nat.lt_of_lt_of_le (show jSup.length + 3 < 6 by decide) (Nat.le_of_ble_eq_true rfl)) (Nat.le_of_ble_eq_true rfl) (Nat.le_of_ble_eq_true rfl) (Nat.le_of_ble_eq_true rfl) rfl h d_R_sector_11 d_R_sector_14 d_R_sector_15 d_R_sector_17 d_R_sector_20
theorem c_R_sector {l : Launch} (hl : l.stackTraces = false) {D : va_G} {A : Nat → Prop} {ad : Nat → Nat} {cI cA cL : ClassId} {F : va_W} {σ : jS} {v1 v2 v3 : Int32} {post : jS → Prop} {px : Nat → jS → Prop} (h : p_R_sector σ v1 v2 v3 post px) : vx_Met l y_R_sector (Cond.code y_R_sector b_R_sector 4 none :: wb) (rmk 7 1 6) (jv_PreX D jClasses (jTy cI cA cL) A (cw ad cI cA σ F) [.ref (ad 0), .int v1, .int v2, .int v3]) (va_Qv post (jv_End D jClasses (jTy cI cA cL) A (fun σ => cw ad cI cA σ F)) A) (jv_XC D jClasses (jTy cI cA cL) A (fun σ => cw ad cI cA σ F) px) 1 6 A :=
  jv_ofX hl (by decide) (Nat.le_of_ble_eq_true rfl) (fun p e s m below meth c X => w_R_sector_0 X h)
set_option maxRecDepth 100000 in
theorem w_R_begin_9 (X : jv_CX p l s m args meth c b_R_begin 2 none y_R_begin wb D jClasses (jTy cI cA cL) A) {post : jS → Prop} {px : Nat → jS → Prop} {v1 : Int32} {σ : jS} (h : p_R_begin_9 post px v1 σ) : jv_V p l e (rmk 7 1 6) s m args below meth c D jClasses A 2 0 0 (vx_MQ below (va_Qv post (jv_End D jClasses (jTy cI cA cL) A (fun σ => cw ad cI cA σ F)) A) (jv_XC D jClasses (jTy cI cA cL) A (fun σ => cw ad cI cA σ F) px) args s 1 6 A) (cw ad cI cA σ F) [] 9 [] := by
  obtain ⟨⟨B, hml, hown, hts, hK, hA, hr, hlk, hnm⟩, hJ, hex, hl⟩ := id X
  unfold p_R_begin_9 at h
  exact jv_throw (code := 1) (text := "retries are 0 to 5") (names := jSup) B hml hown hts hK hA hJ hex hl hlk rfl (by decide +kernel) (by decide +kernel) kclI kniI (by decide) katI kbtI (vx_c (va_Nw.use rfl hJ.2.2.2.1) hJ.dec) kgtI (Nat.lt_of_lt_of_le (show jSup.length + 3 < 6 by decide) (Nat.le_of_ble_eq_true rfl)) (Nat.le_of_ble_eq_true rfl) (Nat.le_of_ble_eq_true rfl) (Nat.le_of_ble_eq_true rfl) rfl h d_R_begin_9 d_R_begin_12 d_R_begin_13 d_R_begin_15 d_R_begin_18
set_option maxRecDepth 100000 in
theorem w_R_begin_40 (X : jv_CX p l s m args meth c b_R_begin 2 none y_R_begin wb D jClasses (jTy cI cA cL) A) {post : jS → Prop} {px : Nat → jS → Prop} {v1 : Int32} {σ : jS} (h : p_R_begin_40 post px v1 σ) : jv_V p l e (rmk 7 1 6) s m args below meth c D jClasses A 2 0 0 (vx_MQ below (va_Qv post (jv_End D jClasses (jTy cI cA cL) A (fun σ => cw ad cI cA σ F)) A) (jv_XC D jClasses (jTy cI cA cL) A (fun σ => cw ad cI cA σ F) px) args s 1 6 A) (cw ad cI cA σ F) [] 40 [] := by
  obtain ⟨⟨B, hml, hown, hts, hK, hA, hr, hlk, hnm⟩, hJ, hex, hl⟩ := id X
  unfold p_R_begin_40 at h
  exact jv_throw (code := 2) (text := "no source, or begun already") (names := jSup) B hml hown hts hK hA hJ hex hl hlk rfl (by decide +kernel) (by decide +kernel) kclS kniS (by decide) katS kbtS (vx_c (va_Nw.use rfl hJ.2.2.2.2.1) hJ.dec) kgtS (Nat.lt_of_lt_of_le (show jSup.length + 3 < 6 by decide) (Nat.le_of_ble_eq_true rfl)) (Nat.le_of_ble_eq_true rfl) (Nat.le_of_ble_eq_true rfl) (Nat.le_of_ble_eq_true rfl) rfl h d_R_begin_40 d_R_begin_43 d_R_begin_44 d_R_begin_46 d_R_begin_49
set_option maxRecDepth 100000 in
theorem w_R_begin_0 (X : jv_CX p l s m args meth c b_R_begin 2 none y_R_begin wb D jClasses (jTy cI cA cL) A) {post : jS → Prop} {px : Nat → jS → Prop} {σ : jS} {v1 : Int32} (h : p_R_begin σ v1 post px) : jv_V p l e (rmk 7 1 6) s m args below meth c D jClasses A 2 0 0 (vx_MQ below (va_Qv post (jv_End D jClasses (jTy cI cA cL) A (fun σ => cw ad cI cA σ F)) A) (jv_XC D jClasses (jTy cI cA cL) A (fun σ => cw ad cI cA σ F) px) args s 1 6 A) (cw ad cI cA σ F) [(0, .ref (ad 0)), (1, .int v1)] 0 [] := by
  obtain ⟨⟨B, hml, hown, hts, hK, hA, hr, hlk, hnm⟩, hJ, hex, hl⟩ := id X
  unfold p_R_begin at h
  refine jv_iload_n B d_R_begin_0 rfl 1 rfl ?_
  refine jv_if_lt (tgt := 9) B d_R_begin_1 (by decide) (fun hc => ?_) (fun hc => ?_)
  · replace h := h.1 hc
    refine jv_sub [] rfl ?_
    exact w_R_begin_9 X h
  · replace h := h.2 hc
    refine jv_iload_n B d_R_begin_4 rfl 1 rfl ?_
    refine jv_iconst (v := 5) B d_R_begin_5 (by decide) ?_
    refine jv_icmp_le (tgt := 19) B d_R_begin_6 (by decide) (fun hc => ?_) (fun hc => ?_)
    · replace h := h.1 hc
      refine jv_aload_n B d_R_begin_19 rfl 0 rfl ?_
      refine fg_R_disk B hts hown hK d_R_begin_20 ?_
      refine jv_civ (As := []) B hml hown hts hK hA (c_D_size (ad := ad) (cI := cI) (cA := cA) (cL := cL) (F := F) h) (cwV 0 hts g_R_70 rfl rfl rfl hd_D_size ⟨Nat.le_of_ble_eq_true rfl, Nat.le_of_ble_eq_true rfl⟩) 1 1 rfl rfl rfl rfl (Nat.le_of_ble_eq_true rfl) d_R_begin_23 ⟨Nat.le_of_ble_eq_true rfl, Nat.le_of_ble_eq_true rfl⟩ rfl (fun r2 σ1 h => ?_)
      refine jv_if_eq (tgt := 40) B d_R_begin_26 (by decide) (fun hc => ?_) (fun hc => ?_)
      · replace h := h.1 hc
        refine jv_sub [] rfl ?_
        exact w_R_begin_40 X h
      · replace h := h.2 hc
        refine jv_aload_n B d_R_begin_29 rfl 0 rfl ?_
        refine fg_R_copier B hts hown hK d_R_begin_30 ?_
        refine jv_civ (As := []) B hml hown hts hK hA (c_K_currentPhase (ad := ad) (cI := cI) (cA := cA) (cL := cL) (F := F) h) (cwV 0 hts g_R_74 rfl rfl rfl hd_K_currentPhase ⟨Nat.le_of_ble_eq_true rfl, Nat.le_of_ble_eq_true rfl⟩) 8 0 rfl rfl rfl rfl (Nat.le_of_ble_eq_true rfl) d_R_begin_33 ⟨Nat.le_of_ble_eq_true rfl, Nat.le_of_ble_eq_true rfl⟩ rfl (fun r4 σ3 h => ?_)
        refine jv_iconst (v := (-1)) B d_R_begin_36 (by decide) ?_
        refine jv_icmp_eq (tgt := 50) B d_R_begin_37 (by decide) (fun hc => ?_) (fun hc => ?_)
        · replace h := h.1 hc
          refine jv_aload_n B d_R_begin_50 rfl 0 rfl ?_
          refine fg_R_map B hts hown hK d_R_begin_51 ?_
          refine jv_aload_n B d_R_begin_54 rfl 0 rfl ?_
          refine fg_R_disk B hts hown hK d_R_begin_55 ?_
          refine jv_civ (As := []) B hml hown hts hK hA (c_D_size (ad := ad) (cI := cI) (cA := cA) (cL := cL) (F := F) h) (cwV 0 hts g_R_70 rfl rfl rfl hd_D_size ⟨Nat.le_of_ble_eq_true rfl, Nat.le_of_ble_eq_true rfl⟩) 1 1 rfl rfl rfl rfl (Nat.le_of_ble_eq_true rfl) d_R_begin_58 ⟨Nat.le_of_ble_eq_true rfl, Nat.le_of_ble_eq_true rfl⟩ rfl (fun r6 σ5 h => ?_)
          refine jv_cvv (As := [.int r6]) B hml hown hts hK hA (c_S_clear (ad := ad) (cI := cI) (cA := cA) (cL := cL) (F := F) h) (cwV 1 hts g_R_82 rfl rfl rfl hd_S_clear ⟨Nat.le_of_ble_eq_true rfl, Nat.le_of_ble_eq_true rfl⟩) 6 3 rfl rfl rfl rfl (Nat.le_of_ble_eq_true rfl) d_R_begin_61 ⟨Nat.le_of_ble_eq_true rfl, Nat.le_of_ble_eq_true rfl⟩ rfl (fun σ7 h => ?_)
          refine jv_aload_n B d_R_begin_64 rfl 0 rfl ?_
          refine fg_R_copier B hts hown hK d_R_begin_65 ?_
          refine jv_iload_n B d_R_begin_68 rfl 1 rfl ?_
          refine jv_cvv (As := [.int v1]) B hml hown hts hK hA (c_K_start (ad := ad) (cI := cI) (cA := cA) (cL := cL) (F := F) h) (cwV 1 hts g_R_85 rfl rfl rfl hd_K_start ⟨Nat.le_of_ble_eq_true rfl, Nat.le_of_ble_eq_true rfl⟩) 8 0 rfl rfl rfl rfl (Nat.le_of_ble_eq_true rfl) d_R_begin_69 ⟨Nat.le_of_ble_eq_true rfl, Nat.le_of_ble_eq_true rfl⟩ rfl (fun σ8 h => ?_)
          exact jv_widen (Nat.zero_le _) (Nat.zero_le _) (jv_retX (jv_vret B hr hlk hK _ rfl h d_R_begin_72))
        · replace h := h.2 hc
          refine jv_sub [] rfl ?_
          exact w_R_begin_40 X h
    · replace h := h.2 hc
      refine jv_sub [] rfl ?_
      exact w_R_begin_9 X h
theorem c_R_begin {l : Launch} (hl : l.stackTraces = false) {D : va_G} {A : Nat → Prop} {ad : Nat → Nat} {cI cA cL : ClassId} {F : va_W} {σ : jS} {v1 : Int32} {post : jS → Prop} {px : Nat → jS → Prop} (h : p_R_begin σ v1 post px) : vx_Met l y_R_begin (Cond.code y_R_begin b_R_begin 2 none :: wb) (rmk 7 1 6) (jv_PreX D jClasses (jTy cI cA cL) A (cw ad cI cA σ F) [.ref (ad 0), .int v1]) (va_Qv post (jv_End D jClasses (jTy cI cA cL) A (fun σ => cw ad cI cA σ F)) A) (jv_XC D jClasses (jTy cI cA cL) A (fun σ => cw ad cI cA σ F) px) 1 6 A :=
  jv_ofX hl (by decide) (Nat.le_of_ble_eq_true rfl) (fun p e s m below meth c X => w_R_begin_0 X h)
set_option maxRecDepth 100000 in
theorem w_R_step_0 (X : jv_CX p l s m args meth c b_R_step 1 (some .int) y_R_step wb D jClasses (jTy cI cA cL) A) {post : Int32 → jS → Prop} {px : Nat → jS → Prop} {σ : jS} (h : p_R_step σ post px) : jv_V p l e (rmk 7 1 6) s m args below meth c D jClasses A 1 0 0 (vx_MQ below (va_Qi post (jv_End D jClasses (jTy cI cA cL) A (fun σ => cw ad cI cA σ F)) A) (jv_XC D jClasses (jTy cI cA cL) A (fun σ => cw ad cI cA σ F) px) args s 1 6 A) (cw ad cI cA σ F) [(0, .ref (ad 0))] 0 [] := by
  obtain ⟨⟨B, hml, hown, hts, hK, hA, hr, hlk, hnm⟩, hJ, hex, hl⟩ := id X
  unfold p_R_step at h
  refine jv_aload_n B d_R_step_0 rfl 0 rfl ?_
  refine fg_R_copier B hts hown hK d_R_step_1 ?_
  refine jv_civ (As := []) B hml hown hts hK hA (c_K_goesOn (ad := ad) (cI := cI) (cA := cA) (cL := cL) (F := F) h) (cwV 0 hts g_R_88 rfl rfl rfl hd_K_goesOn ⟨Nat.le_of_ble_eq_true rfl, Nat.le_of_ble_eq_true rfl⟩) 8 0 rfl rfl rfl rfl (Nat.le_of_ble_eq_true rfl) d_R_step_4 ⟨Nat.le_of_ble_eq_true rfl, Nat.le_of_ble_eq_true rfl⟩ rfl (fun r2 σ1 h => ?_)
  refine jv_if_ne (tgt := 20) B d_R_step_7 (by decide) (fun hc => ?_) (fun hc => ?_)
  · replace h := h.1 hc
    refine jv_aload_n B d_R_step_20 rfl 0 rfl ?_
    refine fg_R_copier B hts hown hK d_R_step_21 ?_
    refine jv_civ (As := []) B hml hown hts hK hA (c_K_makeStep (ad := ad) (cI := cI) (cA := cA) (cL := cL) (F := F) h) (cwV 0 hts g_R_94 rfl rfl rfl hd_K_makeStep ⟨Nat.le_of_ble_eq_true rfl, Nat.le_of_ble_eq_true rfl⟩) 8 0 rfl rfl rfl rfl (Nat.le_of_ble_eq_true rfl) d_R_step_24 ⟨Nat.le_of_ble_eq_true rfl, Nat.le_of_ble_eq_true rfl⟩ rfl (fun r4 σ3 h => ?_)
    exact jv_widen (Nat.zero_le _) (Nat.zero_le _) (jv_retX (jv_iret B hr rfl hlk hK _ rfl h d_R_step_27))
  · replace h := h.2 hc
    exact jv_throw (code := 2) (text := "copying is not going on") (names := jSup) B hml hown hts hK hA hJ hex hl hlk rfl (by decide +kernel) (by decide +kernel) kclS kniS (by decide) katS kbtS (vx_c (va_Nw.use rfl hJ.2.2.2.2.1) hJ.dec) kgtS (Nat.lt_of_lt_of_le (show jSup.length + 3 < 6 by decide) (Nat.le_of_ble_eq_true rfl)) (Nat.le_of_ble_eq_true rfl) (Nat.le_of_ble_eq_true rfl) (Nat.le_of_ble_eq_true rfl) rfl h d_R_step_10 d_R_step_13 d_R_step_14 d_R_step_16 d_R_step_19
theorem c_R_step {l : Launch} (hl : l.stackTraces = false) {D : va_G} {A : Nat → Prop} {ad : Nat → Nat} {cI cA cL : ClassId} {F : va_W} {σ : jS} {post : Int32 → jS → Prop} {px : Nat → jS → Prop} (h : p_R_step σ post px) : vx_Met l y_R_step (Cond.code y_R_step b_R_step 1 (some .int) :: wb) (rmk 7 1 6) (jv_PreX D jClasses (jTy cI cA cL) A (cw ad cI cA σ F) [.ref (ad 0)]) (va_Qi post (jv_End D jClasses (jTy cI cA cL) A (fun σ => cw ad cI cA σ F)) A) (jv_XC D jClasses (jTy cI cA cL) A (fun σ => cw ad cI cA σ F) px) 1 6 A :=
  jv_ofX hl (by decide) (Nat.le_of_ble_eq_true rfl) (fun p e s m below meth c X => w_R_step_0 X h)
set_option maxRecDepth 100000 in
theorem w_R_run_11 (X : jv_CX p l s m args meth c b_R_run 3 (some .int) y_R_run wb D jClasses (jTy cI cA cL) A) {post : Int32 → jS → Prop} {px : Nat → jS → Prop} {v1 : Int32} {σ : jS} (h : p_R_run_11 post px v1 σ) : jv_V p l e (rmk 7 1 6) s m args below meth c D jClasses A 3 0 0 (vx_MQ below (va_Qi post (jv_End D jClasses (jTy cI cA cL) A (fun σ => cw ad cI cA σ F)) A) (jv_XC D jClasses (jTy cI cA cL) A (fun σ => cw ad cI cA σ F) px) args s 1 6 A) (cw ad cI cA σ F) [] 11 [] := by
  obtain ⟨⟨B, hml, hown, hts, hK, hA, hr, hlk, hnm⟩, hJ, hex, hl⟩ := id X
  unfold p_R_run_11 at h
  exact jv_throw (code := 1) (text := "steps are 0 to 300") (names := jSup) B hml hown hts hK hA hJ hex hl hlk rfl (by decide +kernel) (by decide +kernel) kclI kniI (by decide) katI kbtI (vx_c (va_Nw.use rfl hJ.2.2.2.1) hJ.dec) kgtI (Nat.lt_of_lt_of_le (show jSup.length + 3 < 6 by decide) (Nat.le_of_ble_eq_true rfl)) (Nat.le_of_ble_eq_true rfl) (Nat.le_of_ble_eq_true rfl) (Nat.le_of_ble_eq_true rfl) rfl h d_R_run_11 d_R_run_14 d_R_run_15 d_R_run_17 d_R_run_20
set_option maxRecDepth 100000 in
theorem w_R_run_43 (X : jv_CX p l s m args meth c b_R_run 3 (some .int) y_R_run wb D jClasses (jTy cI cA cL) A) {post : Int32 → jS → Prop} {px : Nat → jS → Prop} {v1 : Int32} : ∀ (n : Nat), ∀ (σ : jS) (v2 : Int32), p_R_run_43 post px v1 n σ v2 → jv_V p l e (rmk 7 1 6) s m args below meth c D jClasses A 3 0 0 (vx_MQ below (va_Qi post (jv_End D jClasses (jTy cI cA cL) A (fun σ => cw ad cI cA σ F)) A) (jv_XC D jClasses (jTy cI cA cL) A (fun σ => cw ad cI cA σ F) px) args s 1 6 A) (cw ad cI cA σ F) [(0, .ref (ad 0)), (1, .int v1), (2, .int v2)] 43 [] := by
  obtain ⟨⟨B, hml, hown, hts, hK, hA, hr, hlk, hnm⟩, hJ, hex, hl⟩ := id X
  intro n
  induction n with
  | zero => intro σ v2 h; exact h.elim
  | succ n ih =>
    intro σ v2 h
    rw [p_R_run_43] at h
    refine jv_iload_n B d_R_run_43 rfl 2 rfl ?_
    refine jv_iload_n B d_R_run_44 rfl 1 rfl ?_
    refine jv_icmp_ge (tgt := 66) B d_R_run_45 (by decide) (fun hc => ?_) (fun hc => ?_)
    · replace h := h.1 hc
      refine jv_iload_n B d_R_run_66 rfl 2 rfl ?_
      exact jv_widen (Nat.zero_le _) (Nat.zero_le _) (jv_retX (jv_iret B hr rfl hlk hK _ rfl h d_R_run_67))
    · replace h := h.2 hc
      refine jv_aload_n B d_R_run_48 rfl 0 rfl ?_
      refine fg_R_copier B hts hown hK d_R_run_49 ?_
      refine jv_civ (As := []) B hml hown hts hK hA (c_K_makeStep (ad := ad) (cI := cI) (cA := cA) (cL := cL) (F := F) h) (cwV 0 hts g_R_94 rfl rfl rfl hd_K_makeStep ⟨Nat.le_of_ble_eq_true rfl, Nat.le_of_ble_eq_true rfl⟩) 8 0 rfl rfl rfl rfl (Nat.le_of_ble_eq_true rfl) d_R_run_52 ⟨Nat.le_of_ble_eq_true rfl, Nat.le_of_ble_eq_true rfl⟩ rfl (fun r4 σ3 h => ?_)
      refine jv_bipush (v := 6) B d_R_run_55 (by decide) ?_
      refine jv_icmp_eq (tgt := 66) B d_R_run_57 (by decide) (fun hc => ?_) (fun hc => ?_)
      · replace h := h.1 hc
        refine jv_iload_n B d_R_run_66 rfl 2 rfl ?_
        exact jv_widen (Nat.zero_le _) (Nat.zero_le _) (jv_retX (jv_iret B hr rfl hlk hK _ rfl h d_R_run_67))
      · replace h := h.2 hc
        refine jv_iinc (n9 := 2) (v := v2 + 1) (lv' := [(2, .int (v2 + 1)), (0, .ref (ad 0)), (1, .int v1)]) B d_R_run_60 rfl rfl (by decide) rfl ?_
        refine jv_goto (tgt := 43) B d_R_run_63 (by decide) ?_
        refine jv_sub [1, 2, 0] rfl ?_
        exact ih _ _ h
set_option maxRecDepth 100000 in
theorem w_R_run_0 (X : jv_CX p l s m args meth c b_R_run 3 (some .int) y_R_run wb D jClasses (jTy cI cA cL) A) {post : Int32 → jS → Prop} {px : Nat → jS → Prop} {σ : jS} {v1 : Int32} (h : p_R_run σ v1 post px) : jv_V p l e (rmk 7 1 6) s m args below meth c D jClasses A 3 0 0 (vx_MQ below (va_Qi post (jv_End D jClasses (jTy cI cA cL) A (fun σ => cw ad cI cA σ F)) A) (jv_XC D jClasses (jTy cI cA cL) A (fun σ => cw ad cI cA σ F) px) args s 1 6 A) (cw ad cI cA σ F) [(0, .ref (ad 0)), (1, .int v1)] 0 [] := by
  obtain ⟨⟨B, hml, hown, hts, hK, hA, hr, hlk, hnm⟩, hJ, hex, hl⟩ := id X
  unfold p_R_run at h
  refine jv_iload_n B d_R_run_0 rfl 1 rfl ?_
  refine jv_if_lt (tgt := 11) B d_R_run_1 (by decide) (fun hc => ?_) (fun hc => ?_)
  · replace h := h.1 hc
    refine jv_sub [] rfl ?_
    exact w_R_run_11 X h
  · replace h := h.2 hc
    refine jv_iload_n B d_R_run_4 rfl 1 rfl ?_
    refine jv_sipush (v := 300) B d_R_run_5 (by decide) ?_
    refine jv_icmp_le (tgt := 21) B d_R_run_8 (by decide) (fun hc => ?_) (fun hc => ?_)
    · replace h := h.1 hc
      refine jv_aload_n B d_R_run_21 rfl 0 rfl ?_
      refine fg_R_copier B hts hown hK d_R_run_22 ?_
      refine jv_civ (As := []) B hml hown hts hK hA (c_K_goesOn (ad := ad) (cI := cI) (cA := cA) (cL := cL) (F := F) h) (cwV 0 hts g_R_88 rfl rfl rfl hd_K_goesOn ⟨Nat.le_of_ble_eq_true rfl, Nat.le_of_ble_eq_true rfl⟩) 8 0 rfl rfl rfl rfl (Nat.le_of_ble_eq_true rfl) d_R_run_25 ⟨Nat.le_of_ble_eq_true rfl, Nat.le_of_ble_eq_true rfl⟩ rfl (fun r2 σ1 h => ?_)
      refine jv_if_ne (tgt := 41) B d_R_run_28 (by decide) (fun hc => ?_) (fun hc => ?_)
      · replace h := h.1 hc
        refine jv_iconst (v := 0) B d_R_run_41 (by decide) ?_
        refine jv_istore_n (lv' := [(2, .int 0), (0, .ref (ad 0)), (1, .int v1)]) B d_R_run_42 rfl (by decide) rfl ?_
        refine jv_sub [1, 2, 0] rfl ?_
        obtain ⟨n9, h⟩ := h
        exact w_R_run_43 X n9 _ _ h
      · replace h := h.2 hc
        exact jv_throw (code := 2) (text := "copying is not going on") (names := jSup) B hml hown hts hK hA hJ hex hl hlk rfl (by decide +kernel) (by decide +kernel) kclS kniS (by decide) katS kbtS (vx_c (va_Nw.use rfl hJ.2.2.2.2.1) hJ.dec) kgtS (Nat.lt_of_lt_of_le (show jSup.length + 3 < 6 by decide) (Nat.le_of_ble_eq_true rfl)) (Nat.le_of_ble_eq_true rfl) (Nat.le_of_ble_eq_true rfl) (Nat.le_of_ble_eq_true rfl) rfl h d_R_run_31 d_R_run_34 d_R_run_35 d_R_run_37 d_R_run_40
    · replace h := h.2 hc
      refine jv_sub [] rfl ?_
      exact w_R_run_11 X h
theorem c_R_run {l : Launch} (hl : l.stackTraces = false) {D : va_G} {A : Nat → Prop} {ad : Nat → Nat} {cI cA cL : ClassId} {F : va_W} {σ : jS} {v1 : Int32} {post : Int32 → jS → Prop} {px : Nat → jS → Prop} (h : p_R_run σ v1 post px) : vx_Met l y_R_run (Cond.code y_R_run b_R_run 3 (some .int) :: wb) (rmk 7 1 6) (jv_PreX D jClasses (jTy cI cA cL) A (cw ad cI cA σ F) [.ref (ad 0), .int v1]) (va_Qi post (jv_End D jClasses (jTy cI cA cL) A (fun σ => cw ad cI cA σ F)) A) (jv_XC D jClasses (jTy cI cA cL) A (fun σ => cw ad cI cA σ F) px) 1 6 A :=
  jv_ofX hl (by decide) (Nat.le_of_ble_eq_true rfl) (fun p e s m below meth c X => w_R_run_0 X h)
set_option maxRecDepth 100000 in
theorem w_R_save_0 (X : jv_CX p l s m args meth c b_R_save 1 (some .int) y_R_save wb D jClasses (jTy cI cA cL) A) {post : Int32 → jS → Prop} {px : Nat → jS → Prop} {σ : jS} (h : p_R_save σ post px) : jv_V p l e (rmk 7 1 6) s m args below meth c D jClasses A 1 0 0 (vx_MQ below (va_Qi post (jv_End D jClasses (jTy cI cA cL) A (fun σ => cw ad cI cA σ F)) A) (jv_XC D jClasses (jTy cI cA cL) A (fun σ => cw ad cI cA σ F) px) args s 1 6 A) (cw ad cI cA σ F) [(0, .ref (ad 0))] 0 [] := by
  obtain ⟨⟨B, hml, hown, hts, hK, hA, hr, hlk, hnm⟩, hJ, hex, hl⟩ := id X
  unfold p_R_save at h
  refine jv_aload_n B d_R_save_0 rfl 0 rfl ?_
  refine fg_R_copier B hts hown hK d_R_save_1 ?_
  refine jv_civ (As := []) B hml hown hts hK hA (c_K_goesOn (ad := ad) (cI := cI) (cA := cA) (cL := cL) (F := F) h) (cwV 0 hts g_R_88 rfl rfl rfl hd_K_goesOn ⟨Nat.le_of_ble_eq_true rfl, Nat.le_of_ble_eq_true rfl⟩) 8 0 rfl rfl rfl rfl (Nat.le_of_ble_eq_true rfl) d_R_save_4 ⟨Nat.le_of_ble_eq_true rfl, Nat.le_of_ble_eq_true rfl⟩ rfl (fun r2 σ1 h => ?_)
  refine jv_if_ne (tgt := 20) B d_R_save_7 (by decide) (fun hc => ?_) (fun hc => ?_)
  · replace h := h.1 hc
    refine jv_aload_n B d_R_save_20 rfl 0 rfl ?_
    refine fg_R_saves B hts hown hK d_R_save_21 ?_
    refine jv_aload_n B d_R_save_24 rfl 0 rfl ?_
    refine fg_R_map B hts hown hK d_R_save_25 ?_
    refine jv_sipush (v := 140) B d_R_save_28 (by decide) ?_
    refine jv_civ (As := [.ref (ad 6), .int 140]) B hml hown hts hK hA (c_V_write (ad := ad) (cI := cI) (cA := cA) (cL := cL) (F := F) h) (cwV 2 hts g_R_99 rfl rfl rfl hd_V_write ⟨Nat.le_of_ble_eq_true rfl, Nat.le_of_ble_eq_true rfl⟩) 9 2 rfl rfl rfl rfl (Nat.le_of_ble_eq_true rfl) d_R_save_31 ⟨Nat.le_of_ble_eq_true rfl, Nat.le_of_ble_eq_true rfl⟩ rfl (fun r4 σ3 h => ?_)
    exact jv_widen (Nat.zero_le _) (Nat.zero_le _) (jv_retX (jv_iret B hr rfl hlk hK _ rfl h d_R_save_34))
  · replace h := h.2 hc
    exact jv_throw (code := 2) (text := "copying is not going on") (names := jSup) B hml hown hts hK hA hJ hex hl hlk rfl (by decide +kernel) (by decide +kernel) kclS kniS (by decide) katS kbtS (vx_c (va_Nw.use rfl hJ.2.2.2.2.1) hJ.dec) kgtS (Nat.lt_of_lt_of_le (show jSup.length + 3 < 6 by decide) (Nat.le_of_ble_eq_true rfl)) (Nat.le_of_ble_eq_true rfl) (Nat.le_of_ble_eq_true rfl) (Nat.le_of_ble_eq_true rfl) rfl h d_R_save_10 d_R_save_13 d_R_save_14 d_R_save_16 d_R_save_19
theorem c_R_save {l : Launch} (hl : l.stackTraces = false) {D : va_G} {A : Nat → Prop} {ad : Nat → Nat} {cI cA cL : ClassId} {F : va_W} {σ : jS} {post : Int32 → jS → Prop} {px : Nat → jS → Prop} (h : p_R_save σ post px) : vx_Met l y_R_save (Cond.code y_R_save b_R_save 1 (some .int) :: wb) (rmk 7 1 6) (jv_PreX D jClasses (jTy cI cA cL) A (cw ad cI cA σ F) [.ref (ad 0)]) (va_Qi post (jv_End D jClasses (jTy cI cA cL) A (fun σ => cw ad cI cA σ F)) A) (jv_XC D jClasses (jTy cI cA cL) A (fun σ => cw ad cI cA σ F) px) 1 6 A :=
  jv_ofX hl (by decide) (Nat.le_of_ble_eq_true rfl) (fun p e s m below meth c X => w_R_save_0 X h)
set_option maxRecDepth 100000 in
theorem w_R_stop_0 (X : jv_CX p l s m args meth c b_R_stop 2 (some .int) y_R_stop wb D jClasses (jTy cI cA cL) A) {post : Int32 → jS → Prop} {px : Nat → jS → Prop} {σ : jS} {v1 : Int32} (h : p_R_stop σ v1 post px) : jv_V p l e (rmk 7 1 6) s m args below meth c D jClasses A 2 0 0 (vx_MQ below (va_Qi post (jv_End D jClasses (jTy cI cA cL) A (fun σ => cw ad cI cA σ F)) A) (jv_XC D jClasses (jTy cI cA cL) A (fun σ => cw ad cI cA σ F) px) args s 1 6 A) (cw ad cI cA σ F) [(0, .ref (ad 0)), (1, .int v1)] 0 [] := by
  obtain ⟨⟨B, hml, hown, hts, hK, hA, hr, hlk, hnm⟩, hJ, hex, hl⟩ := id X
  unfold p_R_stop at h
  refine jv_iload_n B d_R_stop_0 rfl 1 rfl ?_
  refine jv_if_ge (tgt := 14) B d_R_stop_1 (by decide) (fun hc => ?_) (fun hc => ?_)
  · replace h := h.1 hc
    refine jv_aload_n B d_R_stop_14 rfl 0 rfl ?_
    refine fg_R_copier B hts hown hK d_R_stop_15 ?_
    refine jv_civ (As := []) B hml hown hts hK hA (c_K_goesOn (ad := ad) (cI := cI) (cA := cA) (cL := cL) (F := F) h) (cwV 0 hts g_R_88 rfl rfl rfl hd_K_goesOn ⟨Nat.le_of_ble_eq_true rfl, Nat.le_of_ble_eq_true rfl⟩) 8 0 rfl rfl rfl rfl (Nat.le_of_ble_eq_true rfl) d_R_stop_18 ⟨Nat.le_of_ble_eq_true rfl, Nat.le_of_ble_eq_true rfl⟩ rfl (fun r2 σ1 h => ?_)
    refine jv_if_ne (tgt := 34) B d_R_stop_21 (by decide) (fun hc => ?_) (fun hc => ?_)
    · replace h := h.1 hc
      refine jv_aload_n B d_R_stop_34 rfl 0 rfl ?_
      refine fg_R_copier B hts hown hK d_R_stop_35 ?_
      refine jv_cvv (As := []) B hml hown hts hK hA (c_K_halt (ad := ad) (cI := cI) (cA := cA) (cL := cL) (F := F) h) (cwV 0 hts g_R_105 rfl rfl rfl hd_K_halt ⟨Nat.le_of_ble_eq_true rfl, Nat.le_of_ble_eq_true rfl⟩) 8 0 rfl rfl rfl rfl (Nat.le_of_ble_eq_true rfl) d_R_stop_38 ⟨Nat.le_of_ble_eq_true rfl, Nat.le_of_ble_eq_true rfl⟩ rfl (fun σ3 h => ?_)
      refine jv_iload_n B d_R_stop_41 rfl 1 rfl ?_
      refine jv_if_ne (tgt := 49) B d_R_stop_42 (by decide) (fun hc => ?_) (fun hc => ?_)
      · replace h := h.1 hc
        refine jv_aload_n B d_R_stop_49 rfl 0 rfl ?_
        refine fg_R_saves B hts hown hK d_R_stop_50 ?_
        refine jv_aload_n B d_R_stop_53 rfl 0 rfl ?_
        refine fg_R_map B hts hown hK d_R_stop_54 ?_
        refine jv_iload_n B d_R_stop_57 rfl 1 rfl ?_
        refine jv_civ (As := [.ref (ad 6), .int v1]) B hml hown hts hK hA (c_V_write (ad := ad) (cI := cI) (cA := cA) (cL := cL) (F := F) h) (cwV 2 hts g_R_99 rfl rfl rfl hd_V_write ⟨Nat.le_of_ble_eq_true rfl, Nat.le_of_ble_eq_true rfl⟩) 9 2 rfl rfl rfl rfl (Nat.le_of_ble_eq_true rfl) d_R_stop_58 ⟨Nat.le_of_ble_eq_true rfl, Nat.le_of_ble_eq_true rfl⟩ rfl (fun r5 σ4 h => ?_)
        exact jv_widen (Nat.zero_le _) (Nat.zero_le _) (jv_retX (jv_iret B hr rfl hlk hK _ rfl h d_R_stop_61))
      · replace h := h.2 hc
        refine jv_iconst (v := 0) B d_R_stop_45 (by decide) ?_
        refine jv_goto (tgt := 61) B d_R_stop_46 (by decide) ?_
        exact jv_widen (Nat.zero_le _) (Nat.zero_le _) (jv_retX (jv_iret B hr rfl hlk hK _ rfl h d_R_stop_61))
    · replace h := h.2 hc
      exact jv_throw (code := 2) (text := "copying is not going on") (names := jSup) B hml hown hts hK hA hJ hex hl hlk rfl (by decide +kernel) (by decide +kernel) kclS kniS (by decide) katS kbtS (vx_c (va_Nw.use rfl hJ.2.2.2.2.1) hJ.dec) kgtS (Nat.lt_of_lt_of_le (show jSup.length + 3 < 6 by decide) (Nat.le_of_ble_eq_true rfl)) (Nat.le_of_ble_eq_true rfl) (Nat.le_of_ble_eq_true rfl) (Nat.le_of_ble_eq_true rfl) rfl h d_R_stop_24 d_R_stop_27 d_R_stop_28 d_R_stop_30 d_R_stop_33
  · replace h := h.2 hc
    exact jv_throw (code := 1) (text := "keep is below 0") (names := jSup) B hml hown hts hK hA hJ hex hl hlk rfl (by decide +kernel) (by decide +kernel) kclI kniI (by decide) katI kbtI (vx_c (va_Nw.use rfl hJ.2.2.2.1) hJ.dec) kgtI (Nat.lt_of_lt_of_le (show jSup.length + 3 < 6 by decide) (Nat.le_of_ble_eq_true rfl)) (Nat.le_of_ble_eq_true rfl) (Nat.le_of_ble_eq_true rfl) (Nat.le_of_ble_eq_true rfl) rfl h d_R_stop_4 d_R_stop_7 d_R_stop_8 d_R_stop_10 d_R_stop_13
theorem c_R_stop {l : Launch} (hl : l.stackTraces = false) {D : va_G} {A : Nat → Prop} {ad : Nat → Nat} {cI cA cL : ClassId} {F : va_W} {σ : jS} {v1 : Int32} {post : Int32 → jS → Prop} {px : Nat → jS → Prop} (h : p_R_stop σ v1 post px) : vx_Met l y_R_stop (Cond.code y_R_stop b_R_stop 2 (some .int) :: wb) (rmk 7 1 6) (jv_PreX D jClasses (jTy cI cA cL) A (cw ad cI cA σ F) [.ref (ad 0), .int v1]) (va_Qi post (jv_End D jClasses (jTy cI cA cL) A (fun σ => cw ad cI cA σ F)) A) (jv_XC D jClasses (jTy cI cA cL) A (fun σ => cw ad cI cA σ F) px) 1 6 A :=
  jv_ofX hl (by decide) (Nat.le_of_ble_eq_true rfl) (fun p e s m below meth c X => w_R_stop_0 X h)
set_option maxRecDepth 100000 in
theorem w_R_resume_0 (X : jv_CX p l s m args meth c b_R_resume 2 (some .int) y_R_resume wb D jClasses (jTy cI cA cL) A) {post : Int32 → jS → Prop} {px : Nat → jS → Prop} {σ : jS} (h : p_R_resume σ post px) : jv_V p l e (rmk 7 1 6) s m args below meth c D jClasses A 2 0 0 (vx_MQ below (va_Qi post (jv_End D jClasses (jTy cI cA cL) A (fun σ => cw ad cI cA σ F)) A) (jv_XC D jClasses (jTy cI cA cL) A (fun σ => cw ad cI cA σ F) px) args s 1 6 A) (cw ad cI cA σ F) [(0, .ref (ad 0))] 0 [] := by
  obtain ⟨⟨B, hml, hown, hts, hK, hA, hr, hlk, hnm⟩, hJ, hex, hl⟩ := id X
  unfold p_R_resume at h
  refine jv_aload_n B d_R_resume_0 rfl 0 rfl ?_
  refine fg_R_copier B hts hown hK d_R_resume_1 ?_
  refine jv_civ (As := []) B hml hown hts hK hA (c_K_currentPhase (ad := ad) (cI := cI) (cA := cA) (cL := cL) (F := F) h) (cwV 0 hts g_R_74 rfl rfl rfl hd_K_currentPhase ⟨Nat.le_of_ble_eq_true rfl, Nat.le_of_ble_eq_true rfl⟩) 8 0 rfl rfl rfl rfl (Nat.le_of_ble_eq_true rfl) d_R_resume_4 ⟨Nat.le_of_ble_eq_true rfl, Nat.le_of_ble_eq_true rfl⟩ rfl (fun r2 σ1 h => ?_)
  refine jv_bipush (v := 7) B d_R_resume_7 (by decide) ?_
  refine jv_icmp_eq (tgt := 22) B d_R_resume_9 (by decide) (fun hc => ?_) (fun hc => ?_)
  · replace h := h.1 hc
    refine jv_aload_n B d_R_resume_22 rfl 0 rfl ?_
    refine fg_R_map B hts hown hK d_R_resume_23 ?_
    refine jv_aload_n B d_R_resume_26 rfl 0 rfl ?_
    refine fg_R_disk B hts hown hK d_R_resume_27 ?_
    refine jv_civ (As := []) B hml hown hts hK hA (c_D_size (ad := ad) (cI := cI) (cA := cA) (cL := cL) (F := F) h) (cwV 0 hts g_R_70 rfl rfl rfl hd_D_size ⟨Nat.le_of_ble_eq_true rfl, Nat.le_of_ble_eq_true rfl⟩) 1 1 rfl rfl rfl rfl (Nat.le_of_ble_eq_true rfl) d_R_resume_30 ⟨Nat.le_of_ble_eq_true rfl, Nat.le_of_ble_eq_true rfl⟩ rfl (fun r4 σ3 h => ?_)
    refine jv_cvv (As := [.int r4]) B hml hown hts hK hA (c_S_clear (ad := ad) (cI := cI) (cA := cA) (cL := cL) (F := F) h) (cwV 1 hts g_R_82 rfl rfl rfl hd_S_clear ⟨Nat.le_of_ble_eq_true rfl, Nat.le_of_ble_eq_true rfl⟩) 6 3 rfl rfl rfl rfl (Nat.le_of_ble_eq_true rfl) d_R_resume_33 ⟨Nat.le_of_ble_eq_true rfl, Nat.le_of_ble_eq_true rfl⟩ rfl (fun σ5 h => ?_)
    refine jv_aload_n B d_R_resume_36 rfl 0 rfl ?_
    refine fg_R_saves B hts hown hK d_R_resume_37 ?_
    refine jv_aload_n B d_R_resume_40 rfl 0 rfl ?_
    refine fg_R_disk B hts hown hK d_R_resume_41 ?_
    refine jv_civ (As := []) B hml hown hts hK hA (c_D_size (ad := ad) (cI := cI) (cA := cA) (cL := cL) (F := F) h) (cwV 0 hts g_R_70 rfl rfl rfl hd_D_size ⟨Nat.le_of_ble_eq_true rfl, Nat.le_of_ble_eq_true rfl⟩) 1 1 rfl rfl rfl rfl (Nat.le_of_ble_eq_true rfl) d_R_resume_44 ⟨Nat.le_of_ble_eq_true rfl, Nat.le_of_ble_eq_true rfl⟩ rfl (fun r7 σ6 h => ?_)
    refine jv_civ (As := [.int r7]) B hml hown hts hK hA (c_V_newestWhole (ad := ad) (cI := cI) (cA := cA) (cL := cL) (F := F) h) (cwV 1 hts g_R_110 rfl rfl rfl hd_V_newestWhole ⟨Nat.le_of_ble_eq_true rfl, Nat.le_of_ble_eq_true rfl⟩) 9 2 rfl rfl rfl rfl (Nat.le_of_ble_eq_true rfl) d_R_resume_47 ⟨Nat.le_of_ble_eq_true rfl, Nat.le_of_ble_eq_true rfl⟩ rfl (fun r9 σ8 h => ?_)
    refine jv_istore_n (lv' := [(1, .int r9), (0, .ref (ad 0))]) B d_R_resume_50 rfl (by decide) rfl ?_
    refine jv_aload_n B d_R_resume_51 rfl 1 rfl ?_
    refine fg_R_saves B hts hown hK d_R_resume_52 ?_
    refine jv_iload_n B d_R_resume_55 rfl 0 rfl ?_
    refine jv_aload_n B d_R_resume_56 rfl 1 rfl ?_
    refine fg_R_map B hts hown hK d_R_resume_57 ?_
    refine jv_cvv (As := [.int r9, .ref (ad 6)]) B hml hown hts hK hA (c_V_load (ad := ad) (cI := cI) (cA := cA) (cL := cL) (F := F) h) (cwV 2 hts g_R_114 rfl rfl rfl hd_V_load ⟨Nat.le_of_ble_eq_true rfl, Nat.le_of_ble_eq_true rfl⟩) 9 2 rfl rfl rfl rfl (Nat.le_of_ble_eq_true rfl) d_R_resume_60 ⟨Nat.le_of_ble_eq_true rfl, Nat.le_of_ble_eq_true rfl⟩ rfl (fun σ10 h => ?_)
    refine jv_aload_n B d_R_resume_63 rfl 1 rfl ?_
    refine fg_R_copier B hts hown hK d_R_resume_64 ?_
    refine jv_iconst (v := 0) B d_R_resume_67 (by decide) ?_
    refine jv_cvv (As := [.int 0]) B hml hown hts hK hA (c_K_enter (ad := ad) (cI := cI) (cA := cA) (cL := cL) (F := F) h) (cwV 1 hts g_R_118 rfl rfl rfl hd_K_enter ⟨Nat.le_of_ble_eq_true rfl, Nat.le_of_ble_eq_true rfl⟩) 8 0 rfl rfl rfl rfl (Nat.le_of_ble_eq_true rfl) d_R_resume_68 ⟨Nat.le_of_ble_eq_true rfl, Nat.le_of_ble_eq_true rfl⟩ rfl (fun σ11 h => ?_)
    refine jv_iload_n B d_R_resume_71 rfl 0 rfl ?_
    exact jv_widen (Nat.zero_le _) (Nat.zero_le _) (jv_retX (jv_iret B hr rfl hlk hK _ rfl h d_R_resume_72))
  · replace h := h.2 hc
    exact jv_throw (code := 2) (text := "copying is not stopped") (names := jSup) B hml hown hts hK hA hJ hex hl hlk rfl (by decide +kernel) (by decide +kernel) kclS kniS (by decide) katS kbtS (vx_c (va_Nw.use rfl hJ.2.2.2.2.1) hJ.dec) kgtS (Nat.lt_of_lt_of_le (show jSup.length + 3 < 6 by decide) (Nat.le_of_ble_eq_true rfl)) (Nat.le_of_ble_eq_true rfl) (Nat.le_of_ble_eq_true rfl) (Nat.le_of_ble_eq_true rfl) rfl h d_R_resume_12 d_R_resume_15 d_R_resume_16 d_R_resume_18 d_R_resume_21
theorem c_R_resume {l : Launch} (hl : l.stackTraces = false) {D : va_G} {A : Nat → Prop} {ad : Nat → Nat} {cI cA cL : ClassId} {F : va_W} {σ : jS} {post : Int32 → jS → Prop} {px : Nat → jS → Prop} (h : p_R_resume σ post px) : vx_Met l y_R_resume (Cond.code y_R_resume b_R_resume 2 (some .int) :: wb) (rmk 7 1 6) (jv_PreX D jClasses (jTy cI cA cL) A (cw ad cI cA σ F) [.ref (ad 0)]) (va_Qi post (jv_End D jClasses (jTy cI cA cL) A (fun σ => cw ad cI cA σ F)) A) (jv_XC D jClasses (jTy cI cA cL) A (fun σ => cw ad cI cA σ F) px) 1 6 A :=
  jv_ofX hl (by decide) (Nat.le_of_ble_eq_true rfl) (fun p e s m below meth c X => w_R_resume_0 X h)
set_option maxRecDepth 100000 in
theorem w_R_poke_33 (X : jv_CX p l s m args meth c b_R_poke 4 none y_R_poke wb D jClasses (jTy cI cA cL) A) {post : jS → Prop} {px : Nat → jS → Prop} {v1 v2 v3 : Int32} {σ : jS} (h : p_R_poke_33 post px v1 v2 v3 σ) : jv_V p l e (rmk 7 1 6) s m args below meth c D jClasses A 4 0 0 (vx_MQ below (va_Qv post (jv_End D jClasses (jTy cI cA cL) A (fun σ => cw ad cI cA σ F)) A) (jv_XC D jClasses (jTy cI cA cL) A (fun σ => cw ad cI cA σ F) px) args s 1 6 A) (cw ad cI cA σ F) [] 33 [] := by
  obtain ⟨⟨B, hml, hown, hts, hK, hA, hr, hlk, hnm⟩, hJ, hex, hl⟩ := id X
  unfold p_R_poke_33 at h
  exact jv_throw (code := 1) (text := "a byte is 0 to 255") (names := jSup) B hml hown hts hK hA hJ hex hl hlk rfl (by decide +kernel) (by decide +kernel) kclI kniI (by decide) katI kbtI (vx_c (va_Nw.use rfl hJ.2.2.2.1) hJ.dec) kgtI (Nat.lt_of_lt_of_le (show jSup.length + 3 < 6 by decide) (Nat.le_of_ble_eq_true rfl)) (Nat.le_of_ble_eq_true rfl) (Nat.le_of_ble_eq_true rfl) (Nat.le_of_ble_eq_true rfl) rfl h d_R_poke_33 d_R_poke_36 d_R_poke_37 d_R_poke_39 d_R_poke_42
set_option maxRecDepth 100000 in
theorem w_R_poke_0 (X : jv_CX p l s m args meth c b_R_poke 4 none y_R_poke wb D jClasses (jTy cI cA cL) A) {post : jS → Prop} {px : Nat → jS → Prop} {σ : jS} {v1 v2 v3 : Int32} (h : p_R_poke σ v1 v2 v3 post px) : jv_V p l e (rmk 7 1 6) s m args below meth c D jClasses A 4 0 0 (vx_MQ below (va_Qv post (jv_End D jClasses (jTy cI cA cL) A (fun σ => cw ad cI cA σ F)) A) (jv_XC D jClasses (jTy cI cA cL) A (fun σ => cw ad cI cA σ F) px) args s 1 6 A) (cw ad cI cA σ F) [(0, .ref (ad 0)), (1, .int v1), (2, .int v2), (3, .int v3)] 0 [] := by
  obtain ⟨⟨B, hml, hown, hts, hK, hA, hr, hlk, hnm⟩, hJ, hex, hl⟩ := id X
  unfold p_R_poke at h
  refine jv_aload_n B d_R_poke_0 rfl 0 rfl ?_
  refine fg_R_saves B hts hown hK d_R_poke_1 ?_
  refine jv_iload_n B d_R_poke_4 rfl 1 rfl ?_
  refine jv_iload_n B d_R_poke_5 rfl 2 rfl ?_
  refine jv_civ (As := [.int v1, .int v2]) B hml hown hts hK hA (c_V_has (ad := ad) (cI := cI) (cA := cA) (cL := cL) (F := F) h) (cwV 2 hts g_R_121 rfl rfl rfl hd_V_has ⟨Nat.le_of_ble_eq_true rfl, Nat.le_of_ble_eq_true rfl⟩) 9 2 rfl rfl rfl rfl (Nat.le_of_ble_eq_true rfl) d_R_poke_6 ⟨Nat.le_of_ble_eq_true rfl, Nat.le_of_ble_eq_true rfl⟩ rfl (fun r2 σ1 h => ?_)
  refine jv_if_ne (tgt := 22) B d_R_poke_9 (by decide) (fun hc => ?_) (fun hc => ?_)
  · replace h := h.1 hc
    refine jv_iload_n B d_R_poke_22 rfl 3 rfl ?_
    refine jv_if_lt (tgt := 33) B d_R_poke_23 (by decide) (fun hc => ?_) (fun hc => ?_)
    · replace h := h.1 hc
      refine jv_sub [] rfl ?_
      exact w_R_poke_33 X h
    · replace h := h.2 hc
      refine jv_iload_n B d_R_poke_26 rfl 3 rfl ?_
      refine jv_sipush (v := 255) B d_R_poke_27 (by decide) ?_
      refine jv_icmp_le (tgt := 43) B d_R_poke_30 (by decide) (fun hc => ?_) (fun hc => ?_)
      · replace h := h.1 hc
        refine jv_aload_n B d_R_poke_43 rfl 0 rfl ?_
        refine fg_R_saves B hts hown hK d_R_poke_44 ?_
        refine jv_iload_n B d_R_poke_47 rfl 1 rfl ?_
        refine jv_iload_n B d_R_poke_48 rfl 2 rfl ?_
        refine jv_iload_n B d_R_poke_49 rfl 3 rfl ?_
        refine jv_cvv (As := [.int v1, .int v2, .int v3]) B hml hown hts hK hA (c_V_put (ad := ad) (cI := cI) (cA := cA) (cL := cL) (F := F) h) (cwV 3 hts g_R_128 rfl rfl rfl hd_V_put ⟨Nat.le_of_ble_eq_true rfl, Nat.le_of_ble_eq_true rfl⟩) 9 2 rfl rfl rfl rfl (Nat.le_of_ble_eq_true rfl) d_R_poke_50 ⟨Nat.le_of_ble_eq_true rfl, Nat.le_of_ble_eq_true rfl⟩ rfl (fun σ3 h => ?_)
        exact jv_widen (Nat.zero_le _) (Nat.zero_le _) (jv_retX (jv_vret B hr hlk hK _ rfl h d_R_poke_53))
      · replace h := h.2 hc
        refine jv_sub [] rfl ?_
        exact w_R_poke_33 X h
  · replace h := h.2 hc
    exact jv_throw (code := 1) (text := "no such slot or place") (names := jSup) B hml hown hts hK hA hJ hex hl hlk rfl (by decide +kernel) (by decide +kernel) kclI kniI (by decide) katI kbtI (vx_c (va_Nw.use rfl hJ.2.2.2.1) hJ.dec) kgtI (Nat.lt_of_lt_of_le (show jSup.length + 3 < 6 by decide) (Nat.le_of_ble_eq_true rfl)) (Nat.le_of_ble_eq_true rfl) (Nat.le_of_ble_eq_true rfl) (Nat.le_of_ble_eq_true rfl) rfl h d_R_poke_12 d_R_poke_15 d_R_poke_16 d_R_poke_18 d_R_poke_21
theorem c_R_poke {l : Launch} (hl : l.stackTraces = false) {D : va_G} {A : Nat → Prop} {ad : Nat → Nat} {cI cA cL : ClassId} {F : va_W} {σ : jS} {v1 v2 v3 : Int32} {post : jS → Prop} {px : Nat → jS → Prop} (h : p_R_poke σ v1 v2 v3 post px) : vx_Met l y_R_poke (Cond.code y_R_poke b_R_poke 4 none :: wb) (rmk 7 1 6) (jv_PreX D jClasses (jTy cI cA cL) A (cw ad cI cA σ F) [.ref (ad 0), .int v1, .int v2, .int v3]) (va_Qv post (jv_End D jClasses (jTy cI cA cL) A (fun σ => cw ad cI cA σ F)) A) (jv_XC D jClasses (jTy cI cA cL) A (fun σ => cw ad cI cA σ F) px) 1 6 A :=
  jv_ofX hl (by decide) (Nat.le_of_ble_eq_true rfl) (fun p e s m below meth c X => w_R_poke_0 X h)
set_option maxRecDepth 100000 in
theorem w_R_second_0 (X : jv_CX p l s m args meth c b_R_second 3 (some .boolean) y_R_second wb D jClasses (jTy cI cA cL) A) {post : Int32 → jS → Prop} {px : Nat → jS → Prop} {σ : jS} {v1 v2 : Int32} (h : p_R_second σ v1 v2 post px) : jv_V p l e (rmk 7 1 6) s m args below meth c D jClasses A 3 0 0 (vx_MQ below (va_Qi post (jv_End D jClasses (jTy cI cA cL) A (fun σ => cw ad cI cA σ F)) A) (jv_XC D jClasses (jTy cI cA cL) A (fun σ => cw ad cI cA σ F) px) args s 1 6 A) (cw ad cI cA σ F) [(0, .ref (ad 0)), (1, .int v1), (2, .int v2)] 0 [] := by
  obtain ⟨⟨B, hml, hown, hts, hK, hA, hr, hlk, hnm⟩, hJ, hex, hl⟩ := id X
  unfold p_R_second at h
  refine jv_aload_n B d_R_second_0 rfl 0 rfl ?_
  refine fg_R_disk B hts hown hK d_R_second_1 ?_
  refine jv_iload_n B d_R_second_4 rfl 1 rfl ?_
  refine jv_civ (As := [.int v1]) B hml hown hts hK hA (c_D_has (ad := ad) (cI := cI) (cA := cA) (cL := cL) (F := F) h) (cwV 1 hts g_R_56 rfl rfl rfl hd_D_has ⟨Nat.le_of_ble_eq_true rfl, Nat.le_of_ble_eq_true rfl⟩) 1 1 rfl rfl rfl rfl (Nat.le_of_ble_eq_true rfl) d_R_second_5 ⟨Nat.le_of_ble_eq_true rfl, Nat.le_of_ble_eq_true rfl⟩ rfl (fun r2 σ1 h => ?_)
  refine jv_if_ne (tgt := 21) B d_R_second_8 (by decide) (fun hc => ?_) (fun hc => ?_)
  · replace h := h.1 hc
    refine jv_aload_n B d_R_second_21 rfl 0 rfl ?_
    refine fg_R_copier B hts hown hK d_R_second_22 ?_
    refine jv_civ (As := []) B hml hown hts hK hA (c_K_goesOn (ad := ad) (cI := cI) (cA := cA) (cL := cL) (F := F) h) (cwV 0 hts g_R_88 rfl rfl rfl hd_K_goesOn ⟨Nat.le_of_ble_eq_true rfl, Nat.le_of_ble_eq_true rfl⟩) 8 0 rfl rfl rfl rfl (Nat.le_of_ble_eq_true rfl) d_R_second_25 ⟨Nat.le_of_ble_eq_true rfl, Nat.le_of_ble_eq_true rfl⟩ rfl (fun r4 σ3 h => ?_)
    refine jv_if_ne (tgt := 41) B d_R_second_28 (by decide) (fun hc => ?_) (fun hc => ?_)
    · replace h := h.1 hc
      refine jv_aload_n B d_R_second_41 rfl 0 rfl ?_
      refine fg_R_map B hts hown hK d_R_second_42 ?_
      refine jv_iload_n B d_R_second_45 rfl 1 rfl ?_
      refine jv_civ (As := [.int v1]) B hml hown hts hK hA (c_S_stateOf (ad := ad) (cI := cI) (cA := cA) (cL := cL) (F := F) h) (cwV 1 hts g_R_129 rfl rfl rfl hd_S_stateOf ⟨Nat.le_of_ble_eq_true rfl, Nat.le_of_ble_eq_true rfl⟩) 6 3 rfl rfl rfl rfl (Nat.le_of_ble_eq_true rfl) d_R_second_46 ⟨Nat.le_of_ble_eq_true rfl, Nat.le_of_ble_eq_true rfl⟩ rfl (fun r6 σ5 h => ?_)
      refine jv_iconst (v := 3) B d_R_second_49 (by decide) ?_
      refine jv_icmp_eq (tgt := 55) B d_R_second_50 (by decide) (fun hc => ?_) (fun hc => ?_)
      · replace h := h.1 hc
        refine jv_aload_n B d_R_second_55 rfl 0 rfl ?_
        refine fg_R_disk B hts hown hK d_R_second_56 ?_
        refine jv_iload_n B d_R_second_59 rfl 1 rfl ?_
        refine jv_iload_n B d_R_second_60 rfl 2 rfl ?_
        refine jv_cvv (As := [.int v1, .int v2]) B hml hown hts hK hA (c_D_deliver (ad := ad) (cI := cI) (cA := cA) (cL := cL) (F := F) h) (cwV 2 hts g_R_132 rfl rfl rfl hd_D_deliver ⟨Nat.le_of_ble_eq_true rfl, Nat.le_of_ble_eq_true rfl⟩) 1 1 rfl rfl rfl rfl (Nat.le_of_ble_eq_true rfl) d_R_second_61 ⟨Nat.le_of_ble_eq_true rfl, Nat.le_of_ble_eq_true rfl⟩ rfl (fun σ7 h => ?_)
        refine jv_aload_n B d_R_second_64 rfl 0 rfl ?_
        refine fg_R_map B hts hown hK d_R_second_65 ?_
        refine jv_iload_n B d_R_second_68 rfl 1 rfl ?_
        refine jv_iload_n B d_R_second_69 rfl 1 rfl ?_
        refine jv_iconst (v := 1) B d_R_second_70 (by decide) ?_
        refine jv_iadd B d_R_second_71 ?_
        refine jv_iconst (v := 4) B d_R_second_72 (by decide) ?_
        refine jv_cvv (As := [.int v1, .int (v1 + 1), .int 4]) B hml hown hts hK hA (c_S_mark (ad := ad) (cI := cI) (cA := cA) (cL := cL) (F := F) h) (cwV 3 hts g_R_136 rfl rfl rfl hd_S_mark ⟨Nat.le_of_ble_eq_true rfl, Nat.le_of_ble_eq_true rfl⟩) 6 3 rfl rfl rfl rfl (Nat.le_of_ble_eq_true rfl) d_R_second_73 ⟨Nat.le_of_ble_eq_true rfl, Nat.le_of_ble_eq_true rfl⟩ rfl (fun σ8 h => ?_)
        refine jv_iconst (v := 1) B d_R_second_76 (by decide) ?_
        exact jv_widen (Nat.zero_le _) (Nat.zero_le _) (jv_retX (jv_iret B hr (nz h.1) hlk hK _ rfl h.2 d_R_second_77))
      · replace h := h.2 hc
        refine jv_iconst (v := 0) B d_R_second_53 (by decide) ?_
        exact jv_widen (Nat.zero_le _) (Nat.zero_le _) (jv_retX (jv_iret B hr (nz h.1) hlk hK _ rfl h.2 d_R_second_54))
    · replace h := h.2 hc
      exact jv_throw (code := 2) (text := "copying is not going on") (names := jSup) B hml hown hts hK hA hJ hex hl hlk rfl (by decide +kernel) (by decide +kernel) kclS kniS (by decide) katS kbtS (vx_c (va_Nw.use rfl hJ.2.2.2.2.1) hJ.dec) kgtS (Nat.lt_of_lt_of_le (show jSup.length + 3 < 6 by decide) (Nat.le_of_ble_eq_true rfl)) (Nat.le_of_ble_eq_true rfl) (Nat.le_of_ble_eq_true rfl) (Nat.le_of_ble_eq_true rfl) rfl h d_R_second_31 d_R_second_34 d_R_second_35 d_R_second_37 d_R_second_40
  · replace h := h.2 hc
    exact jv_throw (code := 1) (text := "no such sector") (names := jSup) B hml hown hts hK hA hJ hex hl hlk rfl (by decide +kernel) (by decide +kernel) kclI kniI (by decide) katI kbtI (vx_c (va_Nw.use rfl hJ.2.2.2.1) hJ.dec) kgtI (Nat.lt_of_lt_of_le (show jSup.length + 3 < 6 by decide) (Nat.le_of_ble_eq_true rfl)) (Nat.le_of_ble_eq_true rfl) (Nat.le_of_ble_eq_true rfl) (Nat.le_of_ble_eq_true rfl) rfl h d_R_second_11 d_R_second_14 d_R_second_15 d_R_second_17 d_R_second_20
theorem c_R_second {l : Launch} (hl : l.stackTraces = false) {D : va_G} {A : Nat → Prop} {ad : Nat → Nat} {cI cA cL : ClassId} {F : va_W} {σ : jS} {v1 v2 : Int32} {post : Int32 → jS → Prop} {px : Nat → jS → Prop} (h : p_R_second σ v1 v2 post px) : vx_Met l y_R_second (Cond.code y_R_second b_R_second 3 (some .boolean) :: wb) (rmk 7 1 6) (jv_PreX D jClasses (jTy cI cA cL) A (cw ad cI cA σ F) [.ref (ad 0), .int v1, .int v2]) (va_Qi post (jv_End D jClasses (jTy cI cA cL) A (fun σ => cw ad cI cA σ F)) A) (jv_XC D jClasses (jTy cI cA cL) A (fun σ => cw ad cI cA σ F) px) 1 6 A :=
  jv_ofX hl (by decide) (Nat.le_of_ble_eq_true rfl) (fun p e s m below meth c X => w_R_second_0 X h)
end JM

set_option maxRecDepth 100000 in
theorem c_L_source {l : Launch} (hl : l.stackTraces = false) {D : va_G} {A : Nat → Prop} {ad : Nat → Nat} {cI cA cL : ClassId} {ao : Nat} {G : va_W} {σ : jS} {fo : Nat → Int64} {v1 : Int32} {post : Int32 → jS × (Nat → Int64) → Prop} (h : p_L_source σ fo v1 post) : Met l y_L_source (Cond.codeWith y_L_source b_L_source 3 (some .int) [(0, 5, 8, 13)] :: wb) (rmk 9 1 6) (jv_PreX D jClasses (jTy cI cA cL) A (hw ad cI cA cL ao G (σ, fo)) [.ref (ad 0), .int v1]) (va_Qi post (jv_End D jClasses (jTy cI cA cL) A (hw ad cI cA cL ao G)) A) 1 6 A := by
  unfold p_L_source at h
  refine jv_ofH hl (by decide) (Nat.le_of_ble_eq_true rfl) (fun p e s m below meth c X => ?_)
  obtain ⟨⟨B, hml, hown, hts, hK, hA, hr, hlk, hnm⟩, hJ, htab, -⟩ := id X
  show jv_V p l e (rmk 9 1 6) s m _ below meth c D jClasses A 3 0 0 _ (hw ad cI cA cL ao G (σ, fo)) [(0, .ref (ad 0)), (1, .int v1)] 0 []
  refine jv_aload_n B d_L_source_0 rfl 0 rfl ?_
  refine jv_iload_n B d_L_source_1 rfl 1 rfl ?_
  refine jv_xv (As := [.int v1]) (wf := fun σ => cw ad cI cA σ ((ao, .inl (cL, 1, .inr (.inl fo))) :: G)) B hml hown hts hK hA hJ (c_R_source hl (ad := ad) (cI := cI) (cA := cA) (cL := cL) (F := (ao, .inl (cL, 1, .inr (.inl fo))) :: G) h) (cwV 1 hts g_L_7 rfl rfl rfl hd_R_source ⟨Nat.le_of_ble_eq_true rfl, Nat.le_of_ble_eq_true rfl⟩) 0 4 rfl rfl rfl rfl (Nat.le_of_ble_eq_true rfl) d_L_source_2 ⟨Nat.le_of_ble_eq_true rfl, Nat.le_of_ble_eq_true rfl⟩ rfl (fun k σ h => ?_) (fun σ h => ?_)
  · obtain ⟨rfl, h⟩ := h
    refine jv_cat1 hown hts htab rfl (by decide) kLI hJ.2.2.2.1 (fun q9 => ?_)
    refine jv_astore_n (lv' := [(2, .ref q9), (0, .ref (ad 0)), (1, .int v1)]) B d_L_source_8 rfl (by decide) rfl ?_
    refine jv_iconst (v := 1) B d_L_source_9 (by decide) ?_
    exact jv_iret B hr rfl hlk hK (_, _) rfl h d_L_source_10
  · refine jv_goto (tgt := 11) B d_L_source_5 (by decide) ?_
    refine jv_iconst (v := 0) B d_L_source_11 (by decide) ?_
    exact jv_iret B hr rfl hlk hK (_, _) rfl h d_L_source_12
set_option maxRecDepth 100000 in
theorem c_L_sector {l : Launch} (hl : l.stackTraces = false) {D : va_G} {A : Nat → Prop} {ad : Nat → Nat} {cI cA cL : ClassId} {ao : Nat} {G : va_W} {σ : jS} {fo : Nat → Int64} {v1 v2 v3 : Int32} {post : Int32 → jS × (Nat → Int64) → Prop} (h : p_L_sector σ fo v1 v2 v3 post) : Met l y_L_sector (Cond.codeWith y_L_sector b_L_sector 5 (some .int) [(0, 7, 10, 13)] :: wb) (rmk 9 1 6) (jv_PreX D jClasses (jTy cI cA cL) A (hw ad cI cA cL ao G (σ, fo)) [.ref (ad 0), .int v1, .int v2, .int v3]) (va_Qi post (jv_End D jClasses (jTy cI cA cL) A (hw ad cI cA cL ao G)) A) 1 6 A := by
  unfold p_L_sector at h
  refine jv_ofH hl (by decide) (Nat.le_of_ble_eq_true rfl) (fun p e s m below meth c X => ?_)
  obtain ⟨⟨B, hml, hown, hts, hK, hA, hr, hlk, hnm⟩, hJ, htab, -⟩ := id X
  show jv_V p l e (rmk 9 1 6) s m _ below meth c D jClasses A 5 0 0 _ (hw ad cI cA cL ao G (σ, fo)) [(0, .ref (ad 0)), (1, .int v1), (2, .int v2), (3, .int v3)] 0 []
  refine jv_aload_n B d_L_sector_0 rfl 0 rfl ?_
  refine jv_iload_n B d_L_sector_1 rfl 1 rfl ?_
  refine jv_iload_n B d_L_sector_2 rfl 2 rfl ?_
  refine jv_iload_n B d_L_sector_3 rfl 3 rfl ?_
  refine jv_xv (As := [.int v1, .int v2, .int v3]) (wf := fun σ => cw ad cI cA σ ((ao, .inl (cL, 1, .inr (.inl fo))) :: G)) B hml hown hts hK hA hJ (c_R_sector hl (ad := ad) (cI := cI) (cA := cA) (cL := cL) (F := (ao, .inl (cL, 1, .inr (.inl fo))) :: G) h) (cwV 3 hts g_L_15 rfl rfl rfl hd_R_sector ⟨Nat.le_of_ble_eq_true rfl, Nat.le_of_ble_eq_true rfl⟩) 0 4 rfl rfl rfl rfl (Nat.le_of_ble_eq_true rfl) d_L_sector_4 ⟨Nat.le_of_ble_eq_true rfl, Nat.le_of_ble_eq_true rfl⟩ rfl (fun k σ h => ?_) (fun σ h => ?_)
  · obtain ⟨rfl, h⟩ := h
    refine jv_cat1 hown hts htab rfl (by decide) kLI hJ.2.2.2.1 (fun q9 => ?_)
    refine jv_astore (lv' := [(4, .ref q9), (0, .ref (ad 0)), (1, .int v1), (2, .int v2), (3, .int v3)]) B d_L_sector_10 (by decide) rfl ?_
    refine jv_iconst (v := 1) B d_L_sector_12 (by decide) ?_
    exact jv_iret B hr rfl hlk hK (_, _) rfl h d_L_sector_13
  · refine jv_goto (tgt := 14) B d_L_sector_7 (by decide) ?_
    refine jv_iconst (v := 0) B d_L_sector_14 (by decide) ?_
    exact jv_iret B hr rfl hlk hK (_, _) rfl h d_L_sector_15
set_option maxRecDepth 100000 in
theorem c_L_begin {l : Launch} (hl : l.stackTraces = false) {D : va_G} {A : Nat → Prop} {ad : Nat → Nat} {cI cA cL : ClassId} {ao : Nat} {G : va_W} {σ : jS} {fo : Nat → Int64} {v1 : Int32} {post : Int32 → jS × (Nat → Int64) → Prop} (h : p_L_begin σ fo v1 post) : Met l y_L_begin (Cond.codeWith y_L_begin b_L_begin 3 (some .int) [(0, 5, 8, 13), (0, 5, 11, 22)] :: wb) (rmk 9 1 6) (jv_PreX D jClasses (jTy cI cA cL) A (hw ad cI cA cL ao G (σ, fo)) [.ref (ad 0), .int v1]) (va_Qi post (jv_End D jClasses (jTy cI cA cL) A (hw ad cI cA cL ao G)) A) 1 6 A := by
  unfold p_L_begin at h
  refine jv_ofH hl (by decide) (Nat.le_of_ble_eq_true rfl) (fun p e s m below meth c X => ?_)
  obtain ⟨⟨B, hml, hown, hts, hK, hA, hr, hlk, hnm⟩, hJ, htab, -⟩ := id X
  show jv_V p l e (rmk 9 1 6) s m _ below meth c D jClasses A 3 0 0 _ (hw ad cI cA cL ao G (σ, fo)) [(0, .ref (ad 0)), (1, .int v1)] 0 []
  refine jv_aload_n B d_L_begin_0 rfl 0 rfl ?_
  refine jv_iload_n B d_L_begin_1 rfl 1 rfl ?_
  refine jv_xv (As := [.int v1]) (wf := fun σ => cw ad cI cA σ ((ao, .inl (cL, 1, .inr (.inl fo))) :: G)) B hml hown hts hK hA hJ (c_R_begin hl (ad := ad) (cI := cI) (cA := cA) (cL := cL) (F := (ao, .inl (cL, 1, .inr (.inl fo))) :: G) h) (cwV 1 hts g_L_19 rfl rfl rfl hd_R_begin ⟨Nat.le_of_ble_eq_true rfl, Nat.le_of_ble_eq_true rfl⟩) 0 4 rfl rfl rfl rfl (Nat.le_of_ble_eq_true rfl) d_L_begin_2 ⟨Nat.le_of_ble_eq_true rfl, Nat.le_of_ble_eq_true rfl⟩ rfl (fun k σ h => ?_) (fun σ h => ?_)
  · by_cases hk : k = 1
    · subst hk
      replace h := h.1 rfl
      refine jv_cat1 hown hts htab rfl (by decide) kLI hJ.2.2.2.1 (fun q9 => ?_)
      refine jv_astore_n (lv' := [(2, .ref q9), (0, .ref (ad 0)), (1, .int v1)]) B d_L_begin_8 rfl (by decide) rfl ?_
      refine jv_iconst (v := 1) B d_L_begin_9 (by decide) ?_
      exact jv_iret B hr rfl hlk hK (_, _) rfl h d_L_begin_10
    · replace h := h.2 hk
      have hk2 := jE_2 hk
      refine jv_cat2 hown hts htab (by decide) kLI (by rw [hk2]; exact hJ.2.2.2.2.2.2.1) rfl (by decide) (by rw [hk2]; exact kLS) (by rw [hk2]; exact hJ.2.2.2.2.1) (fun q9 => ?_)
      refine jv_astore_n (lv' := [(2, .ref q9), (0, .ref (ad 0)), (1, .int v1)]) B d_L_begin_11 rfl (by decide) rfl ?_
      refine jv_iconst (v := 2) B d_L_begin_12 (by decide) ?_
      exact jv_iret B hr rfl hlk hK (_, _) rfl h d_L_begin_13
  · refine jv_goto (tgt := 14) B d_L_begin_5 (by decide) ?_
    refine jv_iconst (v := 0) B d_L_begin_14 (by decide) ?_
    exact jv_iret B hr rfl hlk hK (_, _) rfl h d_L_begin_15
set_option maxRecDepth 100000 in
theorem c_L_step {l : Launch} (hl : l.stackTraces = false) {D : va_G} {A : Nat → Prop} {ad : Nat → Nat} {cI cA cL : ClassId} {ao : Nat} {G : va_W} {σ : jS} {fo : Nat → Int64} {post : Int32 → jS × (Nat → Int64) → Prop} (h : p_L_step σ fo post) : Met l y_L_step (Cond.codeWith y_L_step b_L_step 3 (some .int) [(0, 8, 11, 22)] :: wb) (rmk 9 1 6) (jv_PreX D jClasses (jTy cI cA cL) A (hw ad cI cA cL ao G (σ, fo)) [.ref (ad 0), .ref ao]) (va_Qi post (jv_End D jClasses (jTy cI cA cL) A (hw ad cI cA cL ao G)) A) 1 6 A := by
  unfold p_L_step at h
  refine jv_ofH hl (by decide) (Nat.le_of_ble_eq_true rfl) (fun p e s m below meth c X => ?_)
  obtain ⟨⟨B, hml, hown, hts, hK, hA, hr, hlk, hnm⟩, hJ, htab, -⟩ := id X
  show jv_V p l e (rmk 9 1 6) s m _ below meth c D jClasses A 3 0 0 _ (hw ad cI cA cL ao G (σ, fo)) [(0, .ref (ad 0)), (1, .ref ao)] 0 []
  refine jv_aload_n B d_L_step_0 rfl 1 rfl ?_
  refine jv_iconst (v := 0) B d_L_step_1 (by decide) ?_
  refine jv_aload_n B d_L_step_2 rfl 0 rfl ?_
  refine jv_xi (As := []) (wf := fun σ => cw ad cI cA σ ((ao, .inl (cL, 1, .inr (.inl fo))) :: G)) B hml hown hts hK hA hJ (c_R_step hl (ad := ad) (cI := cI) (cA := cA) (cL := cL) (F := (ao, .inl (cL, 1, .inr (.inl fo))) :: G) h) (cwV 0 hts g_L_24 rfl rfl rfl hd_R_step ⟨Nat.le_of_ble_eq_true rfl, Nat.le_of_ble_eq_true rfl⟩) 0 4 rfl rfl rfl rfl (Nat.le_of_ble_eq_true rfl) d_L_step_3 ⟨Nat.le_of_ble_eq_true rfl, Nat.le_of_ble_eq_true rfl⟩ rfl (fun k σ h => ?_) (fun r σ h => ?_)
  · obtain ⟨hk, h⟩ := h
    have hk2 := jE_2 hk
    refine jv_cat1 hown hts htab rfl (by decide) (by rw [hk2]; exact kLS) (by rw [hk2]; exact hJ.2.2.2.2.1) (fun q9 => ?_)
    refine jv_astore_n (lv' := [(2, .ref q9), (0, .ref (ad 0)), (1, .ref ao)]) B d_L_step_11 rfl (by decide) rfl ?_
    refine jv_iconst (v := 1) B d_L_step_12 (by decide) ?_
    exact jv_iret B hr rfl hlk hK (_, _) rfl h d_L_step_13
  · refine jv_i2l (v := r.toInt64) B d_L_step_6 rfl ?_
    refine jv_last (ws' := hw ad cI cA cL ao G (σ, vp_updL fo 0 r.toInt64)) B hK 14 2 rfl rfl (vp_in_nI (n := 0) (N := 1) (by decide) (by decide)) d_L_step_7 rfl ?_
    refine jv_goto (tgt := 14) B d_L_step_8 (by decide) ?_
    refine jv_iconst (v := 0) B d_L_step_14 (by decide) ?_
    exact jv_iret B hr rfl hlk hK (_, _) rfl h d_L_step_15
set_option maxRecDepth 100000 in
theorem c_L_run {l : Launch} (hl : l.stackTraces = false) {D : va_G} {A : Nat → Prop} {ad : Nat → Nat} {cI cA cL : ClassId} {ao : Nat} {G : va_W} {σ : jS} {fo : Nat → Int64} {v1 : Int32} {post : Int32 → jS × (Nat → Int64) → Prop} (h : p_L_run σ fo v1 post) : Met l y_L_run (Cond.codeWith y_L_run b_L_run 4 (some .int) [(0, 9, 12, 13), (0, 9, 15, 22)] :: wb) (rmk 9 1 6) (jv_PreX D jClasses (jTy cI cA cL) A (hw ad cI cA cL ao G (σ, fo)) [.ref (ad 0), .int v1, .ref ao]) (va_Qi post (jv_End D jClasses (jTy cI cA cL) A (hw ad cI cA cL ao G)) A) 1 6 A := by
  unfold p_L_run at h
  refine jv_ofH hl (by decide) (Nat.le_of_ble_eq_true rfl) (fun p e s m below meth c X => ?_)
  obtain ⟨⟨B, hml, hown, hts, hK, hA, hr, hlk, hnm⟩, hJ, htab, -⟩ := id X
  show jv_V p l e (rmk 9 1 6) s m _ below meth c D jClasses A 4 0 0 _ (hw ad cI cA cL ao G (σ, fo)) [(0, .ref (ad 0)), (1, .int v1), (2, .ref ao)] 0 []
  refine jv_aload_n B d_L_run_0 rfl 2 rfl ?_
  refine jv_iconst (v := 0) B d_L_run_1 (by decide) ?_
  refine jv_aload_n B d_L_run_2 rfl 0 rfl ?_
  refine jv_iload_n B d_L_run_3 rfl 1 rfl ?_
  refine jv_xi (As := [.int v1]) (wf := fun σ => cw ad cI cA σ ((ao, .inl (cL, 1, .inr (.inl fo))) :: G)) B hml hown hts hK hA hJ (c_R_run hl (ad := ad) (cI := cI) (cA := cA) (cL := cL) (F := (ao, .inl (cL, 1, .inr (.inl fo))) :: G) h) (cwV 1 hts g_L_28 rfl rfl rfl hd_R_run ⟨Nat.le_of_ble_eq_true rfl, Nat.le_of_ble_eq_true rfl⟩) 0 4 rfl rfl rfl rfl (Nat.le_of_ble_eq_true rfl) d_L_run_4 ⟨Nat.le_of_ble_eq_true rfl, Nat.le_of_ble_eq_true rfl⟩ rfl (fun k σ h => ?_) (fun r σ h => ?_)
  · by_cases hk : k = 1
    · subst hk
      replace h := h.1 rfl
      refine jv_cat1 hown hts htab rfl (by decide) kLI hJ.2.2.2.1 (fun q9 => ?_)
      refine jv_astore_n (lv' := [(3, .ref q9), (0, .ref (ad 0)), (1, .int v1), (2, .ref ao)]) B d_L_run_12 rfl (by decide) rfl ?_
      refine jv_iconst (v := 1) B d_L_run_13 (by decide) ?_
      exact jv_iret B hr rfl hlk hK (_, _) rfl h d_L_run_14
    · replace h := h.2 hk
      have hk2 := jE_2 hk
      refine jv_cat2 hown hts htab (by decide) kLI (by rw [hk2]; exact hJ.2.2.2.2.2.2.1) rfl (by decide) (by rw [hk2]; exact kLS) (by rw [hk2]; exact hJ.2.2.2.2.1) (fun q9 => ?_)
      refine jv_astore_n (lv' := [(3, .ref q9), (0, .ref (ad 0)), (1, .int v1), (2, .ref ao)]) B d_L_run_15 rfl (by decide) rfl ?_
      refine jv_iconst (v := 2) B d_L_run_16 (by decide) ?_
      exact jv_iret B hr rfl hlk hK (_, _) rfl h d_L_run_17
  · refine jv_i2l (v := r.toInt64) B d_L_run_7 rfl ?_
    refine jv_last (ws' := hw ad cI cA cL ao G (σ, vp_updL fo 0 r.toInt64)) B hK 14 2 rfl rfl (vp_in_nI (n := 0) (N := 1) (by decide) (by decide)) d_L_run_8 rfl ?_
    refine jv_goto (tgt := 18) B d_L_run_9 (by decide) ?_
    refine jv_iconst (v := 0) B d_L_run_18 (by decide) ?_
    exact jv_iret B hr rfl hlk hK (_, _) rfl h d_L_run_19
set_option maxRecDepth 100000 in
theorem c_L_save {l : Launch} (hl : l.stackTraces = false) {D : va_G} {A : Nat → Prop} {ad : Nat → Nat} {cI cA cL : ClassId} {ao : Nat} {G : va_W} {σ : jS} {fo : Nat → Int64} {post : Int32 → jS × (Nat → Int64) → Prop} (h : p_L_save σ fo post) : Met l y_L_save (Cond.codeWith y_L_save b_L_save 3 (some .int) [(0, 8, 11, 22)] :: wb) (rmk 9 1 6) (jv_PreX D jClasses (jTy cI cA cL) A (hw ad cI cA cL ao G (σ, fo)) [.ref (ad 0), .ref ao]) (va_Qi post (jv_End D jClasses (jTy cI cA cL) A (hw ad cI cA cL ao G)) A) 1 6 A := by
  unfold p_L_save at h
  refine jv_ofH hl (by decide) (Nat.le_of_ble_eq_true rfl) (fun p e s m below meth c X => ?_)
  obtain ⟨⟨B, hml, hown, hts, hK, hA, hr, hlk, hnm⟩, hJ, htab, -⟩ := id X
  show jv_V p l e (rmk 9 1 6) s m _ below meth c D jClasses A 3 0 0 _ (hw ad cI cA cL ao G (σ, fo)) [(0, .ref (ad 0)), (1, .ref ao)] 0 []
  refine jv_aload_n B d_L_save_0 rfl 1 rfl ?_
  refine jv_iconst (v := 0) B d_L_save_1 (by decide) ?_
  refine jv_aload_n B d_L_save_2 rfl 0 rfl ?_
  refine jv_xi (As := []) (wf := fun σ => cw ad cI cA σ ((ao, .inl (cL, 1, .inr (.inl fo))) :: G)) B hml hown hts hK hA hJ (c_R_save hl (ad := ad) (cI := cI) (cA := cA) (cL := cL) (F := (ao, .inl (cL, 1, .inr (.inl fo))) :: G) h) (cwV 0 hts g_L_32 rfl rfl rfl hd_R_save ⟨Nat.le_of_ble_eq_true rfl, Nat.le_of_ble_eq_true rfl⟩) 0 4 rfl rfl rfl rfl (Nat.le_of_ble_eq_true rfl) d_L_save_3 ⟨Nat.le_of_ble_eq_true rfl, Nat.le_of_ble_eq_true rfl⟩ rfl (fun k σ h => ?_) (fun r σ h => ?_)
  · obtain ⟨hk, h⟩ := h
    have hk2 := jE_2 hk
    refine jv_cat1 hown hts htab rfl (by decide) (by rw [hk2]; exact kLS) (by rw [hk2]; exact hJ.2.2.2.2.1) (fun q9 => ?_)
    refine jv_astore_n (lv' := [(2, .ref q9), (0, .ref (ad 0)), (1, .ref ao)]) B d_L_save_11 rfl (by decide) rfl ?_
    refine jv_iconst (v := 1) B d_L_save_12 (by decide) ?_
    exact jv_iret B hr rfl hlk hK (_, _) rfl h d_L_save_13
  · refine jv_i2l (v := r.toInt64) B d_L_save_6 rfl ?_
    refine jv_last (ws' := hw ad cI cA cL ao G (σ, vp_updL fo 0 r.toInt64)) B hK 14 2 rfl rfl (vp_in_nI (n := 0) (N := 1) (by decide) (by decide)) d_L_save_7 rfl ?_
    refine jv_goto (tgt := 14) B d_L_save_8 (by decide) ?_
    refine jv_iconst (v := 0) B d_L_save_14 (by decide) ?_
    exact jv_iret B hr rfl hlk hK (_, _) rfl h d_L_save_15
set_option maxRecDepth 100000 in
theorem c_L_stop {l : Launch} (hl : l.stackTraces = false) {D : va_G} {A : Nat → Prop} {ad : Nat → Nat} {cI cA cL : ClassId} {ao : Nat} {G : va_W} {σ : jS} {fo : Nat → Int64} {v1 : Int32} {post : Int32 → jS × (Nat → Int64) → Prop} (h : p_L_stop σ fo v1 post) : Met l y_L_stop (Cond.codeWith y_L_stop b_L_stop 4 (some .int) [(0, 9, 12, 13), (0, 9, 15, 22)] :: wb) (rmk 9 1 6) (jv_PreX D jClasses (jTy cI cA cL) A (hw ad cI cA cL ao G (σ, fo)) [.ref (ad 0), .int v1, .ref ao]) (va_Qi post (jv_End D jClasses (jTy cI cA cL) A (hw ad cI cA cL ao G)) A) 1 6 A := by
  unfold p_L_stop at h
  refine jv_ofH hl (by decide) (Nat.le_of_ble_eq_true rfl) (fun p e s m below meth c X => ?_)
  obtain ⟨⟨B, hml, hown, hts, hK, hA, hr, hlk, hnm⟩, hJ, htab, -⟩ := id X
  show jv_V p l e (rmk 9 1 6) s m _ below meth c D jClasses A 4 0 0 _ (hw ad cI cA cL ao G (σ, fo)) [(0, .ref (ad 0)), (1, .int v1), (2, .ref ao)] 0 []
  refine jv_aload_n B d_L_stop_0 rfl 2 rfl ?_
  refine jv_iconst (v := 0) B d_L_stop_1 (by decide) ?_
  refine jv_aload_n B d_L_stop_2 rfl 0 rfl ?_
  refine jv_iload_n B d_L_stop_3 rfl 1 rfl ?_
  refine jv_xi (As := [.int v1]) (wf := fun σ => cw ad cI cA σ ((ao, .inl (cL, 1, .inr (.inl fo))) :: G)) B hml hown hts hK hA hJ (c_R_stop hl (ad := ad) (cI := cI) (cA := cA) (cL := cL) (F := (ao, .inl (cL, 1, .inr (.inl fo))) :: G) h) (cwV 1 hts g_L_35 rfl rfl rfl hd_R_stop ⟨Nat.le_of_ble_eq_true rfl, Nat.le_of_ble_eq_true rfl⟩) 0 4 rfl rfl rfl rfl (Nat.le_of_ble_eq_true rfl) d_L_stop_4 ⟨Nat.le_of_ble_eq_true rfl, Nat.le_of_ble_eq_true rfl⟩ rfl (fun k σ h => ?_) (fun r σ h => ?_)
  · by_cases hk : k = 1
    · subst hk
      replace h := h.1 rfl
      refine jv_cat1 hown hts htab rfl (by decide) kLI hJ.2.2.2.1 (fun q9 => ?_)
      refine jv_astore_n (lv' := [(3, .ref q9), (0, .ref (ad 0)), (1, .int v1), (2, .ref ao)]) B d_L_stop_12 rfl (by decide) rfl ?_
      refine jv_iconst (v := 1) B d_L_stop_13 (by decide) ?_
      exact jv_iret B hr rfl hlk hK (_, _) rfl h d_L_stop_14
    · replace h := h.2 hk
      have hk2 := jE_2 hk
      refine jv_cat2 hown hts htab (by decide) kLI (by rw [hk2]; exact hJ.2.2.2.2.2.2.1) rfl (by decide) (by rw [hk2]; exact kLS) (by rw [hk2]; exact hJ.2.2.2.2.1) (fun q9 => ?_)
      refine jv_astore_n (lv' := [(3, .ref q9), (0, .ref (ad 0)), (1, .int v1), (2, .ref ao)]) B d_L_stop_15 rfl (by decide) rfl ?_
      refine jv_iconst (v := 2) B d_L_stop_16 (by decide) ?_
      exact jv_iret B hr rfl hlk hK (_, _) rfl h d_L_stop_17
  · refine jv_i2l (v := r.toInt64) B d_L_stop_7 rfl ?_
    refine jv_last (ws' := hw ad cI cA cL ao G (σ, vp_updL fo 0 r.toInt64)) B hK 14 2 rfl rfl (vp_in_nI (n := 0) (N := 1) (by decide) (by decide)) d_L_stop_8 rfl ?_
    refine jv_goto (tgt := 18) B d_L_stop_9 (by decide) ?_
    refine jv_iconst (v := 0) B d_L_stop_18 (by decide) ?_
    exact jv_iret B hr rfl hlk hK (_, _) rfl h d_L_stop_19
set_option maxRecDepth 100000 in
theorem c_L_resume {l : Launch} (hl : l.stackTraces = false) {D : va_G} {A : Nat → Prop} {ad : Nat → Nat} {cI cA cL : ClassId} {ao : Nat} {G : va_W} {σ : jS} {fo : Nat → Int64} {post : Int32 → jS × (Nat → Int64) → Prop} (h : p_L_resume σ fo post) : Met l y_L_resume (Cond.codeWith y_L_resume b_L_resume 3 (some .int) [(0, 8, 11, 22)] :: wb) (rmk 9 1 6) (jv_PreX D jClasses (jTy cI cA cL) A (hw ad cI cA cL ao G (σ, fo)) [.ref (ad 0), .ref ao]) (va_Qi post (jv_End D jClasses (jTy cI cA cL) A (hw ad cI cA cL ao G)) A) 1 6 A := by
  unfold p_L_resume at h
  refine jv_ofH hl (by decide) (Nat.le_of_ble_eq_true rfl) (fun p e s m below meth c X => ?_)
  obtain ⟨⟨B, hml, hown, hts, hK, hA, hr, hlk, hnm⟩, hJ, htab, -⟩ := id X
  show jv_V p l e (rmk 9 1 6) s m _ below meth c D jClasses A 3 0 0 _ (hw ad cI cA cL ao G (σ, fo)) [(0, .ref (ad 0)), (1, .ref ao)] 0 []
  refine jv_aload_n B d_L_resume_0 rfl 1 rfl ?_
  refine jv_iconst (v := 0) B d_L_resume_1 (by decide) ?_
  refine jv_aload_n B d_L_resume_2 rfl 0 rfl ?_
  refine jv_xi (As := []) (wf := fun σ => cw ad cI cA σ ((ao, .inl (cL, 1, .inr (.inl fo))) :: G)) B hml hown hts hK hA hJ (c_R_resume hl (ad := ad) (cI := cI) (cA := cA) (cL := cL) (F := (ao, .inl (cL, 1, .inr (.inl fo))) :: G) h) (cwV 0 hts g_L_38 rfl rfl rfl hd_R_resume ⟨Nat.le_of_ble_eq_true rfl, Nat.le_of_ble_eq_true rfl⟩) 0 4 rfl rfl rfl rfl (Nat.le_of_ble_eq_true rfl) d_L_resume_3 ⟨Nat.le_of_ble_eq_true rfl, Nat.le_of_ble_eq_true rfl⟩ rfl (fun k σ h => ?_) (fun r σ h => ?_)
  · obtain ⟨hk, h⟩ := h
    have hk2 := jE_2 hk
    refine jv_cat1 hown hts htab rfl (by decide) (by rw [hk2]; exact kLS) (by rw [hk2]; exact hJ.2.2.2.2.1) (fun q9 => ?_)
    refine jv_astore_n (lv' := [(2, .ref q9), (0, .ref (ad 0)), (1, .ref ao)]) B d_L_resume_11 rfl (by decide) rfl ?_
    refine jv_iconst (v := 1) B d_L_resume_12 (by decide) ?_
    exact jv_iret B hr rfl hlk hK (_, _) rfl h d_L_resume_13
  · refine jv_i2l (v := r.toInt64) B d_L_resume_6 rfl ?_
    refine jv_last (ws' := hw ad cI cA cL ao G (σ, vp_updL fo 0 r.toInt64)) B hK 14 2 rfl rfl (vp_in_nI (n := 0) (N := 1) (by decide) (by decide)) d_L_resume_7 rfl ?_
    refine jv_goto (tgt := 14) B d_L_resume_8 (by decide) ?_
    refine jv_iconst (v := 0) B d_L_resume_14 (by decide) ?_
    exact jv_iret B hr rfl hlk hK (_, _) rfl h d_L_resume_15
set_option maxRecDepth 100000 in
theorem c_L_poke {l : Launch} (hl : l.stackTraces = false) {D : va_G} {A : Nat → Prop} {ad : Nat → Nat} {cI cA cL : ClassId} {ao : Nat} {G : va_W} {σ : jS} {fo : Nat → Int64} {v1 v2 v3 : Int32} {post : Int32 → jS × (Nat → Int64) → Prop} (h : p_L_poke σ fo v1 v2 v3 post) : Met l y_L_poke (Cond.codeWith y_L_poke b_L_poke 5 (some .int) [(0, 7, 10, 13)] :: wb) (rmk 9 1 6) (jv_PreX D jClasses (jTy cI cA cL) A (hw ad cI cA cL ao G (σ, fo)) [.ref (ad 0), .int v1, .int v2, .int v3]) (va_Qi post (jv_End D jClasses (jTy cI cA cL) A (hw ad cI cA cL ao G)) A) 1 6 A := by
  unfold p_L_poke at h
  refine jv_ofH hl (by decide) (Nat.le_of_ble_eq_true rfl) (fun p e s m below meth c X => ?_)
  obtain ⟨⟨B, hml, hown, hts, hK, hA, hr, hlk, hnm⟩, hJ, htab, -⟩ := id X
  show jv_V p l e (rmk 9 1 6) s m _ below meth c D jClasses A 5 0 0 _ (hw ad cI cA cL ao G (σ, fo)) [(0, .ref (ad 0)), (1, .int v1), (2, .int v2), (3, .int v3)] 0 []
  refine jv_aload_n B d_L_poke_0 rfl 0 rfl ?_
  refine jv_iload_n B d_L_poke_1 rfl 1 rfl ?_
  refine jv_iload_n B d_L_poke_2 rfl 2 rfl ?_
  refine jv_iload_n B d_L_poke_3 rfl 3 rfl ?_
  refine jv_xv (As := [.int v1, .int v2, .int v3]) (wf := fun σ => cw ad cI cA σ ((ao, .inl (cL, 1, .inr (.inl fo))) :: G)) B hml hown hts hK hA hJ (c_R_poke hl (ad := ad) (cI := cI) (cA := cA) (cL := cL) (F := (ao, .inl (cL, 1, .inr (.inl fo))) :: G) h) (cwV 3 hts g_L_41 rfl rfl rfl hd_R_poke ⟨Nat.le_of_ble_eq_true rfl, Nat.le_of_ble_eq_true rfl⟩) 0 4 rfl rfl rfl rfl (Nat.le_of_ble_eq_true rfl) d_L_poke_4 ⟨Nat.le_of_ble_eq_true rfl, Nat.le_of_ble_eq_true rfl⟩ rfl (fun k σ h => ?_) (fun σ h => ?_)
  · obtain ⟨rfl, h⟩ := h
    refine jv_cat1 hown hts htab rfl (by decide) kLI hJ.2.2.2.1 (fun q9 => ?_)
    refine jv_astore (lv' := [(4, .ref q9), (0, .ref (ad 0)), (1, .int v1), (2, .int v2), (3, .int v3)]) B d_L_poke_10 (by decide) rfl ?_
    refine jv_iconst (v := 1) B d_L_poke_12 (by decide) ?_
    exact jv_iret B hr rfl hlk hK (_, _) rfl h d_L_poke_13
  · refine jv_goto (tgt := 14) B d_L_poke_7 (by decide) ?_
    refine jv_iconst (v := 0) B d_L_poke_14 (by decide) ?_
    exact jv_iret B hr rfl hlk hK (_, _) rfl h d_L_poke_15
set_option maxRecDepth 100000 in
theorem c_L_second {l : Launch} (hl : l.stackTraces = false) {D : va_G} {A : Nat → Prop} {ad : Nat → Nat} {cI cA cL : ClassId} {ao : Nat} {G : va_W} {σ : jS} {fo : Nat → Int64} {v1 v2 : Int32} {post : Int32 → jS × (Nat → Int64) → Prop} (h : p_L_second σ fo v1 v2 post) : Met l y_L_second (Cond.codeWith y_L_second b_L_second 5 (some .int) [(0, 17, 20, 13), (0, 17, 24, 22)] :: wb) (rmk 9 1 6) (jv_PreX D jClasses (jTy cI cA cL) A (hw ad cI cA cL ao G (σ, fo)) [.ref (ad 0), .int v1, .int v2, .ref ao]) (va_Qi post (jv_End D jClasses (jTy cI cA cL) A (hw ad cI cA cL ao G)) A) 1 6 A := by
  unfold p_L_second at h
  refine jv_ofH hl (by decide) (Nat.le_of_ble_eq_true rfl) (fun p e s m below meth c X => ?_)
  obtain ⟨⟨B, hml, hown, hts, hK, hA, hr, hlk, hnm⟩, hJ, htab, -⟩ := id X
  show jv_V p l e (rmk 9 1 6) s m _ below meth c D jClasses A 5 0 0 _ (hw ad cI cA cL ao G (σ, fo)) [(0, .ref (ad 0)), (1, .int v1), (2, .int v2), (3, .ref ao)] 0 []
  refine jv_aload_n B d_L_second_0 rfl 3 rfl ?_
  refine jv_iconst (v := 0) B d_L_second_1 (by decide) ?_
  refine jv_aload_n B d_L_second_2 rfl 0 rfl ?_
  refine jv_iload_n B d_L_second_3 rfl 1 rfl ?_
  refine jv_iload_n B d_L_second_4 rfl 2 rfl ?_
  refine jv_xi (As := [.int v1, .int v2]) (wf := fun σ => cw ad cI cA σ ((ao, .inl (cL, 1, .inr (.inl fo))) :: G)) B hml hown hts hK hA hJ (c_R_second hl (ad := ad) (cI := cI) (cA := cA) (cL := cL) (F := (ao, .inl (cL, 1, .inr (.inl fo))) :: G) h) (cwV 2 hts g_L_44 rfl rfl rfl hd_R_second ⟨Nat.le_of_ble_eq_true rfl, Nat.le_of_ble_eq_true rfl⟩) 0 4 rfl rfl rfl rfl (Nat.le_of_ble_eq_true rfl) d_L_second_5 ⟨Nat.le_of_ble_eq_true rfl, Nat.le_of_ble_eq_true rfl⟩ rfl (fun k σ h => ?_) (fun r σ h => ?_)
  · by_cases hk : k = 1
    · subst hk
      replace h := h.1 rfl
      refine jv_cat1 hown hts htab rfl (by decide) kLI hJ.2.2.2.1 (fun q9 => ?_)
      refine jv_astore (lv' := [(4, .ref q9), (0, .ref (ad 0)), (1, .int v1), (2, .int v2), (3, .ref ao)]) B d_L_second_20 (by decide) rfl ?_
      refine jv_iconst (v := 1) B d_L_second_22 (by decide) ?_
      exact jv_iret B hr rfl hlk hK (_, _) rfl h d_L_second_23
    · replace h := h.2 hk
      have hk2 := jE_2 hk
      refine jv_cat2 hown hts htab (by decide) kLI (by rw [hk2]; exact hJ.2.2.2.2.2.2.1) rfl (by decide) (by rw [hk2]; exact kLS) (by rw [hk2]; exact hJ.2.2.2.2.1) (fun q9 => ?_)
      refine jv_astore (lv' := [(4, .ref q9), (0, .ref (ad 0)), (1, .int v1), (2, .int v2), (3, .ref ao)]) B d_L_second_24 (by decide) rfl ?_
      refine jv_iconst (v := 2) B d_L_second_26 (by decide) ?_
      exact jv_iret B hr rfl hlk hK (_, _) rfl h d_L_second_27
  · refine jv_if_eq (tgt := 15) B d_L_second_8 (by decide) (fun hc => ?_) (fun hc => ?_)
    · replace h := h.1 hc
      refine jv_lconst (v := 0) B d_L_second_15 (by decide) ?_
      refine jv_last (ws' := hw ad cI cA cL ao G (σ, vp_updL fo 0 0)) B hK 14 2 rfl rfl (vp_in_nI (n := 0) (N := 1) (by decide) (by decide)) d_L_second_16 rfl ?_
      refine jv_goto (tgt := 28) B d_L_second_17 (by decide) ?_
      refine jv_iconst (v := 0) B d_L_second_28 (by decide) ?_
      exact jv_iret B hr rfl hlk hK (_, _) rfl h d_L_second_29
    · replace h := h.2 hc
      refine jv_lconst (v := 1) B d_L_second_11 (by decide) ?_
      refine jv_goto (tgt := 16) B d_L_second_12 (by decide) ?_
      refine jv_last (ws' := hw ad cI cA cL ao G (σ, vp_updL fo 0 1)) B hK 14 2 rfl rfl (vp_in_nI (n := 0) (N := 1) (by decide) (by decide)) d_L_second_16 rfl ?_
      refine jv_goto (tgt := 28) B d_L_second_17 (by decide) ?_
      refine jv_iconst (v := 0) B d_L_second_28 (by decide) ?_
      exact jv_iret B hr rfl hlk hK (_, _) rfl h d_L_second_29

section JM
variable {p : Program} {l : Launch} {e : Env} {s : State} {m : MethodId} {args : Array Value} {below : List Frame} {meth : Method} {c : Code} {D : va_G} {A : Nat → Prop} {ad : Nat → Nat} {cI cA cL : ClassId} {F : va_W}
set_option maxRecDepth 100000 in
theorem w_M_part_49 (X : jv_C p s m args meth c b_M_part 5 (some .int) y_M_part wb D jClasses (jTy cI cA cL) A) {post : Int32 → jS → Prop} {v1 v2 : Int32} {σ : jS} {v3 : Int32} (h : p_M_part_49 post v1 v2 σ v3) : jv_V p l e (rmk 2 0 0) s m args below meth c D jClasses A 5 0 0 (MQ below (va_Qi post (jv_End D jClasses (jTy cI cA cL) A (fun σ => mw ad cI cA σ F)) A) args s 0 0 A) (mw ad cI cA σ F) [(0, .ref (ad 0)), (2, .int v2), (3, .int v3)] 49 [] := by
  obtain ⟨B, hml, hown, hts, hK, hA, hr, hlk, hnm⟩ := id X
  unfold p_M_part_49 at h
  refine jv_iload_n B d_M_part_49 rfl 2 rfl ?_
  refine jv_aload_n B d_M_part_50 rfl 0 rfl ?_
  refine fg_M_sectors B hts hown hK d_M_part_51 ?_
  refine jv_icmp_lt (tgt := 59) B d_M_part_54 (by decide) (fun hc => ?_) (fun hc => ?_)
  · replace h := h.1 hc
    refine jv_iload_n B d_M_part_59 rfl 1 rfl ?_
    refine jv_if_ne (tgt := 67) B d_M_part_60 (by decide) (fun hc => ?_) (fun hc => ?_)
    · replace h := h.1 hc
      refine jv_iload_n B d_M_part_67 rfl 1 rfl ?_
      refine jv_iconst (v := 1) B d_M_part_68 (by decide) ?_
      refine jv_icmp_ne (tgt := 82) B d_M_part_69 (by decide) (fun hc => ?_) (fun hc => ?_)
      · replace h := h.1 hc
        refine jv_iload_n B d_M_part_82 rfl 1 rfl ?_
        refine jv_iconst (v := 2) B d_M_part_83 (by decide) ?_
        refine jv_icmp_ne (tgt := 96) B d_M_part_84 (by decide) (fun hc => ?_) (fun hc => ?_)
        · replace h := h.1 hc
          refine jv_iconst (v := (-1)) B d_M_part_96 (by decide) ?_
          exact jv_iret B hr rfl hlk hK _ rfl h d_M_part_97
        · replace h := h.2 hc
          refine jv_aload_n B d_M_part_87 rfl 0 rfl ?_
          refine fg_M_states B hts hown hK d_M_part_88 ?_
          refine jv_iload_n B d_M_part_91 rfl 2 rfl ?_
          refine ld_m_5 B hK h.1 d_M_part_92 ?_
          replace h := h.2
          refine jv_goto (tgt := 97) B d_M_part_93 (by decide) ?_
          exact jv_iret B hr rfl hlk hK _ rfl h d_M_part_97
      · replace h := h.2 hc
        refine jv_aload_n B d_M_part_72 rfl 0 rfl ?_
        refine jv_iload_n B d_M_part_73 rfl 2 rfl ?_
        refine jv_civ (As := [.int v3]) B hml hown hts hK hA (c_M_endOf (ad := ad) (cI := cI) (cA := cA) (cL := cL) (F := F) h) (cwV 1 hts g_M_117 rfl rfl rfl hd_M_endOf ⟨Nat.le_of_ble_eq_true rfl, Nat.le_of_ble_eq_true rfl⟩) 0 5 rfl rfl rfl rfl (Nat.le_of_ble_eq_true rfl) d_M_part_74 ⟨Nat.le_of_ble_eq_true rfl, Nat.le_of_ble_eq_true rfl⟩ rfl (fun r4 σ3 h => ?_)
        refine jv_iload_n B d_M_part_77 rfl 2 rfl ?_
        refine jv_isub B d_M_part_78 ?_
        refine jv_goto (tgt := 97) B d_M_part_79 (by decide) ?_
        exact jv_iret B hr rfl hlk hK _ rfl h d_M_part_97
    · replace h := h.2 hc
      refine jv_iload_n B d_M_part_63 rfl 2 rfl ?_
      refine jv_goto (tgt := 97) B d_M_part_64 (by decide) ?_
      exact jv_iret B hr rfl hlk hK _ rfl h d_M_part_97
  · replace h := h.2 hc
    refine jv_iconst (v := (-1)) B d_M_part_57 (by decide) ?_
    exact jv_iret B hr rfl hlk hK _ rfl h d_M_part_58
set_option maxRecDepth 100000 in
theorem w_M_part_23 (X : jv_C p s m args meth c b_M_part 5 (some .int) y_M_part wb D jClasses (jTy cI cA cL) A) {post : Int32 → jS → Prop} {v1 v2 : Int32} : ∀ (n : Nat), ∀ (σ : jS) (v3 v4 : Int32), p_M_part_23 post v1 v2 n σ v3 v4 → jv_V p l e (rmk 2 0 0) s m args below meth c D jClasses A 5 0 0 (MQ below (va_Qi post (jv_End D jClasses (jTy cI cA cL) A (fun σ => mw ad cI cA σ F)) A) args s 0 0 A) (mw ad cI cA σ F) [(0, .ref (ad 0)), (1, .int v1), (2, .int v2), (3, .int v3), (4, .int v4)] 23 [] := by
  obtain ⟨B, hml, hown, hts, hK, hA, hr, hlk, hnm⟩ := id X
  intro n
  induction n with
  | zero => intro σ v3 v4 h; exact h.elim
  | succ n ih =>
    intro σ v3 v4 h
    rw [p_M_part_23] at h
    refine jv_iload B d_M_part_23 4 rfl ?_
    refine jv_iload_n B d_M_part_25 rfl 1 rfl ?_
    refine jv_icmp_ge (tgt := 49) B d_M_part_26 (by decide) (fun hc => ?_) (fun hc => ?_)
    · replace h := h.1 hc
      refine jv_sub [0, 2, 3] rfl ?_
      exact w_M_part_49 X h
    · replace h := h.2 hc
      refine jv_iload_n B d_M_part_29 rfl 3 rfl ?_
      refine jv_aload_n B d_M_part_30 rfl 0 rfl ?_
      refine fg_M_sectors B hts hown hK d_M_part_31 ?_
      refine jv_icmp_ge (tgt := 49) B d_M_part_34 (by decide) (fun hc => ?_) (fun hc => ?_)
      · replace h := h.1 hc
        refine jv_sub [0, 2, 3] rfl ?_
        exact w_M_part_49 X h
      · replace h := h.2 hc
        refine jv_aload_n B d_M_part_37 rfl 0 rfl ?_
        refine jv_iload_n B d_M_part_38 rfl 3 rfl ?_
        refine jv_civ (As := [.int v3]) B hml hown hts hK hA (c_M_endOf (ad := ad) (cI := cI) (cA := cA) (cL := cL) (F := F) h) (cwV 1 hts g_M_117 rfl rfl rfl hd_M_endOf ⟨Nat.le_of_ble_eq_true rfl, Nat.le_of_ble_eq_true rfl⟩) 0 5 rfl rfl rfl rfl (Nat.le_of_ble_eq_true rfl) d_M_part_39 ⟨Nat.le_of_ble_eq_true rfl, Nat.le_of_ble_eq_true rfl⟩ rfl (fun r6 σ5 h => ?_)
        refine jv_istore_n (lv' := [(3, .int r6), (0, .ref (ad 0)), (1, .int v1), (2, .int v2), (4, .int v4)]) B d_M_part_42 rfl (by decide) rfl ?_
        refine jv_iinc (n9 := 4) (v := v4 + 1) (lv' := [(4, .int (v4 + 1)), (3, .int r6), (0, .ref (ad 0)), (1, .int v1), (2, .int v2)]) B d_M_part_43 rfl rfl (by decide) rfl ?_
        refine jv_goto (tgt := 23) B d_M_part_46 (by decide) ?_
        refine jv_sub [2, 3, 4, 1, 0] rfl ?_
        exact ih _ _ _ h
set_option maxRecDepth 100000 in
theorem w_M_part_0 (X : jv_C p s m args meth c b_M_part 5 (some .int) y_M_part wb D jClasses (jTy cI cA cL) A) {post : Int32 → jS → Prop} {σ : jS} {v1 v2 : Int32} (h : p_M_part σ v1 v2 post) : jv_V p l e (rmk 2 0 0) s m args below meth c D jClasses A 5 0 0 (MQ below (va_Qi post (jv_End D jClasses (jTy cI cA cL) A (fun σ => mw ad cI cA σ F)) A) args s 0 0 A) (mw ad cI cA σ F) [(0, .ref (ad 0)), (1, .int v1), (2, .int v2)] 0 [] := by
  obtain ⟨B, hml, hown, hts, hK, hA, hr, hlk, hnm⟩ := id X
  unfold p_M_part at h
  refine jv_aload_n B d_M_part_0 rfl 0 rfl ?_
  refine jv_iconst (v := 0) B d_M_part_1 (by decide) ?_
  refine fs_M_code B hts hown hK d_M_part_2 ?_
  refine jv_aload_n B d_M_part_5 rfl 0 rfl ?_
  refine jv_civ (As := []) B hml hown hts hK hA (c_M_goesOn (ad := ad) (cI := cI) (cA := cA) (cL := cL) (F := F) h) (cwV 0 hts g_M_108 rfl rfl rfl hd_M_goesOn ⟨Nat.le_of_ble_eq_true rfl, Nat.le_of_ble_eq_true rfl⟩) 0 5 rfl rfl rfl rfl (Nat.le_of_ble_eq_true rfl) d_M_part_6 ⟨Nat.le_of_ble_eq_true rfl, Nat.le_of_ble_eq_true rfl⟩ rfl (fun r2 σ1 h => ?_)
  refine jv_if_eq (tgt := 16) B d_M_part_9 (by decide) (fun hc => ?_) (fun hc => ?_)
  · replace h := h.1 hc
    refine jv_iconst (v := (-1)) B d_M_part_16 (by decide) ?_
    exact jv_iret B hr rfl hlk hK _ rfl h d_M_part_17
  · replace h := h.2 hc
    refine jv_iload_n B d_M_part_12 rfl 1 rfl ?_
    refine jv_if_ge (tgt := 18) B d_M_part_13 (by decide) (fun hc => ?_) (fun hc => ?_)
    · replace h := h.1 hc
      refine jv_iconst (v := 0) B d_M_part_18 (by decide) ?_
      refine jv_istore_n (lv' := [(3, .int 0), (0, .ref (ad 0)), (1, .int v1), (2, .int v2)]) B d_M_part_19 rfl (by decide) rfl ?_
      refine jv_iconst (v := 0) B d_M_part_20 (by decide) ?_
      refine jv_istore (lv' := [(4, .int 0), (3, .int 0), (0, .ref (ad 0)), (1, .int v1), (2, .int v2)]) B d_M_part_21 (by decide) rfl ?_
      refine jv_sub [2, 3, 4, 1, 0] rfl ?_
      obtain ⟨n9, h⟩ := h
      exact w_M_part_23 X n9 _ _ _ h
    · replace h := h.2 hc
      refine jv_iconst (v := (-1)) B d_M_part_16 (by decide) ?_
      exact jv_iret B hr rfl hlk hK _ rfl h d_M_part_17
theorem c_M_part {l : Launch} {D : va_G} {A : Nat → Prop} {ad : Nat → Nat} {cI cA cL : ClassId} {F : va_W} {σ : jS} {v1 v2 : Int32} {post : Int32 → jS → Prop} (h : p_M_part σ v1 v2 post) : Met l y_M_part (Cond.code y_M_part b_M_part 5 (some .int) :: wb) (rmk 2 0 0) (jv_Pre D jClasses (jTy cI cA cL) A (mw ad cI cA σ F) [.ref (ad 0), .int v1, .int v2]) (va_Qi post (jv_End D jClasses (jTy cI cA cL) A (fun σ => mw ad cI cA σ F)) A) 0 0 A :=
  jv_ofB (by decide) (Nat.le_of_ble_eq_true rfl) (fun p e s m below meth c X => w_M_part_0 X h)
set_option maxRecDepth 100000 in
theorem w_M_phase_0 (X : jv_C p s m args meth c b_M_phase 1 (some .int) y_M_phase wb D jClasses (jTy cI cA cL) A) {post : Int32 → jS → Prop} {σ : jS} (h : p_M_phase σ post) : jv_V p l e (rmk 1 0 0) s m args below meth c D jClasses A 1 0 0 (MQ below (va_Qi post (jv_End D jClasses (jTy cI cA cL) A (fun σ => mw ad cI cA σ F)) A) args s 0 0 A) (mw ad cI cA σ F) [(0, .ref (ad 0))] 0 [] := by
  obtain ⟨B, hml, hown, hts, hK, hA, hr, hlk, hnm⟩ := id X
  unfold p_M_phase at h
  refine jv_aload_n B d_M_phase_0 rfl 0 rfl ?_
  refine jv_iconst (v := 0) B d_M_phase_1 (by decide) ?_
  refine fs_M_code B hts hown hK d_M_phase_2 ?_
  refine jv_aload_n B d_M_phase_5 rfl 0 rfl ?_
  refine fg_M_phase B hts hown hK d_M_phase_6 ?_
  exact jv_iret B hr rfl hlk hK _ rfl h d_M_phase_9
theorem c_M_phase {l : Launch} {D : va_G} {A : Nat → Prop} {ad : Nat → Nat} {cI cA cL : ClassId} {F : va_W} {σ : jS} {post : Int32 → jS → Prop} (h : p_M_phase σ post) : Met l y_M_phase (Cond.code y_M_phase b_M_phase 1 (some .int) :: wb) (rmk 1 0 0) (jv_Pre D jClasses (jTy cI cA cL) A (mw ad cI cA σ F) [.ref (ad 0)]) (va_Qi post (jv_End D jClasses (jTy cI cA cL) A (fun σ => mw ad cI cA σ F)) A) 0 0 A :=
  jv_ofB (by decide) (Nat.le_of_ble_eq_true rfl) (fun p e s m below meth c X => w_M_phase_0 X h)
set_option maxRecDepth 100000 in
theorem w_M_out_0 (X : jv_C p s m args meth c b_M_out 2 (some .int) y_M_out wb D jClasses (jTy cI cA cL) A) {post : Int32 → jS → Prop} {σ : jS} {v1 : Int32} (h : p_M_out σ v1 post) : jv_V p l e (rmk 2 0 0) s m args below meth c D jClasses A 2 0 0 (MQ below (va_Qi post (jv_End D jClasses (jTy cI cA cL) A (fun σ => mw ad cI cA σ F)) A) args s 0 0 A) (mw ad cI cA σ F) [(0, .ref (ad 0)), (1, .int v1)] 0 [] := by
  obtain ⟨B, hml, hown, hts, hK, hA, hr, hlk, hnm⟩ := id X
  unfold p_M_out at h
  refine jv_aload_n B d_M_out_0 rfl 0 rfl ?_
  refine jv_iconst (v := 0) B d_M_out_1 (by decide) ?_
  refine fs_M_code B hts hown hK d_M_out_2 ?_
  refine jv_aload_n B d_M_out_5 rfl 0 rfl ?_
  refine jv_iload_n B d_M_out_6 rfl 1 rfl ?_
  refine jv_civ (As := [.int v1]) B hml hown hts hK hA (c_M_isSector (ad := ad) (cI := cI) (cA := cA) (cL := cL) (F := F) h) (cwV 1 hts g_M_50 rfl rfl rfl hd_M_isSector ⟨Nat.le_of_ble_eq_true rfl, Nat.le_of_ble_eq_true rfl⟩) 0 5 rfl rfl rfl rfl (Nat.le_of_ble_eq_true rfl) d_M_out_7 ⟨Nat.le_of_ble_eq_true rfl, Nat.le_of_ble_eq_true rfl⟩ rfl (fun r2 σ1 h => ?_)
  refine jv_if_eq (tgt := 22) B d_M_out_10 (by decide) (fun hc => ?_) (fun hc => ?_)
  · replace h := h.1 hc
    refine jv_iconst (v := 0) B d_M_out_22 (by decide) ?_
    exact jv_iret B hr rfl hlk hK _ rfl h d_M_out_23
  · replace h := h.2 hc
    refine jv_aload_n B d_M_out_13 rfl 0 rfl ?_
    refine fg_M_target B hts hown hK d_M_out_14 ?_
    refine jv_iload_n B d_M_out_17 rfl 1 rfl ?_
    refine ld_m_4 B hK h.1 d_M_out_18 ?_
    replace h := h.2
    refine jv_goto (tgt := 23) B d_M_out_19 (by decide) ?_
    exact jv_iret B hr rfl hlk hK _ rfl h d_M_out_23
theorem c_M_out {l : Launch} {D : va_G} {A : Nat → Prop} {ad : Nat → Nat} {cI cA cL : ClassId} {F : va_W} {σ : jS} {v1 : Int32} {post : Int32 → jS → Prop} (h : p_M_out σ v1 post) : Met l y_M_out (Cond.code y_M_out b_M_out 2 (some .int) :: wb) (rmk 2 0 0) (jv_Pre D jClasses (jTy cI cA cL) A (mw ad cI cA σ F) [.ref (ad 0), .int v1]) (va_Qi post (jv_End D jClasses (jTy cI cA cL) A (fun σ => mw ad cI cA σ F)) A) 0 0 A :=
  jv_ofB (by decide) (Nat.le_of_ble_eq_true rfl) (fun p e s m below meth c X => w_M_out_0 X h)
set_option maxRecDepth 100000 in
theorem w_M_reads_0 (X : jv_C p s m args meth c b_M_reads 2 (some .int) y_M_reads wb D jClasses (jTy cI cA cL) A) {post : Int32 → jS → Prop} {σ : jS} {v1 : Int32} (h : p_M_reads σ v1 post) : jv_V p l e (rmk 2 0 0) s m args below meth c D jClasses A 2 0 0 (MQ below (va_Qi post (jv_End D jClasses (jTy cI cA cL) A (fun σ => mw ad cI cA σ F)) A) args s 0 0 A) (mw ad cI cA σ F) [(0, .ref (ad 0)), (1, .int v1)] 0 [] := by
  obtain ⟨B, hml, hown, hts, hK, hA, hr, hlk, hnm⟩ := id X
  unfold p_M_reads at h
  refine jv_aload_n B d_M_reads_0 rfl 0 rfl ?_
  refine jv_iconst (v := 0) B d_M_reads_1 (by decide) ?_
  refine fs_M_code B hts hown hK d_M_reads_2 ?_
  refine jv_aload_n B d_M_reads_5 rfl 0 rfl ?_
  refine jv_iload_n B d_M_reads_6 rfl 1 rfl ?_
  refine jv_civ (As := [.int v1]) B hml hown hts hK hA (c_M_isSector (ad := ad) (cI := cI) (cA := cA) (cL := cL) (F := F) h) (cwV 1 hts g_M_50 rfl rfl rfl hd_M_isSector ⟨Nat.le_of_ble_eq_true rfl, Nat.le_of_ble_eq_true rfl⟩) 0 5 rfl rfl rfl rfl (Nat.le_of_ble_eq_true rfl) d_M_reads_7 ⟨Nat.le_of_ble_eq_true rfl, Nat.le_of_ble_eq_true rfl⟩ rfl (fun r2 σ1 h => ?_)
  refine jv_if_eq (tgt := 22) B d_M_reads_10 (by decide) (fun hc => ?_) (fun hc => ?_)
  · replace h := h.1 hc
    refine jv_iconst (v := 0) B d_M_reads_22 (by decide) ?_
    exact jv_iret B hr rfl hlk hK _ rfl h d_M_reads_23
  · replace h := h.2 hc
    refine jv_aload_n B d_M_reads_13 rfl 0 rfl ?_
    refine fg_M_reads B hts hown hK d_M_reads_14 ?_
    refine jv_iload_n B d_M_reads_17 rfl 1 rfl ?_
    refine ld_m_3 B hK h.1 d_M_reads_18 ?_
    replace h := h.2
    refine jv_goto (tgt := 23) B d_M_reads_19 (by decide) ?_
    exact jv_iret B hr rfl hlk hK _ rfl h d_M_reads_23
theorem c_M_reads {l : Launch} {D : va_G} {A : Nat → Prop} {ad : Nat → Nat} {cI cA cL : ClassId} {F : va_W} {σ : jS} {v1 : Int32} {post : Int32 → jS → Prop} (h : p_M_reads σ v1 post) : Met l y_M_reads (Cond.code y_M_reads b_M_reads 2 (some .int) :: wb) (rmk 2 0 0) (jv_Pre D jClasses (jTy cI cA cL) A (mw ad cI cA σ F) [.ref (ad 0), .int v1]) (va_Qi post (jv_End D jClasses (jTy cI cA cL) A (fun σ => mw ad cI cA σ F)) A) 0 0 A :=
  jv_ofB (by decide) (Nat.le_of_ble_eq_true rfl) (fun p e s m below meth c X => w_M_reads_0 X h)
set_option maxRecDepth 100000 in
theorem w_M_made_0 (X : jv_C p s m args meth c b_M_made 2 (some .int) y_M_made wb D jClasses (jTy cI cA cL) A) {post : Int32 → jS → Prop} {σ : jS} {v1 : Int32} (h : p_M_made σ v1 post) : jv_V p l e (rmk 1 0 0) s m args below meth c D jClasses A 2 0 0 (MQ below (va_Qi post (jv_End D jClasses (jTy cI cA cL) A (fun σ => mw ad cI cA σ F)) A) args s 0 0 A) (mw ad cI cA σ F) [(0, .ref (ad 0)), (1, .int v1)] 0 [] := by
  obtain ⟨B, hml, hown, hts, hK, hA, hr, hlk, hnm⟩ := id X
  unfold p_M_made at h
  refine jv_aload_n B d_M_made_0 rfl 0 rfl ?_
  refine jv_iconst (v := 0) B d_M_made_1 (by decide) ?_
  refine fs_M_code B hts hown hK d_M_made_2 ?_
  refine jv_iload_n B d_M_made_5 rfl 1 rfl ?_
  refine jv_if_eq (tgt := 16) B d_M_made_6 (by decide) (fun hc => ?_) (fun hc => ?_)
  · replace h := h.1 hc
    refine jv_aload_n B d_M_made_16 rfl 0 rfl ?_
    refine fg_M_made B hts hown hK d_M_made_17 ?_
    exact jv_iret B hr rfl hlk hK _ rfl h d_M_made_20
  · replace h := h.2 hc
    refine jv_aload_n B d_M_made_9 rfl 0 rfl ?_
    refine fg_M_failed B hts hown hK d_M_made_10 ?_
    refine jv_goto (tgt := 20) B d_M_made_13 (by decide) ?_
    exact jv_iret B hr rfl hlk hK _ rfl h d_M_made_20
theorem c_M_made {l : Launch} {D : va_G} {A : Nat → Prop} {ad : Nat → Nat} {cI cA cL : ClassId} {F : va_W} {σ : jS} {v1 : Int32} {post : Int32 → jS → Prop} (h : p_M_made σ v1 post) : Met l y_M_made (Cond.code y_M_made b_M_made 2 (some .int) :: wb) (rmk 1 0 0) (jv_Pre D jClasses (jTy cI cA cL) A (mw ad cI cA σ F) [.ref (ad 0), .int v1]) (va_Qi post (jv_End D jClasses (jTy cI cA cL) A (fun σ => mw ad cI cA σ F)) A) 0 0 A :=
  jv_ofB (by decide) (Nat.le_of_ble_eq_true rfl) (fun p e s m below meth c X => w_M_made_0 X h)
set_option maxRecDepth 100000 in
theorem w_M_image_0 (X : jv_C p s m args meth c b_M_image 3 (some .int) y_M_image wb D jClasses (jTy cI cA cL) A) {post : Int32 → jS → Prop} {σ : jS} {v1 v2 : Int32} (h : p_M_image σ v1 v2 post) : jv_V p l e (rmk 2 0 0) s m args below meth c D jClasses A 3 0 0 (MQ below (va_Qi post (jv_End D jClasses (jTy cI cA cL) A (fun σ => mw ad cI cA σ F)) A) args s 0 0 A) (mw ad cI cA σ F) [(0, .ref (ad 0)), (1, .int v1), (2, .int v2)] 0 [] := by
  obtain ⟨B, hml, hown, hts, hK, hA, hr, hlk, hnm⟩ := id X
  unfold p_M_image at h
  refine jv_aload_n B d_M_image_0 rfl 0 rfl ?_
  refine jv_iconst (v := 0) B d_M_image_1 (by decide) ?_
  refine fs_M_code B hts hown hK d_M_image_2 ?_
  refine jv_iload_n B d_M_image_5 rfl 1 rfl ?_
  refine jv_if_lt (tgt := 25) B d_M_image_6 (by decide) (fun hc => ?_) (fun hc => ?_)
  · replace h := h.1 hc
    refine jv_iconst (v := (-1)) B d_M_image_25 (by decide) ?_
    refine jv_goto (tgt := 35) B d_M_image_26 (by decide) ?_
    exact jv_iret B hr rfl hlk hK _ rfl h d_M_image_35
  · replace h := h.2 hc
    refine jv_iload_n B d_M_image_9 rfl 1 rfl ?_
    refine jv_iconst (v := 1) B d_M_image_10 (by decide) ?_
    refine jv_icmp_gt (tgt := 25) B d_M_image_11 (by decide) (fun hc => ?_) (fun hc => ?_)
    · replace h := h.1 hc
      refine jv_iconst (v := (-1)) B d_M_image_25 (by decide) ?_
      refine jv_goto (tgt := 35) B d_M_image_26 (by decide) ?_
      exact jv_iret B hr rfl hlk hK _ rfl h d_M_image_35
    · replace h := h.2 hc
      refine jv_iload_n B d_M_image_14 rfl 2 rfl ?_
      refine jv_if_lt (tgt := 25) B d_M_image_15 (by decide) (fun hc => ?_) (fun hc => ?_)
      · replace h := h.1 hc
        refine jv_iconst (v := (-1)) B d_M_image_25 (by decide) ?_
        refine jv_goto (tgt := 35) B d_M_image_26 (by decide) ?_
        exact jv_iret B hr rfl hlk hK _ rfl h d_M_image_35
      · replace h := h.2 hc
        refine jv_iload_n B d_M_image_18 rfl 2 rfl ?_
        refine jv_sipush (v := 139) B d_M_image_19 (by decide) ?_
        refine jv_icmp_le (tgt := 29) B d_M_image_22 (by decide) (fun hc => ?_) (fun hc => ?_)
        · replace h := h.1 hc
          refine jv_aload_n B d_M_image_29 rfl 0 rfl ?_
          refine jv_iload_n B d_M_image_30 rfl 1 rfl ?_
          refine jv_iload_n B d_M_image_31 rfl 2 rfl ?_
          refine jv_civ (As := [.int v1, .int v2]) B hml hown hts hK hA (c_M_at (ad := ad) (cI := cI) (cA := cA) (cL := cL) (F := F) h) (cwV 2 hts g_M_136 rfl rfl rfl hd_M_at ⟨Nat.le_of_ble_eq_true rfl, Nat.le_of_ble_eq_true rfl⟩) 0 5 rfl rfl rfl rfl (Nat.le_of_ble_eq_true rfl) d_M_image_32 ⟨Nat.le_of_ble_eq_true rfl, Nat.le_of_ble_eq_true rfl⟩ rfl (fun r2 σ1 h => ?_)
          exact jv_iret B hr rfl hlk hK _ rfl h d_M_image_35
        · replace h := h.2 hc
          refine jv_iconst (v := (-1)) B d_M_image_25 (by decide) ?_
          refine jv_goto (tgt := 35) B d_M_image_26 (by decide) ?_
          exact jv_iret B hr rfl hlk hK _ rfl h d_M_image_35
theorem c_M_image {l : Launch} {D : va_G} {A : Nat → Prop} {ad : Nat → Nat} {cI cA cL : ClassId} {F : va_W} {σ : jS} {v1 v2 : Int32} {post : Int32 → jS → Prop} (h : p_M_image σ v1 v2 post) : Met l y_M_image (Cond.code y_M_image b_M_image 3 (some .int) :: wb) (rmk 2 0 0) (jv_Pre D jClasses (jTy cI cA cL) A (mw ad cI cA σ F) [.ref (ad 0), .int v1, .int v2]) (va_Qi post (jv_End D jClasses (jTy cI cA cL) A (fun σ => mw ad cI cA σ F)) A) 0 0 A :=
  jv_ofB (by decide) (Nat.le_of_ble_eq_true rfl) (fun p e s m below meth c X => w_M_image_0 X h)
end JM

theorem kw_20 : Cond.methodLink rn_R 1 objectInit ∈ wb := wb_t 20 (by decide +kernel) (by decide +kernel)
theorem kw_23 : Cond.classLink rn_R 7 rn_D ∈ wb := wb_t 23 (by decide +kernel) (by decide +kernel)
theorem kw_24 : Cond.instantiable rn_D 7 ∈ wb := wb_t 24 (by decide +kernel) (by decide +kernel)
theorem kw_26 : Cond.instanceMethod y_D_init ∈ wb := wb_t 26 (by decide +kernel) (by decide +kernel)
theorem kw_27 : Cond.code y_D_init b_D_init 1 none ∈ wb := wb_t 27 (by decide +kernel) (by decide +kernel)
theorem kw_28 : Cond.methodLink rn_D 3 objectInit ∈ wb := wb_t 28 (by decide +kernel) (by decide +kernel)
theorem kw_52 : Cond.classLink rn_R 16 rn_S ∈ wb := wb_t 52 (by decide +kernel) (by decide +kernel)
theorem kw_53 : Cond.instantiable rn_S 2 ∈ wb := wb_t 53 (by decide +kernel) (by decide +kernel)
theorem kw_55 : Cond.instanceMethod y_S_init ∈ wb := wb_t 55 (by decide +kernel) (by decide +kernel)
theorem kw_56 : Cond.code y_S_init b_S_init 1 none ∈ wb := wb_t 56 (by decide +kernel) (by decide +kernel)
theorem kw_57 : Cond.methodLink rn_S 3 objectInit ∈ wb := wb_t 57 (by decide +kernel) (by decide +kernel)
theorem kw_65 : Cond.classLink rn_R 23 rn_K ∈ wb := wb_t 65 (by decide +kernel) (by decide +kernel)
theorem kw_66 : Cond.instantiable rn_K 8 ∈ wb := wb_t 66 (by decide +kernel) (by decide +kernel)
theorem kw_67 : Cond.methodLink rn_R 25 y_K_init ∈ wb := wb_t 67 (by decide +kernel) (by decide +kernel)
theorem kw_68 : Cond.instanceMethod y_K_init ∈ wb := wb_t 68 (by decide +kernel) (by decide +kernel)
theorem kw_69 : Cond.code y_K_init b_K_init 3 none ∈ wb := wb_t 69 (by decide +kernel) (by decide +kernel)
theorem kw_70 : Cond.methodLink rn_K 3 objectInit ∈ wb := wb_t 70 (by decide +kernel) (by decide +kernel)
theorem kw_96 : Cond.classLink rn_R 32 rn_V ∈ wb := wb_t 96 (by decide +kernel) (by decide +kernel)
theorem kw_97 : Cond.instantiable rn_V 3 ∈ wb := wb_t 97 (by decide +kernel) (by decide +kernel)
theorem kw_99 : Cond.instanceMethod y_V_init ∈ wb := wb_t 99 (by decide +kernel) (by decide +kernel)
theorem kw_100 : Cond.code y_V_init b_V_init 1 none ∈ wb := wb_t 100 (by decide +kernel) (by decide +kernel)
theorem kw_101 : Cond.methodLink rn_V 3 objectInit ∈ wb := wb_t 101 (by decide +kernel) (by decide +kernel)
theorem kw_565 : Cond.methodLink rn_M 1 objectInit ∈ wb := wb_t 565 (by decide +kernel) (by decide +kernel)
theorem d_D_init_0 : decode b_D_init 0 = .ok (.aload_n 0, 1) := by decide +kernel
theorem d_D_init_1 : decode b_D_init 1 = .ok (.invokespecial 3, 3) := by decide +kernel
theorem d_D_init_4 : decode b_D_init 4 = .ok (.aload_n 0, 1) := by decide +kernel
theorem d_D_init_5 : decode b_D_init 5 = .ok (.bipush 64, 2) := by decide +kernel
theorem d_D_init_7 : decode b_D_init 7 = .ok (.newarray .int, 2) := by decide +kernel
theorem d_D_init_9 : decode b_D_init 9 = .ok (.putfield 9, 3) := by decide +kernel
theorem d_D_init_12 : decode b_D_init 12 = .ok (.aload_n 0, 1) := by decide +kernel
theorem d_D_init_13 : decode b_D_init 13 = .ok (.bipush 64, 2) := by decide +kernel
theorem d_D_init_15 : decode b_D_init 15 = .ok (.newarray .int, 2) := by decide +kernel
theorem d_D_init_17 : decode b_D_init 17 = .ok (.putfield 15, 3) := by decide +kernel
theorem d_D_init_20 : decode b_D_init 20 = .ok (.aload_n 0, 1) := by decide +kernel
theorem d_D_init_21 : decode b_D_init 21 = .ok (.bipush 64, 2) := by decide +kernel
theorem d_D_init_23 : decode b_D_init 23 = .ok (.newarray .int, 2) := by decide +kernel
theorem d_D_init_25 : decode b_D_init 25 = .ok (.putfield 18, 3) := by decide +kernel
theorem d_D_init_28 : decode b_D_init 28 = .ok (.aload_n 0, 1) := by decide +kernel
theorem d_D_init_29 : decode b_D_init 29 = .ok (.bipush 64, 2) := by decide +kernel
theorem d_D_init_31 : decode b_D_init 31 = .ok (.newarray .int, 2) := by decide +kernel
theorem d_D_init_33 : decode b_D_init 33 = .ok (.putfield 21, 3) := by decide +kernel
theorem d_D_init_36 : decode b_D_init 36 = .ok (.return_, 1) := by decide +kernel
theorem d_S_init_0 : decode b_S_init 0 = .ok (.aload_n 0, 1) := by decide +kernel
theorem d_S_init_1 : decode b_S_init 1 = .ok (.invokespecial 3, 3) := by decide +kernel
theorem d_S_init_4 : decode b_S_init 4 = .ok (.aload_n 0, 1) := by decide +kernel
theorem d_S_init_5 : decode b_S_init 5 = .ok (.bipush 64, 2) := by decide +kernel
theorem d_S_init_7 : decode b_S_init 7 = .ok (.newarray .int, 2) := by decide +kernel
theorem d_S_init_9 : decode b_S_init 9 = .ok (.putfield 9, 3) := by decide +kernel
theorem d_S_init_12 : decode b_S_init 12 = .ok (.return_, 1) := by decide +kernel
theorem d_K_init_0 : decode b_K_init 0 = .ok (.aload_n 0, 1) := by decide +kernel
theorem d_K_init_1 : decode b_K_init 1 = .ok (.invokespecial 3, 3) := by decide +kernel
theorem d_K_init_4 : decode b_K_init 4 = .ok (.aload_n 0, 1) := by decide +kernel
theorem d_K_init_5 : decode b_K_init 5 = .ok (.aload_n 1, 1) := by decide +kernel
theorem d_K_init_6 : decode b_K_init 6 = .ok (.putfield 9, 3) := by decide +kernel
theorem d_K_init_9 : decode b_K_init 9 = .ok (.aload_n 0, 1) := by decide +kernel
theorem d_K_init_10 : decode b_K_init 10 = .ok (.aload_n 2, 1) := by decide +kernel
theorem d_K_init_11 : decode b_K_init 11 = .ok (.putfield 15, 3) := by decide +kernel
theorem d_K_init_14 : decode b_K_init 14 = .ok (.aload_n 0, 1) := by decide +kernel
theorem d_K_init_15 : decode b_K_init 15 = .ok (.iconst (-1), 1) := by decide +kernel
theorem d_K_init_16 : decode b_K_init 16 = .ok (.putfield 19, 3) := by decide +kernel
theorem d_K_init_19 : decode b_K_init 19 = .ok (.return_, 1) := by decide +kernel
theorem d_V_init_0 : decode b_V_init 0 = .ok (.aload_n 0, 1) := by decide +kernel
theorem d_V_init_1 : decode b_V_init 1 = .ok (.invokespecial 3, 3) := by decide +kernel
theorem d_V_init_4 : decode b_V_init 4 = .ok (.aload_n 0, 1) := by decide +kernel
theorem d_V_init_5 : decode b_V_init 5 = .ok (.iconst 2, 1) := by decide +kernel
theorem d_V_init_6 : decode b_V_init 6 = .ok (.sipush 140, 3) := by decide +kernel
theorem d_V_init_9 : decode b_V_init 9 = .ok (.multianewarray 9 2, 4) := by decide +kernel
theorem d_V_init_13 : decode b_V_init 13 = .ok (.putfield 11, 3) := by decide +kernel
theorem d_V_init_16 : decode b_V_init 16 = .ok (.aload_n 0, 1) := by decide +kernel
theorem d_V_init_17 : decode b_V_init 17 = .ok (.sipush 140, 3) := by decide +kernel
theorem d_V_init_20 : decode b_V_init 20 = .ok (.newarray .int, 2) := by decide +kernel
theorem d_V_init_22 : decode b_V_init 22 = .ok (.putfield 16, 3) := by decide +kernel
theorem d_V_init_25 : decode b_V_init 25 = .ok (.return_, 1) := by decide +kernel
theorem d_R_init_0 : decode b_R_init 0 = .ok (.aload_n 0, 1) := by decide +kernel
theorem d_R_init_1 : decode b_R_init 1 = .ok (.invokespecial 1, 3) := by decide +kernel
theorem d_R_init_4 : decode b_R_init 4 = .ok (.aload_n 0, 1) := by decide +kernel
theorem d_R_init_5 : decode b_R_init 5 = .ok (.new 7, 3) := by decide +kernel
theorem d_R_init_8 : decode b_R_init 8 = .ok (.dup, 1) := by decide +kernel
theorem d_R_init_9 : decode b_R_init 9 = .ok (.invokespecial 9, 3) := by decide +kernel
theorem d_R_init_12 : decode b_R_init 12 = .ok (.putfield 10, 3) := by decide +kernel
theorem d_R_init_15 : decode b_R_init 15 = .ok (.aload_n 0, 1) := by decide +kernel
theorem d_R_init_16 : decode b_R_init 16 = .ok (.new 16, 3) := by decide +kernel
theorem d_R_init_19 : decode b_R_init 19 = .ok (.dup, 1) := by decide +kernel
theorem d_R_init_20 : decode b_R_init 20 = .ok (.invokespecial 18, 3) := by decide +kernel
theorem d_R_init_23 : decode b_R_init 23 = .ok (.putfield 19, 3) := by decide +kernel
theorem d_R_init_26 : decode b_R_init 26 = .ok (.aload_n 0, 1) := by decide +kernel
theorem d_R_init_27 : decode b_R_init 27 = .ok (.new 23, 3) := by decide +kernel
theorem d_R_init_30 : decode b_R_init 30 = .ok (.dup, 1) := by decide +kernel
theorem d_R_init_31 : decode b_R_init 31 = .ok (.aload_n 0, 1) := by decide +kernel
theorem d_R_init_32 : decode b_R_init 32 = .ok (.getfield 10, 3) := by decide +kernel
theorem d_R_init_35 : decode b_R_init 35 = .ok (.aload_n 0, 1) := by decide +kernel
theorem d_R_init_36 : decode b_R_init 36 = .ok (.getfield 19, 3) := by decide +kernel
theorem d_R_init_39 : decode b_R_init 39 = .ok (.invokespecial 25, 3) := by decide +kernel
theorem d_R_init_42 : decode b_R_init 42 = .ok (.putfield 28, 3) := by decide +kernel
theorem d_R_init_45 : decode b_R_init 45 = .ok (.aload_n 0, 1) := by decide +kernel
theorem d_R_init_46 : decode b_R_init 46 = .ok (.new 32, 3) := by decide +kernel
theorem d_R_init_49 : decode b_R_init 49 = .ok (.dup, 1) := by decide +kernel
theorem d_R_init_50 : decode b_R_init 50 = .ok (.invokespecial 34, 3) := by decide +kernel
theorem d_R_init_53 : decode b_R_init 53 = .ok (.putfield 35, 3) := by decide +kernel
theorem d_R_init_56 : decode b_R_init 56 = .ok (.return_, 1) := by decide +kernel
theorem d_M_init_0 : decode b_M_init 0 = .ok (.aload_n 0, 1) := by decide +kernel
theorem d_M_init_1 : decode b_M_init 1 = .ok (.invokespecial 1, 3) := by decide +kernel
theorem d_M_init_4 : decode b_M_init 4 = .ok (.aload_n 0, 1) := by decide +kernel
theorem d_M_init_5 : decode b_M_init 5 = .ok (.bipush 64, 2) := by decide +kernel
theorem d_M_init_7 : decode b_M_init 7 = .ok (.newarray .int, 2) := by decide +kernel
theorem d_M_init_9 : decode b_M_init 9 = .ok (.putfield 7, 3) := by decide +kernel
theorem d_M_init_12 : decode b_M_init 12 = .ok (.aload_n 0, 1) := by decide +kernel
theorem d_M_init_13 : decode b_M_init 13 = .ok (.bipush 64, 2) := by decide +kernel
theorem d_M_init_15 : decode b_M_init 15 = .ok (.newarray .int, 2) := by decide +kernel
theorem d_M_init_17 : decode b_M_init 17 = .ok (.putfield 13, 3) := by decide +kernel
theorem d_M_init_20 : decode b_M_init 20 = .ok (.aload_n 0, 1) := by decide +kernel
theorem d_M_init_21 : decode b_M_init 21 = .ok (.bipush 64, 2) := by decide +kernel
theorem d_M_init_23 : decode b_M_init 23 = .ok (.newarray .int, 2) := by decide +kernel
theorem d_M_init_25 : decode b_M_init 25 = .ok (.putfield 16, 3) := by decide +kernel
theorem d_M_init_28 : decode b_M_init 28 = .ok (.aload_n 0, 1) := by decide +kernel
theorem d_M_init_29 : decode b_M_init 29 = .ok (.bipush 64, 2) := by decide +kernel
theorem d_M_init_31 : decode b_M_init 31 = .ok (.newarray .int, 2) := by decide +kernel
theorem d_M_init_33 : decode b_M_init 33 = .ok (.putfield 19, 3) := by decide +kernel
theorem d_M_init_36 : decode b_M_init 36 = .ok (.aload_n 0, 1) := by decide +kernel
theorem d_M_init_37 : decode b_M_init 37 = .ok (.iconst (-1), 1) := by decide +kernel
theorem d_M_init_38 : decode b_M_init 38 = .ok (.putfield 22, 3) := by decide +kernel
theorem d_M_init_41 : decode b_M_init 41 = .ok (.aload_n 0, 1) := by decide +kernel
theorem d_M_init_42 : decode b_M_init 42 = .ok (.bipush 64, 2) := by decide +kernel
theorem d_M_init_44 : decode b_M_init 44 = .ok (.newarray .int, 2) := by decide +kernel
theorem d_M_init_46 : decode b_M_init 46 = .ok (.putfield 26, 3) := by decide +kernel
theorem d_M_init_49 : decode b_M_init 49 = .ok (.aload_n 0, 1) := by decide +kernel
theorem d_M_init_50 : decode b_M_init 50 = .ok (.sipush 280, 3) := by decide +kernel
theorem d_M_init_53 : decode b_M_init 53 = .ok (.newarray .int, 2) := by decide +kernel
theorem d_M_init_55 : decode b_M_init 55 = .ok (.putfield 29, 3) := by decide +kernel
theorem d_M_init_58 : decode b_M_init 58 = .ok (.aload_n 0, 1) := by decide +kernel
theorem d_M_init_59 : decode b_M_init 59 = .ok (.sipush 140, 3) := by decide +kernel
theorem d_M_init_62 : decode b_M_init 62 = .ok (.newarray .int, 2) := by decide +kernel
theorem d_M_init_64 : decode b_M_init 64 = .ok (.putfield 32, 3) := by decide +kernel
theorem d_M_init_67 : decode b_M_init 67 = .ok (.return_, 1) := by decide +kernel
/-! making: new objects, new arrays, constructors by their own cells alone -/
theorem vr_outer (c : ClassId) (N h0 : Nat) : ∀ i : Nat, Jvm.Free.Multi.outerC c N h0 i = arrV c N (fun j => va_rf (if j < i then some (h0 + 1 + j) else none))
  | 0 => by
    show ({ cls := c, slots := Array.replicate N .null, vm := .none } : Cell) = _
    rw [arrV_new]
    refine congrArg (arrV c N) (funext fun j => ?_)
    simp [va_rf]
  | i + 1 => by
    show (Jvm.Free.Multi.outerC c N h0 i).setSlot i (.ref (h0 + 1 + i)) = _
    rw [vr_outer c N h0 i, arrV_store]
    refine congrArg (arrV c N) (funext fun j => ?_)
    by_cases e : j = i
    · subst e
      simp [updV, va_rf]
    · by_cases h : j < i
      · simp [updV, e, h, Nat.lt_succ_of_lt h]
      · simp [updV, e, h, show ¬ j < i + 1 by omega]
theorem aov_warm {s U : State} (hW : s.WarmedH U.vm) (h : (Cond.arrayOver (.array .int)).before #[] s = true) : (Cond.arrayOver (.array .int)).before #[] U = true := Cond.overAtom_setVm (s := s) hW.alike _ rfl h
theorem kac_i : Cond.arrayClass .int ∈ wb := wb_t 51 (by decide +kernel) (by decide +kernel)
theorem kac_l : Cond.arrayClass .long ∈ wb := wb_t 785 (by decide +kernel) (by decide +kernel)
theorem koi_i : Cond.instanceMethod objectInit ∈ wb := wb_t 21 (by decide +kernel) (by decide +kernel)
theorem koi_c : Cond.code objectInit ⟨#[0xb1]⟩ 1 none ∈ wb := wb_t 22 (by decide +kernel) (by decide +kernel)
theorem kmn_c : Cond.classLink rn_V 9 "[[I" ∈ wb := wb_t 102 (by decide +kernel) (by decide +kernel)
section JN
variable {p : Program} {l : Launch} {e : Env} {R : Room} {s : State} {m : MethodId} {args : Array Value} {below : List Frame} {meth : Method} {c : Code} {cells slots : Nat} {Q : State → Prop}
variable {cc : ByteArray} {pc : Nat} {st : List Value} {D : va_G} {cl : List vw_C} {A : Nat → Prop} {tys : List (ClassId × FieldType)} {ws : va_W} {nL : Nat} {lv : List (Nat × Value)} {cI cA cL : ClassId}
theorem jv_newi (B : jv_B p c cc) (hts : ∀ w ∈ wb, w.before args s = true) (hK : va_K D cl (jTy cI cA cL) s) (hA : ∀ q : Nat, s.heap.size ≤ q → A q) {n : Int32} {N : Nat} (hn : ¬ n < 0) (hN : n.toNatClampNeg = N) (hb : N * 4 ≤ 536870912) (hc : cells + 1 ≤ R.cells) (hs : slots + N ≤ R.slots) (hd : decode cc pc = .ok (.newarray .int, 2))
    (k : ∀ q : Nat, jv_V p l e R s m args below meth c D cl A nL (cells + 1) (slots + N) Q (ws ++ [(q, .inl (cI, N, .inl (fun _ => 0)))]) lv (pc + 2) (.ref q :: st)) : jv_V p l e R s m args below meth c D cl A nL cells slots Q ws lv pc (.int n :: st) := by
  intro H locs ls a b d h
  refine va_newa (atype := .int) (ty := .int) (N' := N) (a0 := (N, .inl (fun _ => 0))) B.1 B.2 (hts _ kac_i) rfl hK a b d hA (fun cA => rfl) hn hN hb hc hs hd (fun q cX H1 hK1 a1 b1 d1 => ?_)
  have e1 : s.vm.findClass ("[" ++ FieldType.int.toString) = some cX := (hK1.2 3 (cX, .int) rfl).2
  have e2 : s.vm.findClass ("[" ++ FieldType.int.toString) = some cI := (hK.2 0 (cI, .int) rfl).2
  cases e1.symm.trans e2
  exact k q H1 locs ls a1 b1 d1 h
theorem jv_newl (B : jv_B p c cc) (hts : ∀ w ∈ wb, w.before args s = true) (hK : va_K D cl (jTy cI cA cL) s) (hA : ∀ q : Nat, s.heap.size ≤ q → A q) {n : Int32} {N : Nat} (hn : ¬ n < 0) (hN : n.toNatClampNeg = N) (hb : N * 8 ≤ 536870912) (hc : cells + 1 ≤ R.cells) (hs : slots + N ≤ R.slots) (hd : decode cc pc = .ok (.newarray .long, 2))
    (k : ∀ q : Nat, jv_V p l e R s m args below meth c D cl A nL (cells + 1) (slots + N) Q (ws ++ [(q, .inl (cL, N, .inr (.inl (fun _ => 0))))]) lv (pc + 2) (.ref q :: st)) : jv_V p l e R s m args below meth c D cl A nL cells slots Q ws lv pc (.int n :: st) := by
  intro H locs ls a b d h
  refine va_newa (atype := .long) (ty := .long) (N' := N) (a0 := (N, .inr (.inl (fun _ => 0)))) B.1 B.2 (hts _ kac_l) rfl hK a b d hA (fun cA => rfl) hn hN hb hc hs hd (fun q cX H1 hK1 a1 b1 d1 => ?_)
  have e1 : s.vm.findClass ("[" ++ FieldType.long.toString) = some cX := (hK1.2 3 (cX, .long) rfl).2
  have e2 : s.vm.findClass ("[" ++ FieldType.long.toString) = some cL := (hK.2 2 (cL, .long) rfl).2
  cases e1.symm.trans e2
  exact k q H1 locs ls a1 b1 d1 h
theorem jv_newo (B : jv_B p c cc) {own C : String} {T : u_T} {N ci index : Nat} (hts : ∀ w ∈ wb, w.before args s = true) (hin : ∀ w ∈ u_ws C T N, w ∈ wb) (ty : Nat → FieldType) (hty : ∀ k, k < N → parseFieldDescriptor (T k).2.2.1 = some (ty k)) (hown : s.vm.findClass own = some m.cls) (hcl : Cond.classLink own index C ∈ wb) (hinst : Cond.instantiable C N ∈ wb) (hini : Cond.initialized C ∈ wb) (hK : va_K D cl tys s) (hA : ∀ q : Nat, s.heap.size ≤ q → A q) (hc : cl[ci]? = some (C, T, N)) {fs : List Value} (hfs : ∀ j, j < N → defaultValue (ty j) = vp_V fs j) (hcells : cells + 1 ≤ R.cells) (hslots : slots + N ≤ R.slots) (hd : decode cc pc = .ok (.new index, 3))
    (k : ∀ q : Nat, jv_V p l e R s m args below meth c D cl A nL (cells + 1) (slots + N) Q (ws ++ [(q, .inr (ci, fs))]) lv (pc + 3) (.ref q :: st)) : jv_V p l e R s m args below meth c D cl A nL cells slots Q ws lv pc st := fun H locs ls a b d h => va_new B.1 B.2 hts hin ty hty hown (hts _ hcl) (hts _ hinst) (hts _ hini) hK a b d hA hc hfs hcells hslots hd (fun q H1 a1 b1 d1 => k q H1 locs ls a1 b1 d1 h)
theorem jv_oi (B : jv_B p c cc) (hml : c.maxLocals = nL) {own : String} {idx : Nat} {x : Nat} (hts : ∀ w ∈ wb, w.before args s = true) (hown : s.vm.findClass own = some m.cls) (hl : Cond.methodLink own idx objectInit ∈ wb) (hd : decode cc pc = .ok (.invokespecial idx, 3)) (hW : (st.map fun v => v.category).sum = 0) (hR1 : 1 ≤ R.frames) (hR2 : 12 ≤ R.locals)
    (k : jv_V p l e R s m args below meth c D cl A nL cells slots Q ws lv (pc + 3) st) : jv_V p l e R s m args below meth c D cl A nL cells slots Q ws lv pc (.ref x :: st) := fun H locs ls a b d h => W.objInit B.1 B.2 hown (hts _ hl) (hts _ koi_i) (hts _ koi_c) rfl (by rw [hml]; exact h.1) rfl hd hR1 (by have := hW; show 2 * 0 + (st.map fun v => v.category).sum + 12 ≤ R.locals; omega) (k H locs ls a b d h)
theorem jv_mna (B : jv_B p c cc) {own : String} {index : Nat} (hts : ∀ w ∈ wb, w.before args s = true) (hown : s.vm.findClass own = some m.cls) (hcl : Cond.classLink own index "[[I" ∈ wb) (hov : (Cond.arrayOver (.array .int)).before #[] s = true) (hK : va_K D cl (jTy cI cA cL) s) (hA : ∀ q : Nat, s.heap.size ≤ q → A q) (hc : cells + 3 ≤ R.cells) (hs : slots + 282 ≤ R.slots) (hd : decode cc pc = .ok (.multianewarray index 2, 4))
    (k : ∀ q r0 r1 : Nat, jv_V p l e R s m args below meth c D cl A nL (cells + 3) (slots + 282) Q (ws ++ [(q, .inl (cA, 2, .inr (.inr (.inr (.inr (aaF r0 r1)))))), (r0, .inl (cI, 140, .inl (fun _ => 0))), (r1, .inl (cI, 140, .inl (fun _ => 0)))]) lv (pc + 4) (.ref q :: st)) : jv_V p l e R s m args below meth c D cl A nL cells slots Q ws lv pc (.int 140 :: .int 2 :: st) := by
  intro H locs ls hP hD hS hl T hT Xs
  obtain ⟨vm₁, cX, comp, -, fA, fC, hO, hI, X', step⟩ := Xs.multianewarray2F B.1 hown (hts _ hcl) hov (hts _ kac_i) (g := F0 m pc ls (.int 140 :: .int 2 :: st)) rfl (by rw [B.2]; exact hd) rfl (by decide) (by decide) (by decide) (by decide) (by decide) rfl rfl hc hs
  have e2 : s.vm.findClass ("[" ++ (FieldType.array .int).toString) = some cA := (hK.2 1 (cA, .array .int) rfl).2
  cases e2.symm.trans fA
  have e3 : s.vm.findClass ("[" ++ FieldType.int.toString) = some cI := (hK.2 0 (cI, .int) rfl).2
  have e4 : s.vm.findClass (FieldType.array .int).toString = some cI := e3
  cases e4.symm.trans fC
  have hTh : (T.setVm vm₁).heap = H := hT
  generalize hF : Jvm.Free.Multi.fill (T.setVm vm₁) cA cI (2 : Int32).toNatClampNeg (140 : Int32).toNatClampNeg (defaultValue .int) (2 : Int32).toNatClampNeg = F at X' step
  obtain ⟨f1, f2, -, -⟩ := Jvm.Free.Multi.fill_facts (T.setVm vm₁) cA cI (2 : Int32).toNatClampNeg (140 : Int32).toNatClampNeg (defaultValue .int) (2 : Int32).toNatClampNeg
  rw [hF, hTh] at f1 f2
  have hold : ∀ x : Nat, x < H.size → F.heap[x]? = H[x]? := fun x hx => by
    have := Jvm.Free.Multi.fill_old (T.setVm vm₁) cA cI (2 : Int32).toNatClampNeg (140 : Int32).toNatClampNeg (defaultValue .int) (a := x) (by rw [hTh]; exact hx) (2 : Int32).toNatClampNeg
    rw [hF, hTh] at this
    exact this
  have hrow : ∀ j : Nat, j < 2 → F.heap[H.size + 1 + j]? = some (vp_cell cI (140, .inl (fun _ => 0))) := fun j hj => by
    have := Jvm.Free.Multi.fill_inner (T.setVm vm₁) cA cI (2 : Int32).toNatClampNeg (140 : Int32).toNatClampNeg (defaultValue .int) (2 : Int32).toNatClampNeg j hj
    rw [hF, hTh] at this
    rw [this]
    refine congrArg some ?_
    show ({ cls := cI, slots := Array.replicate 140 (defaultValue .int), vm := .none } : Cell) = _
    rw [arrV_new]
    rfl
  have hout : Jvm.Free.Multi.outerC cA (2 : Int32).toNatClampNeg H.size (2 : Int32).toNatClampNeg = vp_cell cA (2, .inr (.inr (.inr (.inr (aaF (H.size + 1) (H.size + 2)))))) := by
    rw [vp_cell_q]
    refine (vr_outer cA 2 H.size 2).trans (congrArg (arrV cA 2) (funext fun j => ?_))
    refine congrArg va_rf ?_
    show (if j < 2 then some (H.size + 1 + j) else none) = if j < 2 then some (if j = 0 then H.size + 1 else H.size + 2) else none
    by_cases h2 : j < 2
    · rw [if_pos h2, if_pos h2]
      match j, h2 with
      | 0, _ => rfl
      | 1, _ => rfl
    · rw [if_neg h2, if_neg h2]
  rw [hout] at f2
  have f1 : F.heap.size = H.size + 3 := f1
  have hW3 : ∀ (k9 : Nat) (x : Nat × va_E), ([(H.size, .inl (cA, 2, .inr (.inr (.inr (.inr (aaF (H.size + 1) (H.size + 2))))))), (H.size + 1, .inl (cI, 140, .inl (fun _ => 0))), (H.size + 2, .inl (cI, 140, .inl (fun _ => 0)))] : va_W)[k9]? = some x → va_at D cl x F.heap ∧ x.1 = H.size + k9 := fun k9 x hx => by
    match k9, hx with
    | 0, hx => cases hx; exact ⟨f2, rfl⟩
    | 1, hx => cases hx; exact ⟨hrow 0 (by decide), rfl⟩
    | 2, hx => cases hx; exact ⟨hrow 1 (by decide), rfl⟩
    | k9 + 3, hx => cases hx
  have hP1 := (hP.kept (fun k9 x hx => hold x.1 ((hP k9 x hx).lt))).app (fun k9 x hx => (hW3 k9 x hx).1)
  have hD3 : va_D A ([(H.size, .inl (cA, 2, .inr (.inr (.inr (.inr (aaF (H.size + 1) (H.size + 2))))))), (H.size + 1, .inl (cI, 140, .inl (fun _ => 0))), (H.size + 2, .inl (cI, 140, .inl (fun _ => 0)))] : va_W) := ⟨fun i j x y hi hj hxy => by
    have h1 := (hW3 i x hi).2
    have h2 := (hW3 j y hj).2
    omega, fun k9 x hx => hA _ (by have h1 := (hW3 k9 x hx).2; have := hS.1; omega)⟩
  have hD1 := va_D.app hD hD3 (fun i j x y hi hj hxy => by
    have h1 := (hP i x hi).lt
    have h2 := (hW3 j y hj).2
    omega)
  obtain ⟨t, a1, b1⟩ := k H.size (H.size + 1) (H.size + 2) F.heap locs ls hP1 hD1 ⟨by rw [f1]; have := hS.1; omega, fun x h1 h2 => (hold x (Nat.lt_of_lt_of_le h1 hS.1)).trans (hS.2.1 x h1 h2), hS.2.2⟩ hl F rfl X'
  refine ⟨t, step t ?_, b1⟩
  have e : T.heap.size = H.size := by rw [hT]
  rw [e]
  exact a1
/-- a constructor, by its own cells alone: the rest stays -/
theorem jv_ctor {S : Type} {wf : S → va_W} {post : S → Prop} {wc wr : va_W} {mc ms : Nat} {st0 : List Value} {av : Array Value} (hA : ∀ q : Nat, s.heap.size ≤ q → A q) (isC isR : List Nat) (hnC : va_nd isC = true) (hC : isC.map (fun i => ws[i]?) = wc.map some) (hC2 : isC.filterMap (fun i => ws[i]?) = wc) (hR : isR.map (fun i => ws[i]?) = wr.map some) (hnR : va_nd isR = true) (hdis : ∀ i ∈ isR, i ∉ isC)
    (hrun : ∀ (H : Heap) (locs : List Loc) (ls : Array Slot), va_P D cl wc H → va_D (va_A wc H.size) wc → lv_has ls nL lv → va_S A s.heap H locs → va_Run p l e R s m args below meth c H locs cells slots mc ms (F0 m pc ls st0) st (va_Qv post (jv_End D cl tys (va_A wc H.size) wf) (va_A wc H.size) av) (va_A wc H.size))
    (k : ∀ u : S, post u → jv_V p l e R s m args below meth c D cl A nL (cells + mc) (slots + ms) Q (wr ++ wf u) lv (pc + 3) st) : jv_V p l e R s m args below meth c D cl A nL cells slots Q ws lv pc st0 := by
  intro H locs ls hP hD hS hl
  have hFc := va_free (wc := wc) hD hS hA isC hC
  have hDc : va_D (va_A wc H.size) wc := (hD.sub isC hnC hC).self
  refine va_callv (hrun H locs ls (hP.sub isC hC2) hDc hl hS) hS (fun q _ h => hFc q h) hFc (fun u t H1 locs1 ht hvm hp hB hz hk hS1 => ?_)
  obtain ⟨hP2, hD2⟩ := va_join hP hD isC isR hC hR hnR hdis hk hFc (ht ▸ hB.1) hB.2.2
  exact k u hp H1 locs1 ls hP2 hD2 hS1 hl
end JN
/-- what two constructors take beside their cells -/
def jv_PreV (D : va_G) (cl : List vw_C) (tys : List (ClassId × FieldType)) (A : Nat → Prop) (ws : va_W) (av : List Value) : Array Value → State → Prop := va_Pc av (fun U => (va_P D cl ws U.heap ∧ va_K D cl tys U ∧ va_D A ws ∧ ∀ q : Nat, U.heap.size ≤ q → A q) ∧ (Cond.arrayOver (.array .int)).before #[] U = true)
theorem jv_blindV {D : va_G} {cl : List vw_C} {tys : List (ClassId × FieldType)} {A : Nat → Prop} {ws : va_W} {av : List Value} : FrameBlind (jv_PreV D cl tys A ws av) := fun a U g mk q => ⟨q.1, ⟨q.2.1.1, va_K.moved (u := U) (U := U.calling g mk a) (Vm.Alike.refl U.vm) q.2.1.2.1, q.2.1.2.2⟩, q.2.2⟩
theorem jv_ofV {l : Launch} {D : va_G} {cl : List vw_C} {A : Nat → Prop} {tys : List (ClassId × FieldType)} {ws : va_W} {cc : ByteArray} {y : MethodName} {rm : Room} {av : List Value} {Qc : Array Value → State → Outcome → State → Prop} {mc ms maxL : Nat} {ret : Option FieldType} (hy : plainName y.cls = true) (hlen : (lg_sl av).length ≤ maxL)
    (body : ∀ (p : Program) (e : Env) (s : State) (m : MethodId) (below : List Frame) (meth : Method) (c : Code), jv_C p s m av.toArray meth c cc maxL ret y wb D cl tys A → (Cond.arrayOver (.array .int)).before #[] s = true → jv_V p l e rm s m av.toArray below meth c D cl A maxL 0 0 (MQ below Qc av.toArray s mc ms A) ws (lv_args 0 av) 0 []) : Met l y (Cond.code y cc maxL ret :: wb) rm (jv_PreV D cl tys A ws av) Qc mc ms A := by
  refine Met.ofW (cc := cc) (maxL := maxL) (ret := ret) hy rfl ?_
  intro p e s m args below meth c s₁ B hml hv
  obtain ⟨rfl, ⟨hP, hK, hD, hA⟩, hov⟩ := hv
  have hts := atoms_spec (ws := Cond.code y cc maxL ret :: wb) B.pre
  have hown : s.vm.findClass y.cls = some m.cls := findClass_of_methodNamed B.named
  have hl := lv_entry av (n := maxL) hlen
  rw [lg_entry_eq]
  exact body p e s m below meth c ⟨⟨B.exec, B.bytes⟩, hml, hown, fun w h => hts w (List.mem_cons_of_mem _ h), hK, hA, B.returns, B.notSynchronized, (name_of_methodNamed B.named B.method).1⟩ hov s.heap [] _ hP hD va_S.rf hl
def jv_N (U : State) : Prop := (Cond.arrayOver (.array .int)).before #[] U = true ∧ va_Nw (.methodLinkNest rn_R 9 y_D_init rn_R) U ∧ va_Nw (.methodLinkNest rn_R 18 y_S_init rn_R) U ∧ va_Nw (.methodLinkNest rn_R 34 y_V_init rn_R) U
theorem jv_N.warm {s U : State} (hW : s.WarmedH U.vm) (h : jv_N s) : jv_N U := ⟨aov_warm hW h.1, va_Nw.warmM hW h.2.1, va_Nw.warmM hW h.2.2.1, va_Nw.warmM hW h.2.2.2⟩
theorem jv_N.calling {U : State} {g : JFrame} {mk : MethodId} {a : Array Value} (h : jv_N U) : jv_N (U.calling g mk a) := ⟨h.1, h.2.1, h.2.2.1, h.2.2.2⟩
def jv_PreR (D : va_G) (cl : List vw_C) (tys : List (ClassId × FieldType)) (A : Nat → Prop) (ws : va_W) (av : List Value) : Array Value → State → Prop := va_Pc av (fun U => (va_P D cl ws U.heap ∧ va_K D cl tys U ∧ va_D A ws ∧ ∀ q : Nat, U.heap.size ≤ q → A q) ∧ jv_N U)
theorem jv_blindR {D : va_G} {cl : List vw_C} {tys : List (ClassId × FieldType)} {A : Nat → Prop} {ws : va_W} {av : List Value} : FrameBlind (jv_PreR D cl tys A ws av) := fun a U g mk q => ⟨q.1, ⟨q.2.1.1, va_K.moved (u := U) (U := U.calling g mk a) (Vm.Alike.refl U.vm) q.2.1.2.1, q.2.1.2.2⟩, q.2.2.calling⟩
theorem jv_ofR {l : Launch} {D : va_G} {cl : List vw_C} {A : Nat → Prop} {tys : List (ClassId × FieldType)} {ws : va_W} {cc : ByteArray} {y : MethodName} {rm : Room} {av : List Value} {Qc : Array Value → State → Outcome → State → Prop} {mc ms maxL : Nat} {ret : Option FieldType} (hy : plainName y.cls = true) (hlen : (lg_sl av).length ≤ maxL)
    (body : ∀ (p : Program) (e : Env) (s : State) (m : MethodId) (below : List Frame) (meth : Method) (c : Code), jv_C p s m av.toArray meth c cc maxL ret y wb D cl tys A → (Cond.arrayOver (.array .int)).before #[] s = true → va_Nw (.methodLinkNest rn_R 9 y_D_init rn_R) s → va_Nw (.methodLinkNest rn_R 18 y_S_init rn_R) s → va_Nw (.methodLinkNest rn_R 34 y_V_init rn_R) s → jv_V p l e rm s m av.toArray below meth c D cl A maxL 0 0 (MQ below Qc av.toArray s mc ms A) ws (lv_args 0 av) 0 []) : Met l y (Cond.code y cc maxL ret :: wb) rm (jv_PreR D cl tys A ws av) Qc mc ms A := by
  refine Met.ofW (cc := cc) (maxL := maxL) (ret := ret) hy rfl ?_
  intro p e s m args below meth c s₁ B hml hv
  obtain ⟨rfl, ⟨hP, hK, hD, hA⟩, hov⟩ := hv
  have hts := atoms_spec (ws := Cond.code y cc maxL ret :: wb) B.pre
  have hown : s.vm.findClass y.cls = some m.cls := findClass_of_methodNamed B.named
  have hl := lv_entry av (n := maxL) hlen
  rw [lg_entry_eq]
  exact body p e s m below meth c ⟨⟨B.exec, B.bytes⟩, hml, hown, fun w h => hts w (List.mem_cons_of_mem _ h), hK, hA, B.returns, B.notSynchronized, (name_of_methodNamed B.named B.method).1⟩ hov.1 hov.2.1 hov.2.2.1 hov.2.2.2 s.heap [] _ hP hD va_S.rf hl

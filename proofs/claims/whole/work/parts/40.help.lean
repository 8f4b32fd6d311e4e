/-! the law's helpers: a call of a method that may throw, its catches, the array of one long -/
abbrev hw (ad : Nat → Nat) (cI cA cL : ClassId) (ao : Nat) (G : va_W) (u : jS × (Nat → Int64)) : va_W := cw ad cI cA u.1 ((ao, .inl (cL, 1, .inr (.inl u.2))) :: G)
section JH
variable {p : Program} {l : Launch} {e : Env} {R : Room} {s : State} {m : MethodId} {args : Array Value} {below : List Frame} {meth : Method} {c : Code} {cells slots : Nat} {Q : State → Prop}
variable {cc : ByteArray} {pc : Nat} {st : List Value} {D : va_G} {cl : List vw_C} {A : Nat → Prop} {tys : List (ClassId × FieldType)} {ws : va_W} {nL : Nat} {lv : List (Nat × Value)}
theorem jv_last (B : jv_B p c cc) (hK : va_K D cl tys s) (q0 t0 : Nat) {a : Nat} {cA : ClassId} {n : Nat} {f : Nat → Int64} {ws' : va_W} (ha : ws[q0]? = some (a, .inl (cA, n, .inr (.inl f)))) (ht : tys[t0]? = some (cA, .long)) {i : Int32} {x : Int64} (hi : vp_in i n) (hd : decode cc pc = .ok (.lastore, 1)) (hw : ws.set q0 (a, .inl (cA, n, .inr (.inl (vp_updL f i.toNatClampNeg x)))) = ws')
    (k : jv_V p l e R s m args below meth c D cl A nL cells slots Q ws' lv (pc + 1) st) : jv_V p l e R s m args below meth c D cl A nL cells slots Q ws lv pc (.long x :: .int i :: .ref a :: st) := fun H locs ls a9 b d h => va_last B.1 B.2 hK a9 b d q0 t0 ha ht hi hd (fun H1 locs1 a1 b1 d1 => k H1 locs1 ls (hw ▸ a1) (hw ▸ b1) d1 h)
theorem jv_lald (B : jv_B p c cc) (hK : va_K D cl tys s) (q0 t0 : Nat) {a : Nat} {cA : ClassId} {n : Nat} {f : Nat → Int64} (ha : ws[q0]? = some (a, .inl (cA, n, .inr (.inl f)))) (ht : tys[t0]? = some (cA, .long)) {i : Int32} (hi : vp_in i n) (hd : decode cc pc = .ok (.laload, 1))
    (k : jv_V p l e R s m args below meth c D cl A nL cells slots Q ws lv (pc + 1) (.long (f i.toNatClampNeg) :: st)) : jv_V p l e R s m args below meth c D cl A nL cells slots Q ws lv pc (.int i :: .ref a :: st) := fun H locs ls a9 b d h => va_lald B.1 B.2 hK a9 q0 t0 ha ht hi hd (k H locs ls a9 b d h)
theorem jv_lcmp (B : jv_B p c cc) {x y : Int64} (hd : decode cc pc = .ok (.lcmp, 1)) (k : jv_V p l e R s m args below meth c D cl A nL cells slots Q ws lv (pc + 1) (.int (lg_cmp x y) :: st)) : jv_V p l e R s m args below meth c D cl A nL cells slots Q ws lv pc (.long y :: .long x :: st) := fun H locs ls a b d h => W.lcmp B.1 B.2 hd (k H locs ls a b d h)
/-- thrown: the walk stands at the throwing of q9, of the kind k -/
def jv_T (p : Program) (l : Launch) (e : Env) (R : Room) (s : State) (m : MethodId) (args : Array Value) (below : List Frame) (meth : Method) (c : Code) (D : va_G) (cl : List vw_C) (A : Nat → Prop) (nL cells slots : Nat) (Q : State → Prop) (ws : va_W) (lv : List (Nat × Value)) (pc : Nat) (st : List Value) (k : Nat) : Prop :=
  ∀ (H : Heap) (locs : List Loc) (ls : Array Slot) (q9 : Addr) (ce : Cell), va_P D cl ws H → va_D A ws → va_S A s.heap H locs → lv_has ls nL lv → H[q9]? = some ce → ce.vm = .none → s.vm.findClass (jE k) = some ce.cls → vx_W p l e R s m args below meth c H locs cells slots Q (F0 m pc ls st) q9
section JHC
variable {wf : jS → va_W} {y : MethodName} {bytes : ByteArray} {maxL mc ms n index : Nat} {ret : Option FieldType} {wl Ts : List Cond} {rm : Room} {own C : String} {b : Addr} {As : List Value} {px : Nat → jS → Prop}
theorem jv_xi {post : Int32 → jS → Prop} (B : jv_B p c cc) (hml : c.maxLocals = nL) (hown : s.vm.findClass own = some m.cls) (hts : ∀ w ∈ Ts, w.before args s = true) (hK : va_K D cl tys s) (hA : ∀ q : Nat, s.heap.size ≤ q → A q) (hJ : jX A s)
    (hM : vx_Met l y wl rm (jv_PreX D cl tys A ws (.ref b :: As)) (va_Qi post (jv_End D cl tys A wf) A) (jv_XC D cl tys A wf px) mc ms A) (cw : CallW R s args own C index y bytes maxL ret wl rm mc ms n) (q0 ci : Nat) {q : vw_C} {fs : List Value} (hc : cl[ci]? = some q) (hq : q.1 = C) (he : ws[q0]? = some (b, .inr (ci, fs)))
    (hn : As.length = n) (hW : (st.map fun v => v.category).sum ≤ 8) (hd : decode cc pc = .ok (.invokevirtual index, 3)) (hf : cells + mc ≤ R.cells ∧ slots + ms ≤ R.slots) {st0 : List Value} (hst : st0 = As.reverse ++ .ref b :: st)
    (kx : ∀ (k : Nat) (σ : jS), px k σ → jv_T p l e R s m args below meth c D cl A nL (cells + mc) (slots + ms) Q (wf σ) lv pc st k)
    (k : ∀ (r : Int32) (u : jS), post r u → jv_V p l e R s m args below meth c D cl A nL (cells + mc) (slots + ms) Q (wf u) lv (pc + 3) (.int r :: st)) : jv_V p l e R s m args below meth c D cl A nL cells slots Q ws lv pc st0 := by
  subst hq
  intro H locs ls hP hD hS hl
  exact vx_calli (vx_runV (As := As) (rest := st) ⟨B.1, B.2, hml, hown, hts⟩ hM cw ⟨jv_blindX, va_recv hK hP hc he, jv_preX hK hA hJ hP hD hS⟩ rfl hn hl.1 hst (lv_room hW) hd hf) hS (fun _ _ h => h) (fun _ h => h) (fun _ _ h => h) (fun E ce q9 u t H1 locs1 ht hvm hp hB hz hk hS1 hce hcv hcl => kx u.1 u.2 hp H1 locs1 ls q9 ce (ht ▸ hB.2.1) hB.2.2.2 hS1 hl hce hcv (hB.1 ▸ hcl)) (fun r u t H1 locs1 ht hvm hp hB hz hk hS1 => k r u hp H1 locs1 ls (ht ▸ hB.1) hB.2.2 hS1 hl)
theorem jv_xv {post : jS → Prop} (B : jv_B p c cc) (hml : c.maxLocals = nL) (hown : s.vm.findClass own = some m.cls) (hts : ∀ w ∈ Ts, w.before args s = true) (hK : va_K D cl tys s) (hA : ∀ q : Nat, s.heap.size ≤ q → A q) (hJ : jX A s)
    (hM : vx_Met l y wl rm (jv_PreX D cl tys A ws (.ref b :: As)) (va_Qv post (jv_End D cl tys A wf) A) (jv_XC D cl tys A wf px) mc ms A) (cw : CallW R s args own C index y bytes maxL ret wl rm mc ms n) (q0 ci : Nat) {q : vw_C} {fs : List Value} (hc : cl[ci]? = some q) (hq : q.1 = C) (he : ws[q0]? = some (b, .inr (ci, fs)))
    (hn : As.length = n) (hW : (st.map fun v => v.category).sum ≤ 8) (hd : decode cc pc = .ok (.invokevirtual index, 3)) (hf : cells + mc ≤ R.cells ∧ slots + ms ≤ R.slots) {st0 : List Value} (hst : st0 = As.reverse ++ .ref b :: st)
    (kx : ∀ (k : Nat) (σ : jS), px k σ → jv_T p l e R s m args below meth c D cl A nL (cells + mc) (slots + ms) Q (wf σ) lv pc st k)
    (k : ∀ u : jS, post u → jv_V p l e R s m args below meth c D cl A nL (cells + mc) (slots + ms) Q (wf u) lv (pc + 3) st) : jv_V p l e R s m args below meth c D cl A nL cells slots Q ws lv pc st0 := by
  subst hq
  intro H locs ls hP hD hS hl
  exact vx_callv (vx_runV (As := As) (rest := st) ⟨B.1, B.2, hml, hown, hts⟩ hM cw ⟨jv_blindX, va_recv hK hP hc he, jv_preX hK hA hJ hP hD hS⟩ rfl hn hl.1 hst (lv_room hW) hd hf) hS (fun _ _ h => h) (fun _ h => h) (fun _ _ h => h) (fun E ce q9 u t H1 locs1 ht hvm hp hB hz hk hS1 hce hcv hcl => kx u.1 u.2 hp H1 locs1 ls q9 ce (ht ▸ hB.2.1) hB.2.2.2 hS1 hl hce hcv (hB.1 ▸ hcl)) (fun u t H1 locs1 ht hvm hp hB hz hk hS1 => k u hp H1 locs1 ls (ht ▸ hB.1) hB.2.2 hS1 hl)
end JHC
theorem jE_1 : jE 1 = jIAE := rfl
theorem jE_2 {k : Nat} (h : ¬ k = 1) : jE k = jISE := if_neg h
/-- caught by the first row of the table, by the second -/
theorem jv_cat1 {k : Nat} {x : ExceptionTableEntry} {suf : List ExceptionTableEntry} (hown : s.vm.findClass rn_L = some m.cls) (hts : ∀ w ∈ wb, w.before args s = true) (hsplit : c.exceptionTable.toList = x :: suf) (hx : covers x pc = true) (h0 : x.catchType ≠ 0) (hlink : Cond.classLink rn_L x.catchType (jE k) ∈ wb) (hcast : va_Nw (.castable (jE k) (jE k)) s)
    (kk : ∀ q9 : Nat, jv_V p l e R s m args below meth c D cl A nL cells slots Q ws lv x.handlerPc [.ref q9]) : jv_T p l e R s m args below meth c D cl A nL cells slots Q ws lv pc st k := fun H locs ls q9 ce a b d h hce hcv hcl => vx_catch hown [] x suf hsplit (fun z hz => by cases hz) hx h0 (hts _ hlink) (va_Nw.use rfl hcast) hce hcv hcl (kk q9 H locs ls a b d h)
theorem jv_cat2 {k : Nat} {x0 x : ExceptionTableEntry} {suf : List ExceptionTableEntry} {nm : String} (hown : s.vm.findClass rn_L = some m.cls) (hts : ∀ w ∈ wb, w.before args s = true) (hsplit : c.exceptionTable.toList = x0 :: x :: suf) (h00 : x0.catchType ≠ 0) (hl0 : Cond.classLink rn_L x0.catchType nm ∈ wb) (hn0 : va_Nc (jE k) nm s) (hx : covers x pc = true) (h0 : x.catchType ≠ 0) (hlink : Cond.classLink rn_L x.catchType (jE k) ∈ wb) (hcast : va_Nw (.castable (jE k) (jE k)) s)
    (kk : ∀ q9 : Nat, jv_V p l e R s m args below meth c D cl A nL cells slots Q ws lv x.handlerPc [.ref q9]) : jv_T p l e R s m args below meth c D cl A nL cells slots Q ws lv pc st k := fun H locs ls q9 ce a b d h hce hcv hcl => vx_catch hown [x0] x suf hsplit (fun z hz => by
    rw [List.mem_singleton] at hz
    subst hz
    exact Or.inr ⟨h00, nm, hts _ hl0, hn0⟩) hx h0 (hts _ hlink) (va_Nw.use rfl hcast) hce hcv hcl (kk q9 H locs ls a b d h)
abbrev jv_CH (p : Program) (l : Launch) (s : State) (m : MethodId) (args : Array Value) (meth : Method) (c : Code) (cc : ByteArray) (nL : Nat) (ret : Option FieldType) (y : MethodName) (wl : List Cond) (D : va_G) (cl : List vw_C) (tys : List (ClassId × FieldType)) (A : Nat → Prop) (hh : List (Nat × Nat × Nat × Nat)) : Prop :=
  jv_C p s m args meth c cc nL ret y wl D cl tys A ∧ jX A s ∧ c.exceptionTable.toList = tableOf hh ∧ l.stackTraces = false
theorem jv_ofH {y : MethodName} {rm : Room} {av : List Value} {Qc : Array Value → State → Outcome → State → Prop} {mc ms maxL : Nat} {ret : Option FieldType} {hh : List (Nat × Nat × Nat × Nat)} (hl : l.stackTraces = false) (hy : plainName y.cls = true) (hlen : (lg_sl av).length ≤ maxL)
    (body : ∀ (p : Program) (e : Env) (s : State) (m : MethodId) (below : List Frame) (meth : Method) (c : Code), jv_CH p l s m av.toArray meth c cc maxL ret y wb D cl tys A hh → jv_V p l e rm s m av.toArray below meth c D cl A maxL 0 0 (MQ below Qc av.toArray s mc ms A) ws (lv_args 0 av) 0 []) : Met l y (Cond.codeWith y cc maxL ret hh :: wb) rm (jv_PreX D cl tys A ws av) Qc mc ms A := by
  refine va_MetW (cc := cc) (maxL := maxL) (ret := ret) hy rfl ?_
  intro p e s m args below meth c s₁ B hml hv
  obtain ⟨rfl, ⟨hP, hK, hD, hA⟩, hJ⟩ := hv
  have hts := atoms_spec (ws := Cond.codeWith y cc maxL ret hh :: wb) B.pre
  have hown : s.vm.findClass y.cls = some m.cls := findClass_of_methodNamed B.named
  have hlv := lv_entry av (n := maxL) hlen
  have htab := vx_table (x := y) B (hts _ List.mem_cons_self)
  rw [lg_entry_eq]
  exact body p e s m below meth c ⟨⟨⟨B.exec, B.bytes⟩, hml, hown, fun w h => hts w (List.mem_cons_of_mem _ h), hK, hA, B.returns, B.notSynchronized, (name_of_methodNamed B.named B.method).1⟩, hJ, htab, hl⟩ s.heap [] _ hP hD va_S.rf hlv
theorem kLI : Cond.classLink rn_L 13 jIAE ∈ wb := wb_t 215 (by decide +kernel) (by decide +kernel)
theorem kLS : Cond.classLink rn_L 22 jISE ∈ wb := wb_t 320 (by decide +kernel) (by decide +kernel)
end JH
theorem kw_1 : Cond.initialized rn_R ∈ wb := wb_t 1 (by decide +kernel) (by decide +kernel)
theorem kw_216 : Cond.methodLink rn_L 7 y_R_source ∈ wb := wb_t 216 (by decide +kernel) (by decide +kernel)
theorem kw_217 : Cond.instanceMethod y_R_source ∈ wb := wb_t 217 (by decide +kernel) (by decide +kernel)
theorem kw_218 : Cond.selects rn_R y_R_source y_R_source ∈ wb := wb_t 218 (by decide +kernel) (by decide +kernel)
theorem kw_219 : Cond.code y_R_source b_R_source 2 none ∈ wb := wb_t 219 (by decide +kernel) (by decide +kernel)
theorem kw_306 : Cond.methodLink rn_L 15 y_R_sector ∈ wb := wb_t 306 (by decide +kernel) (by decide +kernel)
theorem kw_307 : Cond.instanceMethod y_R_sector ∈ wb := wb_t 307 (by decide +kernel) (by decide +kernel)
theorem kw_308 : Cond.selects rn_R y_R_sector y_R_sector ∈ wb := wb_t 308 (by decide +kernel) (by decide +kernel)
theorem kw_309 : Cond.code y_R_sector b_R_sector 4 none ∈ wb := wb_t 309 (by decide +kernel) (by decide +kernel)
theorem kw_321 : Cond.methodLink rn_L 19 y_R_begin ∈ wb := wb_t 321 (by decide +kernel) (by decide +kernel)
theorem kw_322 : Cond.instanceMethod y_R_begin ∈ wb := wb_t 322 (by decide +kernel) (by decide +kernel)
theorem kw_323 : Cond.selects rn_R y_R_begin y_R_begin ∈ wb := wb_t 323 (by decide +kernel) (by decide +kernel)
theorem kw_324 : Cond.code y_R_begin b_R_begin 2 none ∈ wb := wb_t 324 (by decide +kernel) (by decide +kernel)
theorem kw_372 : Cond.methodLink rn_L 24 y_R_step ∈ wb := wb_t 372 (by decide +kernel) (by decide +kernel)
theorem kw_373 : Cond.instanceMethod y_R_step ∈ wb := wb_t 373 (by decide +kernel) (by decide +kernel)
theorem kw_374 : Cond.selects rn_R y_R_step y_R_step ∈ wb := wb_t 374 (by decide +kernel) (by decide +kernel)
theorem kw_375 : Cond.code y_R_step b_R_step 1 (some .int) ∈ wb := wb_t 375 (by decide +kernel) (by decide +kernel)
theorem kw_453 : Cond.methodLink rn_L 28 y_R_run ∈ wb := wb_t 453 (by decide +kernel) (by decide +kernel)
theorem kw_454 : Cond.instanceMethod y_R_run ∈ wb := wb_t 454 (by decide +kernel) (by decide +kernel)
theorem kw_455 : Cond.selects rn_R y_R_run y_R_run ∈ wb := wb_t 455 (by decide +kernel) (by decide +kernel)
theorem kw_456 : Cond.code y_R_run b_R_run 3 (some .int) ∈ wb := wb_t 456 (by decide +kernel) (by decide +kernel)
theorem kw_461 : Cond.methodLink rn_L 32 y_R_save ∈ wb := wb_t 461 (by decide +kernel) (by decide +kernel)
theorem kw_462 : Cond.instanceMethod y_R_save ∈ wb := wb_t 462 (by decide +kernel) (by decide +kernel)
theorem kw_463 : Cond.selects rn_R y_R_save y_R_save ∈ wb := wb_t 463 (by decide +kernel) (by decide +kernel)
theorem kw_464 : Cond.code y_R_save b_R_save 1 (some .int) ∈ wb := wb_t 464 (by decide +kernel) (by decide +kernel)
theorem kw_501 : Cond.methodLink rn_L 35 y_R_stop ∈ wb := wb_t 501 (by decide +kernel) (by decide +kernel)
theorem kw_502 : Cond.instanceMethod y_R_stop ∈ wb := wb_t 502 (by decide +kernel) (by decide +kernel)
theorem kw_503 : Cond.selects rn_R y_R_stop y_R_stop ∈ wb := wb_t 503 (by decide +kernel) (by decide +kernel)
theorem kw_504 : Cond.code y_R_stop b_R_stop 2 (some .int) ∈ wb := wb_t 504 (by decide +kernel) (by decide +kernel)
theorem kw_513 : Cond.methodLink rn_L 38 y_R_resume ∈ wb := wb_t 513 (by decide +kernel) (by decide +kernel)
theorem kw_514 : Cond.instanceMethod y_R_resume ∈ wb := wb_t 514 (by decide +kernel) (by decide +kernel)
theorem kw_515 : Cond.selects rn_R y_R_resume y_R_resume ∈ wb := wb_t 515 (by decide +kernel) (by decide +kernel)
theorem kw_516 : Cond.code y_R_resume b_R_resume 2 (some .int) ∈ wb := wb_t 516 (by decide +kernel) (by decide +kernel)
theorem kw_540 : Cond.methodLink rn_L 41 y_R_poke ∈ wb := wb_t 540 (by decide +kernel) (by decide +kernel)
theorem kw_541 : Cond.instanceMethod y_R_poke ∈ wb := wb_t 541 (by decide +kernel) (by decide +kernel)
theorem kw_542 : Cond.selects rn_R y_R_poke y_R_poke ∈ wb := wb_t 542 (by decide +kernel) (by decide +kernel)
theorem kw_543 : Cond.code y_R_poke b_R_poke 4 none ∈ wb := wb_t 543 (by decide +kernel) (by decide +kernel)
theorem kw_551 : Cond.methodLink rn_L 44 y_R_second ∈ wb := wb_t 551 (by decide +kernel) (by decide +kernel)
theorem kw_552 : Cond.instanceMethod y_R_second ∈ wb := wb_t 552 (by decide +kernel) (by decide +kernel)
theorem kw_553 : Cond.selects rn_R y_R_second y_R_second ∈ wb := wb_t 553 (by decide +kernel) (by decide +kernel)
theorem kw_554 : Cond.code y_R_second b_R_second 3 (some .boolean) ∈ wb := wb_t 554 (by decide +kernel) (by decide +kernel)
theorem hd_R_source : y_R_source.cls = rn_R ∧ y_R_source.cls ≠ "java/lang/invoke/MethodHandle" ∧ y_R_source.cls ≠ "java/lang/invoke/VarHandle" ∧ (parseMethodDescriptor y_R_source.desc).map (fun d => d.parameters.length) = some 1 := by decide +kernel
theorem g_L_7 : GoodIn wb (wsV rn_L 7 rn_R y_R_source (Cond.code y_R_source b_R_source 2 none :: wb)) := gw_V kw_216 kw_217 kw_218 kw_1 kw_219
theorem hd_R_sector : y_R_sector.cls = rn_R ∧ y_R_sector.cls ≠ "java/lang/invoke/MethodHandle" ∧ y_R_sector.cls ≠ "java/lang/invoke/VarHandle" ∧ (parseMethodDescriptor y_R_sector.desc).map (fun d => d.parameters.length) = some 3 := by decide +kernel
theorem g_L_15 : GoodIn wb (wsV rn_L 15 rn_R y_R_sector (Cond.code y_R_sector b_R_sector 4 none :: wb)) := gw_V kw_306 kw_307 kw_308 kw_1 kw_309
theorem hd_R_begin : y_R_begin.cls = rn_R ∧ y_R_begin.cls ≠ "java/lang/invoke/MethodHandle" ∧ y_R_begin.cls ≠ "java/lang/invoke/VarHandle" ∧ (parseMethodDescriptor y_R_begin.desc).map (fun d => d.parameters.length) = some 1 := by decide +kernel
theorem g_L_19 : GoodIn wb (wsV rn_L 19 rn_R y_R_begin (Cond.code y_R_begin b_R_begin 2 none :: wb)) := gw_V kw_321 kw_322 kw_323 kw_1 kw_324
theorem hd_R_step : y_R_step.cls = rn_R ∧ y_R_step.cls ≠ "java/lang/invoke/MethodHandle" ∧ y_R_step.cls ≠ "java/lang/invoke/VarHandle" ∧ (parseMethodDescriptor y_R_step.desc).map (fun d => d.parameters.length) = some 0 := by decide +kernel
theorem g_L_24 : GoodIn wb (wsV rn_L 24 rn_R y_R_step (Cond.code y_R_step b_R_step 1 (some .int) :: wb)) := gw_V kw_372 kw_373 kw_374 kw_1 kw_375
theorem hd_R_run : y_R_run.cls = rn_R ∧ y_R_run.cls ≠ "java/lang/invoke/MethodHandle" ∧ y_R_run.cls ≠ "java/lang/invoke/VarHandle" ∧ (parseMethodDescriptor y_R_run.desc).map (fun d => d.parameters.length) = some 1 := by decide +kernel
theorem g_L_28 : GoodIn wb (wsV rn_L 28 rn_R y_R_run (Cond.code y_R_run b_R_run 3 (some .int) :: wb)) := gw_V kw_453 kw_454 kw_455 kw_1 kw_456
theorem hd_R_save : y_R_save.cls = rn_R ∧ y_R_save.cls ≠ "java/lang/invoke/MethodHandle" ∧ y_R_save.cls ≠ "java/lang/invoke/VarHandle" ∧ (parseMethodDescriptor y_R_save.desc).map (fun d => d.parameters.length) = some 0 := by decide +kernel
theorem g_L_32 : GoodIn wb (wsV rn_L 32 rn_R y_R_save (Cond.code y_R_save b_R_save 1 (some .int) :: wb)) := gw_V kw_461 kw_462 kw_463 kw_1 kw_464
theorem hd_R_stop : y_R_stop.cls = rn_R ∧ y_R_stop.cls ≠ "java/lang/invoke/MethodHandle" ∧ y_R_stop.cls ≠ "java/lang/invoke/VarHandle" ∧ (parseMethodDescriptor y_R_stop.desc).map (fun d => d.parameters.length) = some 1 := by decide +kernel
theorem g_L_35 : GoodIn wb (wsV rn_L 35 rn_R y_R_stop (Cond.code y_R_stop b_R_stop 2 (some .int) :: wb)) := gw_V kw_501 kw_502 kw_503 kw_1 kw_504
theorem hd_R_resume : y_R_resume.cls = rn_R ∧ y_R_resume.cls ≠ "java/lang/invoke/MethodHandle" ∧ y_R_resume.cls ≠ "java/lang/invoke/VarHandle" ∧ (parseMethodDescriptor y_R_resume.desc).map (fun d => d.parameters.length) = some 0 := by decide +kernel
theorem g_L_38 : GoodIn wb (wsV rn_L 38 rn_R y_R_resume (Cond.code y_R_resume b_R_resume 2 (some .int) :: wb)) := gw_V kw_513 kw_514 kw_515 kw_1 kw_516
theorem hd_R_poke : y_R_poke.cls = rn_R ∧ y_R_poke.cls ≠ "java/lang/invoke/MethodHandle" ∧ y_R_poke.cls ≠ "java/lang/invoke/VarHandle" ∧ (parseMethodDescriptor y_R_poke.desc).map (fun d => d.parameters.length) = some 3 := by decide +kernel
theorem g_L_41 : GoodIn wb (wsV rn_L 41 rn_R y_R_poke (Cond.code y_R_poke b_R_poke 4 none :: wb)) := gw_V kw_540 kw_541 kw_542 kw_1 kw_543
theorem hd_R_second : y_R_second.cls = rn_R ∧ y_R_second.cls ≠ "java/lang/invoke/MethodHandle" ∧ y_R_second.cls ≠ "java/lang/invoke/VarHandle" ∧ (parseMethodDescriptor y_R_second.desc).map (fun d => d.parameters.length) = some 2 := by decide +kernel
theorem g_L_44 : GoodIn wb (wsV rn_L 44 rn_R y_R_second (Cond.code y_R_second b_R_second 3 (some .boolean) :: wb)) := gw_V kw_551 kw_552 kw_553 kw_1 kw_554
theorem d_L_source_0 : decode b_L_source 0 = .ok (.aload_n 0, 1) := by decide +kernel
theorem d_L_source_1 : decode b_L_source 1 = .ok (.iload_n 1, 1) := by decide +kernel
theorem d_L_source_2 : decode b_L_source 2 = .ok (.invokevirtual 7, 3) := by decide +kernel
theorem d_L_source_5 : decode b_L_source 5 = .ok (.goto 6, 3) := by decide +kernel
theorem d_L_source_8 : decode b_L_source 8 = .ok (.astore_n 2, 1) := by decide +kernel
theorem d_L_source_9 : decode b_L_source 9 = .ok (.iconst 1, 1) := by decide +kernel
theorem d_L_source_10 : decode b_L_source 10 = .ok (.ireturn, 1) := by decide +kernel
theorem d_L_source_11 : decode b_L_source 11 = .ok (.iconst 0, 1) := by decide +kernel
theorem d_L_source_12 : decode b_L_source 12 = .ok (.ireturn, 1) := by decide +kernel
theorem d_L_sector_0 : decode b_L_sector 0 = .ok (.aload_n 0, 1) := by decide +kernel
theorem d_L_sector_1 : decode b_L_sector 1 = .ok (.iload_n 1, 1) := by decide +kernel
theorem d_L_sector_2 : decode b_L_sector 2 = .ok (.iload_n 2, 1) := by decide +kernel
theorem d_L_sector_3 : decode b_L_sector 3 = .ok (.iload_n 3, 1) := by decide +kernel
theorem d_L_sector_4 : decode b_L_sector 4 = .ok (.invokevirtual 15, 3) := by decide +kernel
theorem d_L_sector_7 : decode b_L_sector 7 = .ok (.goto 7, 3) := by decide +kernel
theorem d_L_sector_10 : decode b_L_sector 10 = .ok (.astore 4, 2) := by decide +kernel
theorem d_L_sector_12 : decode b_L_sector 12 = .ok (.iconst 1, 1) := by decide +kernel
theorem d_L_sector_13 : decode b_L_sector 13 = .ok (.ireturn, 1) := by decide +kernel
theorem d_L_sector_14 : decode b_L_sector 14 = .ok (.iconst 0, 1) := by decide +kernel
theorem d_L_sector_15 : decode b_L_sector 15 = .ok (.ireturn, 1) := by decide +kernel
theorem d_L_begin_0 : decode b_L_begin 0 = .ok (.aload_n 0, 1) := by decide +kernel
theorem d_L_begin_1 : decode b_L_begin 1 = .ok (.iload_n 1, 1) := by decide +kernel
theorem d_L_begin_2 : decode b_L_begin 2 = .ok (.invokevirtual 19, 3) := by decide +kernel
theorem d_L_begin_5 : decode b_L_begin 5 = .ok (.goto 9, 3) := by decide +kernel
theorem d_L_begin_8 : decode b_L_begin 8 = .ok (.astore_n 2, 1) := by decide +kernel
theorem d_L_begin_9 : decode b_L_begin 9 = .ok (.iconst 1, 1) := by decide +kernel
theorem d_L_begin_10 : decode b_L_begin 10 = .ok (.ireturn, 1) := by decide +kernel
theorem d_L_begin_11 : decode b_L_begin 11 = .ok (.astore_n 2, 1) := by decide +kernel
theorem d_L_begin_12 : decode b_L_begin 12 = .ok (.iconst 2, 1) := by decide +kernel
theorem d_L_begin_13 : decode b_L_begin 13 = .ok (.ireturn, 1) := by decide +kernel
theorem d_L_begin_14 : decode b_L_begin 14 = .ok (.iconst 0, 1) := by decide +kernel
theorem d_L_begin_15 : decode b_L_begin 15 = .ok (.ireturn, 1) := by decide +kernel
theorem d_L_step_0 : decode b_L_step 0 = .ok (.aload_n 1, 1) := by decide +kernel
theorem d_L_step_1 : decode b_L_step 1 = .ok (.iconst 0, 1) := by decide +kernel
theorem d_L_step_2 : decode b_L_step 2 = .ok (.aload_n 0, 1) := by decide +kernel
theorem d_L_step_3 : decode b_L_step 3 = .ok (.invokevirtual 24, 3) := by decide +kernel
theorem d_L_step_6 : decode b_L_step 6 = .ok (.i2l, 1) := by decide +kernel
theorem d_L_step_7 : decode b_L_step 7 = .ok (.lastore, 1) := by decide +kernel
theorem d_L_step_8 : decode b_L_step 8 = .ok (.goto 6, 3) := by decide +kernel
theorem d_L_step_11 : decode b_L_step 11 = .ok (.astore_n 2, 1) := by decide +kernel
theorem d_L_step_12 : decode b_L_step 12 = .ok (.iconst 1, 1) := by decide +kernel
theorem d_L_step_13 : decode b_L_step 13 = .ok (.ireturn, 1) := by decide +kernel
theorem d_L_step_14 : decode b_L_step 14 = .ok (.iconst 0, 1) := by decide +kernel
theorem d_L_step_15 : decode b_L_step 15 = .ok (.ireturn, 1) := by decide +kernel
theorem d_L_run_0 : decode b_L_run 0 = .ok (.aload_n 2, 1) := by decide +kernel
theorem d_L_run_1 : decode b_L_run 1 = .ok (.iconst 0, 1) := by decide +kernel
theorem d_L_run_2 : decode b_L_run 2 = .ok (.aload_n 0, 1) := by decide +kernel
theorem d_L_run_3 : decode b_L_run 3 = .ok (.iload_n 1, 1) := by decide +kernel
theorem d_L_run_4 : decode b_L_run 4 = .ok (.invokevirtual 28, 3) := by decide +kernel
theorem d_L_run_7 : decode b_L_run 7 = .ok (.i2l, 1) := by decide +kernel
theorem d_L_run_8 : decode b_L_run 8 = .ok (.lastore, 1) := by decide +kernel
theorem d_L_run_9 : decode b_L_run 9 = .ok (.goto 9, 3) := by decide +kernel
theorem d_L_run_12 : decode b_L_run 12 = .ok (.astore_n 3, 1) := by decide +kernel
theorem d_L_run_13 : decode b_L_run 13 = .ok (.iconst 1, 1) := by decide +kernel
theorem d_L_run_14 : decode b_L_run 14 = .ok (.ireturn, 1) := by decide +kernel
theorem d_L_run_15 : decode b_L_run 15 = .ok (.astore_n 3, 1) := by decide +kernel
theorem d_L_run_16 : decode b_L_run 16 = .ok (.iconst 2, 1) := by decide +kernel
theorem d_L_run_17 : decode b_L_run 17 = .ok (.ireturn, 1) := by decide +kernel
theorem d_L_run_18 : decode b_L_run 18 = .ok (.iconst 0, 1) := by decide +kernel
theorem d_L_run_19 : decode b_L_run 19 = .ok (.ireturn, 1) := by decide +kernel
theorem d_L_save_0 : decode b_L_save 0 = .ok (.aload_n 1, 1) := by decide +kernel
theorem d_L_save_1 : decode b_L_save 1 = .ok (.iconst 0, 1) := by decide +kernel
theorem d_L_save_2 : decode b_L_save 2 = .ok (.aload_n 0, 1) := by decide +kernel
theorem d_L_save_3 : decode b_L_save 3 = .ok (.invokevirtual 32, 3) := by decide +kernel
theorem d_L_save_6 : decode b_L_save 6 = .ok (.i2l, 1) := by decide +kernel
theorem d_L_save_7 : decode b_L_save 7 = .ok (.lastore, 1) := by decide +kernel
theorem d_L_save_8 : decode b_L_save 8 = .ok (.goto 6, 3) := by decide +kernel
theorem d_L_save_11 : decode b_L_save 11 = .ok (.astore_n 2, 1) := by decide +kernel
theorem d_L_save_12 : decode b_L_save 12 = .ok (.iconst 1, 1) := by decide +kernel
theorem d_L_save_13 : decode b_L_save 13 = .ok (.ireturn, 1) := by decide +kernel
theorem d_L_save_14 : decode b_L_save 14 = .ok (.iconst 0, 1) := by decide +kernel
theorem d_L_save_15 : decode b_L_save 15 = .ok (.ireturn, 1) := by decide +kernel
theorem d_L_stop_0 : decode b_L_stop 0 = .ok (.aload_n 2, 1) := by decide +kernel
theorem d_L_stop_1 : decode b_L_stop 1 = .ok (.iconst 0, 1) := by decide +kernel
theorem d_L_stop_2 : decode b_L_stop 2 = .ok (.aload_n 0, 1) := by decide +kernel
theorem d_L_stop_3 : decode b_L_stop 3 = .ok (.iload_n 1, 1) := by decide +kernel
theorem d_L_stop_4 : decode b_L_stop 4 = .ok (.invokevirtual 35, 3) := by decide +kernel
theorem d_L_stop_7 : decode b_L_stop 7 = .ok (.i2l, 1) := by decide +kernel
theorem d_L_stop_8 : decode b_L_stop 8 = .ok (.lastore, 1) := by decide +kernel
theorem d_L_stop_9 : decode b_L_stop 9 = .ok (.goto 9, 3) := by decide +kernel
theorem d_L_stop_12 : decode b_L_stop 12 = .ok (.astore_n 3, 1) := by decide +kernel
theorem d_L_stop_13 : decode b_L_stop 13 = .ok (.iconst 1, 1) := by decide +kernel
theorem d_L_stop_14 : decode b_L_stop 14 = .ok (.ireturn, 1) := by decide +kernel
theorem d_L_stop_15 : decode b_L_stop 15 = .ok (.astore_n 3, 1) := by decide +kernel
theorem d_L_stop_16 : decode b_L_stop 16 = .ok (.iconst 2, 1) := by decide +kernel
theorem d_L_stop_17 : decode b_L_stop 17 = .ok (.ireturn, 1) := by decide +kernel
theorem d_L_stop_18 : decode b_L_stop 18 = .ok (.iconst 0, 1) := by decide +kernel
theorem d_L_stop_19 : decode b_L_stop 19 = .ok (.ireturn, 1) := by decide +kernel
theorem d_L_resume_0 : decode b_L_resume 0 = .ok (.aload_n 1, 1) := by decide +kernel
theorem d_L_resume_1 : decode b_L_resume 1 = .ok (.iconst 0, 1) := by decide +kernel
theorem d_L_resume_2 : decode b_L_resume 2 = .ok (.aload_n 0, 1) := by decide +kernel
theorem d_L_resume_3 : decode b_L_resume 3 = .ok (.invokevirtual 38, 3) := by decide +kernel
theorem d_L_resume_6 : decode b_L_resume 6 = .ok (.i2l, 1) := by decide +kernel
theorem d_L_resume_7 : decode b_L_resume 7 = .ok (.lastore, 1) := by decide +kernel
theorem d_L_resume_8 : decode b_L_resume 8 = .ok (.goto 6, 3) := by decide +kernel
theorem d_L_resume_11 : decode b_L_resume 11 = .ok (.astore_n 2, 1) := by decide +kernel
theorem d_L_resume_12 : decode b_L_resume 12 = .ok (.iconst 1, 1) := by decide +kernel
theorem d_L_resume_13 : decode b_L_resume 13 = .ok (.ireturn, 1) := by decide +kernel
theorem d_L_resume_14 : decode b_L_resume 14 = .ok (.iconst 0, 1) := by decide +kernel
theorem d_L_resume_15 : decode b_L_resume 15 = .ok (.ireturn, 1) := by decide +kernel
theorem d_L_poke_0 : decode b_L_poke 0 = .ok (.aload_n 0, 1) := by decide +kernel
theorem d_L_poke_1 : decode b_L_poke 1 = .ok (.iload_n 1, 1) := by decide +kernel
theorem d_L_poke_2 : decode b_L_poke 2 = .ok (.iload_n 2, 1) := by decide +kernel
theorem d_L_poke_3 : decode b_L_poke 3 = .ok (.iload_n 3, 1) := by decide +kernel
theorem d_L_poke_4 : decode b_L_poke 4 = .ok (.invokevirtual 41, 3) := by decide +kernel
theorem d_L_poke_7 : decode b_L_poke 7 = .ok (.goto 7, 3) := by decide +kernel
theorem d_L_poke_10 : decode b_L_poke 10 = .ok (.astore 4, 2) := by decide +kernel
theorem d_L_poke_12 : decode b_L_poke 12 = .ok (.iconst 1, 1) := by decide +kernel
theorem d_L_poke_13 : decode b_L_poke 13 = .ok (.ireturn, 1) := by decide +kernel
theorem d_L_poke_14 : decode b_L_poke 14 = .ok (.iconst 0, 1) := by decide +kernel
theorem d_L_poke_15 : decode b_L_poke 15 = .ok (.ireturn, 1) := by decide +kernel
theorem d_L_second_0 : decode b_L_second 0 = .ok (.aload_n 3, 1) := by decide +kernel
theorem d_L_second_1 : decode b_L_second 1 = .ok (.iconst 0, 1) := by decide +kernel
theorem d_L_second_2 : decode b_L_second 2 = .ok (.aload_n 0, 1) := by decide +kernel
theorem d_L_second_3 : decode b_L_second 3 = .ok (.iload_n 1, 1) := by decide +kernel
theorem d_L_second_4 : decode b_L_second 4 = .ok (.iload_n 2, 1) := by decide +kernel
theorem d_L_second_5 : decode b_L_second 5 = .ok (.invokevirtual 44, 3) := by decide +kernel
theorem d_L_second_8 : decode b_L_second 8 = .ok (.ifCond .eq 7, 3) := by decide +kernel
theorem d_L_second_11 : decode b_L_second 11 = .ok (.lconst 1, 1) := by decide +kernel
theorem d_L_second_12 : decode b_L_second 12 = .ok (.goto 4, 3) := by decide +kernel
theorem d_L_second_15 : decode b_L_second 15 = .ok (.lconst 0, 1) := by decide +kernel
theorem d_L_second_16 : decode b_L_second 16 = .ok (.lastore, 1) := by decide +kernel
theorem d_L_second_17 : decode b_L_second 17 = .ok (.goto 11, 3) := by decide +kernel
theorem d_L_second_20 : decode b_L_second 20 = .ok (.astore 4, 2) := by decide +kernel
theorem d_L_second_22 : decode b_L_second 22 = .ok (.iconst 1, 1) := by decide +kernel
theorem d_L_second_23 : decode b_L_second 23 = .ok (.ireturn, 1) := by decide +kernel
theorem d_L_second_24 : decode b_L_second 24 = .ok (.astore 4, 2) := by decide +kernel
theorem d_L_second_26 : decode b_L_second 26 = .ok (.iconst 2, 1) := by decide +kernel
theorem d_L_second_27 : decode b_L_second 27 = .ok (.ireturn, 1) := by decide +kernel
theorem d_L_second_28 : decode b_L_second 28 = .ok (.iconst 0, 1) := by decide +kernel
theorem d_L_second_29 : decode b_L_second 29 = .ok (.ireturn, 1) := by decide +kernel
def p_L_source (σ : jS) (fo : Nat → Int64) (v1 : Int32) (post : Int32 → jS × (Nat → Int64) → Prop) : Prop :=
  p_R_source σ v1 (fun σ => post 0 (σ, fo)) (fun k σ => k = 1 ∧ post 1 (σ, fo))
def p_L_sector (σ : jS) (fo : Nat → Int64) (v1 : Int32) (v2 : Int32) (v3 : Int32) (post : Int32 → jS × (Nat → Int64) → Prop) : Prop :=
  p_R_sector σ v1 v2 v3 (fun σ => post 0 (σ, fo)) (fun k σ => k = 1 ∧ post 1 (σ, fo))
def p_L_begin (σ : jS) (fo : Nat → Int64) (v1 : Int32) (post : Int32 → jS × (Nat → Int64) → Prop) : Prop :=
  p_R_begin σ v1 (fun σ => post 0 (σ, fo)) (fun k σ => (k = 1 → post 1 (σ, fo)) ∧ (¬ k = 1 → post 2 (σ, fo)))
def p_L_step (σ : jS) (fo : Nat → Int64) (post : Int32 → jS × (Nat → Int64) → Prop) : Prop :=
  p_R_step σ (fun r σ => post 0 (σ, vp_updL fo 0 r.toInt64)) (fun k σ => ¬ k = 1 ∧ post 1 (σ, fo))
def p_L_run (σ : jS) (fo : Nat → Int64) (v1 : Int32) (post : Int32 → jS × (Nat → Int64) → Prop) : Prop :=
  p_R_run σ v1 (fun r σ => post 0 (σ, vp_updL fo 0 r.toInt64)) (fun k σ => (k = 1 → post 1 (σ, fo)) ∧ (¬ k = 1 → post 2 (σ, fo)))
def p_L_save (σ : jS) (fo : Nat → Int64) (post : Int32 → jS × (Nat → Int64) → Prop) : Prop :=
  p_R_save σ (fun r σ => post 0 (σ, vp_updL fo 0 r.toInt64)) (fun k σ => ¬ k = 1 ∧ post 1 (σ, fo))
def p_L_stop (σ : jS) (fo : Nat → Int64) (v1 : Int32) (post : Int32 → jS × (Nat → Int64) → Prop) : Prop :=
  p_R_stop σ v1 (fun r σ => post 0 (σ, vp_updL fo 0 r.toInt64)) (fun k σ => (k = 1 → post 1 (σ, fo)) ∧ (¬ k = 1 → post 2 (σ, fo)))
def p_L_resume (σ : jS) (fo : Nat → Int64) (post : Int32 → jS × (Nat → Int64) → Prop) : Prop :=
  p_R_resume σ (fun r σ => post 0 (σ, vp_updL fo 0 r.toInt64)) (fun k σ => ¬ k = 1 ∧ post 1 (σ, fo))
def p_L_poke (σ : jS) (fo : Nat → Int64) (v1 : Int32) (v2 : Int32) (v3 : Int32) (post : Int32 → jS × (Nat → Int64) → Prop) : Prop :=
  p_R_poke σ v1 v2 v3 (fun σ => post 0 (σ, fo)) (fun k σ => k = 1 ∧ post 1 (σ, fo))
def p_L_second (σ : jS) (fo : Nat → Int64) (v1 : Int32) (v2 : Int32) (post : Int32 → jS × (Nat → Int64) → Prop) : Prop :=
  p_R_second σ v1 v2 (fun r σ => (r = 0 → post 0 (σ, vp_updL fo 0 0)) ∧ (¬ r = 0 → post 0 (σ, vp_updL fo 0 1))) (fun k σ => (k = 1 → post 1 (σ, fo)) ∧ (¬ k = 1 → post 2 (σ, fo)))

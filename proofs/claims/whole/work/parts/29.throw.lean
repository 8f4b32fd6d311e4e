/-! methods that throw: what they take from the start beside the world; their contract; the row of a throw -/
abbrev jIAE : String := "java/lang/IllegalArgumentException"
abbrev jISE : String := "java/lang/IllegalStateException"
def jE (k : Nat) : String := if k = 1 then jIAE else jISE
abbrev jSup : List String := ["java/lang/RuntimeException", "java/lang/Exception"]
def jStrs : List (Nat × String) := [(41, "a source has 1 to 64 sectors"), (60, "no such sector"), (62, "failures are -1 to 9"), (68, "retries are 0 to 5"), (79, "no source, or begun already"), (92, "copying is not going on"), (97, "steps are 0 to 300"), (103, "keep is below 0"), (108, "copying is not stopped"), (124, "no such slot or place"), (126, "a byte is 0 to 255")]
def jDec : List Cond := [.declares ⟨"java/lang/RuntimeException", "<init>", "(Ljava/lang/String;)V"⟩, .declares ⟨"java/lang/Exception", "<init>", "(Ljava/lang/String;)V"⟩, .declares ⟨"java/lang/Throwable", "<init>", "(Ljava/lang/String;)V"⟩]
def jX (A : Nat → Prop) (U : State) : Prop := vx_Zq Bundle.tN "UNASSIGNED_STACK" Bundle.steD A U U.heap ∧ vx_Zq Bundle.tN "SUPPRESSED_SENTINEL" Bundle.listD A U U.heap ∧ (∀ q ∈ jStrs, ∃ a, vk_R rn_R q.1 q.2 a U) ∧ va_Nw (.castable jIAE jIAE) U ∧ va_Nw (.castable jISE jISE) U ∧ va_Nc jIAE jISE U ∧ va_Nc jISE jIAE U ∧ (va_Nw (.declares ⟨"java/lang/RuntimeException", "<init>", "(Ljava/lang/String;)V"⟩) U ∧ va_Nw (.declares ⟨"java/lang/Exception", "<init>", "(Ljava/lang/String;)V"⟩) U ∧ va_Nw (.declares ⟨"java/lang/Throwable", "<init>", "(Ljava/lang/String;)V"⟩) U)
theorem jX.go {A : Nat → Prop} {s U : State} {H : Heap} {locs : List Loc} (h : jX A s) (hS : va_S A s.heap H locs) (hU : U.heap = H) (hW : s.WarmedH U.vm) : jX A U := by
  obtain ⟨h1, h2, h3, h4, h5, h6, h7, h8, h9, h10⟩ := h
  refine ⟨?_, ?_, fun q hq => ?_, va_Nw.warmC hW h4, va_Nw.warmC hW h5, h6.moved hW.alike, h7.moved hW.alike, va_Nw.warmD hW h8, va_Nw.warmD hW h9, va_Nw.warmD hW h10⟩
  · rw [hU]; exact (vx_Zq.moved hW.alike h1).kept (fun a ha hn => hS.2.1 a ha hn)
  · rw [hU]; exact (vx_Zq.moved hW.alike h2).kept (fun a ha hn => hS.2.1 a ha hn)
  · obtain ⟨a, ha⟩ := h3 q hq
    exact ⟨a, ha.warm hW⟩
theorem jX.calling {A : Nat → Prop} {U : State} {g : JFrame} {mk : MethodId} {a : Array Value} (h : jX A U) : jX A (U.calling g mk a) := by
  obtain ⟨h1, h2, h3, h4, h5, h6, h7, h8, h9, h10⟩ := h
  refine ⟨vx_Zq.moved (u := U) (U := U.calling g mk a) (Vm.Alike.refl U.vm) h1, vx_Zq.moved (u := U) (U := U.calling g mk a) (Vm.Alike.refl U.vm) h2, fun q hq => ?_, ?_, ?_, h6.moved (u := U) (U := U.calling g mk a) (Vm.Alike.refl U.vm), h7.moved (u := U) (U := U.calling g mk a) (Vm.Alike.refl U.vm), ?_, ?_, ?_⟩
  · obtain ⟨b, hb⟩ := h3 q hq
    exact ⟨b, vk_R.same (u := U) (U := U.calling g mk a) rfl hb⟩
  · exact h4
  · exact h5
  · exact h8
  · exact h9
  · exact h10
def jv_PreX (D : va_G) (cl : List vw_C) (tys : List (ClassId × FieldType)) (A : Nat → Prop) (ws : va_W) (av : List Value) : Array Value → State → Prop := va_Pc av (fun U => (va_P D cl ws U.heap ∧ va_K D cl tys U ∧ va_D A ws ∧ ∀ q : Nat, U.heap.size ≤ q → A q) ∧ jX A U)
def jv_XC (D : va_G) (cl : List vw_C) (tys : List (ClassId × FieldType)) (A : Nat → Prop) (wf : jS → va_W) (px : Nat → jS → Prop) : String → State → State → Prop := vx_X (fun u : Nat × jS => px u.1 u.2) (fun E u t => E = jE u.1 ∧ jv_End D cl tys A wf u.2 t) A
theorem katI : ∀ w ∈ (vx_atS rn_R 43 jIAE jSup).filter goodWord, w ∈ wb := fun w hw => List.mem_filter.mpr ⟨of_decide_eq_true (List.all_eq_true.mp (show ((vx_atS rn_R 43 jIAE jSup).filter goodWord).all (fun w => decide (w ∈ lw_tbl)) = true by decide +kernel) w hw), (List.mem_filter.mp hw).2⟩
theorem katS : ∀ w ∈ (vx_atS rn_R 81 jISE jSup).filter goodWord, w ∈ wb := fun w hw => List.mem_filter.mpr ⟨of_decide_eq_true (List.all_eq_true.mp (show ((vx_atS rn_R 81 jISE jSup).filter goodWord).all (fun w => decide (w ∈ lw_tbl)) = true by decide +kernel) w hw), (List.mem_filter.mp hw).2⟩
theorem kbtI : ∀ w ∈ (vx_atS rn_R 43 jIAE jSup).filter (fun w => !goodWord w), w ∈ Cond.castable jIAE jIAE :: jDec := by decide +kernel
theorem kbtS : ∀ w ∈ (vx_atS rn_R 81 jISE jSup).filter (fun w => !goodWord w), w ∈ Cond.castable jISE jISE :: jDec := by decide +kernel
theorem kgtI : ∀ w ∈ Cond.classLink rn_R 39 jIAE :: Cond.initialized jIAE :: vx_atS rn_R 43 jIAE jSup, vx_ot w = true := by decide +kernel
theorem kgtS : ∀ w ∈ Cond.classLink rn_R 77 jISE :: Cond.initialized jISE :: vx_atS rn_R 81 jISE jSup, vx_ot w = true := by decide +kernel
theorem kclI : Cond.classLink rn_R 39 jIAE ∈ wb := wb_t 220 (by decide +kernel) (by decide +kernel)
theorem kclS : Cond.classLink rn_R 77 jISE ∈ wb := wb_t 330 (by decide +kernel) (by decide +kernel)
theorem kniI : Cond.initialized jIAE ∈ wb := wb_t 10 (by decide +kernel) (by decide +kernel)
theorem kniS : Cond.initialized jISE ∈ wb := wb_t 12 (by decide +kernel) (by decide +kernel)
theorem jX.dec {A : Nat → Prop} {U : State} {args : Array Value} (h : jX A U) : ∀ w ∈ jDec, w.before args U = true := vx_c (va_Nw.use rfl h.2.2.2.2.2.2.2.1) (vx_c (va_Nw.use rfl h.2.2.2.2.2.2.2.2.1) (vx_c (va_Nw.use rfl h.2.2.2.2.2.2.2.2.2) vx_n))
section JT
variable {p : Program} {l : Launch} {e : Env} {R : Room} {s : State} {m : MethodId} {args : Array Value} {below : List Frame} {meth : Method} {c : Code} {cells slots : Nat} {Q : State → Prop}
variable {cc : ByteArray} {pc : Nat} {st : List Value} {D : va_G} {cl : List vw_C} {A : Nat → Prop} {tys : List (ClassId × FieldType)} {ws : va_W} {nL : Nat} {lv : List (Nat × Value)}
theorem jv_blindX {av : List Value} : FrameBlind (jv_PreX D cl tys A ws av) := fun a U g mk q => ⟨q.1, ⟨q.2.1.1, va_K.moved (u := U) (U := U.calling g mk a) (Vm.Alike.refl U.vm) q.2.1.2.1, q.2.1.2.2⟩, q.2.2.calling⟩
theorem jv_preX {H : Heap} {locs : List Loc} {av : List Value} (hK : va_K D cl tys s) (hA : ∀ q : Nat, s.heap.size ≤ q → A q) (hJ : jX A s) (hP : va_P D cl ws H) (hD : va_D A ws) (hS : va_S A s.heap H locs) : ∀ U : State, U.heap = H → s.WarmedH U.vm → jv_PreX D cl tys A ws av av.toArray U := fun U hU hW => ⟨rfl, ⟨by rw [hU]; exact hP, va_K.moved hW.alike hK, hD, fun q hq => hA q (Nat.le_trans hS.1 (by rw [hU] at hq; exact hq))⟩, hJ.go hS hU hW⟩
abbrev jv_CX (p : Program) (l : Launch) (s : State) (m : MethodId) (args : Array Value) (meth : Method) (c : Code) (cc : ByteArray) (nL : Nat) (ret : Option FieldType) (y : MethodName) (wl : List Cond) (D : va_G) (cl : List vw_C) (tys : List (ClassId × FieldType)) (A : Nat → Prop) : Prop :=
  jv_C p s m args meth c cc nL ret y wl D cl tys A ∧ jX A s ∧ (∀ x ∈ c.exceptionTable.toList, False) ∧ l.stackTraces = false
theorem jv_ofX {y : MethodName} {rm : Room} {av : List Value} {Qc : Array Value → State → Outcome → State → Prop} {XC : String → State → State → Prop} {mc ms maxL : Nat} {ret : Option FieldType} (hl : l.stackTraces = false) (hy : plainName y.cls = true) (hlen : (lg_sl av).length ≤ maxL)
    (body : ∀ (p : Program) (e : Env) (s : State) (m : MethodId) (below : List Frame) (meth : Method) (c : Code), jv_CX p l s m av.toArray meth c cc maxL ret y wb D cl tys A → jv_V p l e rm s m av.toArray below meth c D cl A maxL 0 0 (vx_MQ below Qc XC av.toArray s mc ms A) ws (lv_args 0 av) 0 []) : vx_Met l y (Cond.code y cc maxL ret :: wb) rm (jv_PreX D cl tys A ws av) Qc XC mc ms A := by
  refine vx_ofW (cc := cc) (maxL := maxL) (ret := ret) hy rfl ?_
  intro p e s m args below meth c s₁ B hml hex hv
  obtain ⟨rfl, ⟨hP, hK, hD, hA⟩, hJ⟩ := hv
  have hts := atoms_spec (ws := Cond.code y cc maxL ret :: wb) B.pre
  have hown : s.vm.findClass y.cls = some m.cls := findClass_of_methodNamed B.named
  have hlv := lv_entry av (n := maxL) hlen
  rw [lg_entry_eq]
  exact body p e s m below meth c ⟨⟨⟨B.exec, B.bytes⟩, hml, hown, fun w h => hts w (List.mem_cons_of_mem _ h), hK, hA, B.returns, B.notSynchronized, (name_of_methodNamed B.named B.method).1⟩, hJ, hex, hl⟩ s.heap [] _ hP hD va_S.rf hlv
theorem jv_retX {Qc : Array Value → State → Outcome → State → Prop} {XC : String → State → State → Prop} {mc ms : Nat} (k : jv_V p l e R s m args below meth c D cl A nL cells slots (MQ below Qc args s mc ms A) ws lv pc st) : jv_V p l e R s m args below meth c D cl A nL cells slots (vx_MQ below Qc XC args s mc ms A) ws lv pc st := fun H locs ls a b d h => vx_ret (k H locs ls a b d h)
theorem jv_throw {Qc : Array Value → State → Outcome → State → Prop} {wf : jS → va_W} {px : Nat → jS → Prop} {cls text : String} {ik is ic code : Nat} {names : List String} {BL : List Cond} {σ : jS} (B : jv_B p c cc) (hml : c.maxLocals = nL) (hown : s.vm.findClass rn_R = some m.cls) (hts : ∀ w ∈ wb, w.before args s = true) (hK : va_K D cl tys s) (hA : ∀ q : Nat, s.heap.size ≤ q → A q) (hJ : jX A s) (hex : ∀ x ∈ c.exceptionTable.toList, False) (hl : l.stackTraces = false) (hlk : meth.locks = false)
    (hE : jE code = cls) (hcls : Bundle.fit cls = true) (hnames : ∀ n ∈ names, Bundle.fit n = true) (hk : Cond.classLink rn_R ik cls ∈ wb) (hini : Cond.initialized cls ∈ wb) (hstr : (is, text) ∈ jStrs) (ha1 : ∀ w ∈ (vx_atS rn_R ic cls names).filter goodWord, w ∈ wb) (ha2 : ∀ w ∈ (vx_atS rn_R ic cls names).filter (fun w => !goodWord w), w ∈ BL) (hB : ∀ w ∈ BL, w.before args s = true) (hgood : ∀ w ∈ Cond.classLink rn_R ik cls :: Cond.initialized cls :: vx_atS rn_R ic cls names, vx_ot w = true)
    (hfr : names.length + 3 < R.frames) (hlo : (st.map fun v => v.category).sum + (13 * (names.length + 1) + 43) ≤ R.locals) (hc1 : 1 ≤ R.cells) (hs6 : 6 ≤ R.slots) (hw : wf σ = ws) (hp : px code σ)
    (d0 : decode cc pc = .ok (.new ik, 3)) (d3 : decode cc (pc + 3) = .ok (.dup, 1)) (d4 : decode cc (pc + 4) = .ok (.ldc is, 2)) (d6 : decode cc (pc + 6) = .ok (.invokespecial ic, 3)) (d9 : decode cc (pc + 9) = .ok (.athrow, 1)) :
    jv_V p l e R s m args below meth c D cl A nL 0 0 (vx_MQ below Qc (jv_XC D cl tys A wf px) args s 1 6 A) ws lv pc st := by
  intro H locs ls hP hD hS hlv
  subst hw
  obtain ⟨sa, hsa⟩ := hJ.2.2.1 _ hstr
  refine vx_throwS (A := A) (text := text) (sa := sa) (names := names) B.1 B.2 hl hown hcls hnames (hts _ hk) (hts _ hini) hsa (vx_hat (fun w hw => hts w (ha1 w hw)) ha2 hB) hgood hJ.1 hJ.2.1 hS (hlv.1.trans hml.symm) d0 d3 d4 d6 d9 (fun x hx => (hex x hx).elim) hfr hlo (by omega) (by omega) hlk ?_ hS.2.2 (Nat.le_refl _) (Nat.le_refl _)
  intro t hvm hz hk
  refine ⟨(code, σ), hp, ⟨hE.symm, hP.kept (fun k q hq => hk q.1 (hP k q hq).lt), va_K.moved hvm hK, hD⟩, Nat.le_trans hS.1 hz, fun q h1 h2 => ?_⟩
  rw [hk q (Nat.lt_of_lt_of_le h1 hS.1)]
  exact hS.2.1 q h1 h2
end JT

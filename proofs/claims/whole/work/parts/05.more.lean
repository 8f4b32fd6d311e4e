theorem jv_ofB {l : Launch} {D : va_G} {cl : List vw_C} {A : Nat → Prop} {tys : List (ClassId × FieldType)} {ws : va_W} {cc : ByteArray} {y : MethodName} {rm : Room} {av : List Value} {Qc : Array Value → State → Outcome → State → Prop} {mc ms maxL : Nat} {ret : Option FieldType} (hy : plainName y.cls = true) (hlen : (lg_sl av).length ≤ maxL)
    (body : ∀ (p : Program) (e : Env) (s : State) (m : MethodId) (below : List Frame) (meth : Method) (c : Code), jv_C p s m av.toArray meth c cc maxL ret y wb D cl tys A → jv_V p l e rm s m av.toArray below meth c D cl A maxL 0 0 (MQ below Qc av.toArray s mc ms A) ws (lv_args 0 av) 0 []) : Met l y (Cond.code y cc maxL ret :: wb) rm (jv_Pre D cl tys A ws av) Qc mc ms A :=
  jv_ofW hy rfl hlen (fun p e s m below meth c X => body p e s m below meth c ⟨X.1, X.2.1, X.2.2.1, fun w h => X.2.2.2.1 w (List.mem_cons_of_mem _ h), X.2.2.2.2⟩)
theorem nz {v : Int32} (h : v = 0 ∨ v = 1) : narrow .boolean (.int v) = .int v := by rcases h with rfl | rfl <;> rfl
def y_fill : MethodName := ⟨"java/util/Arrays", "fill", "([II)V"⟩
abbrev b_fill : ByteArray := prog_16_method_103_code
theorem kf_c : Cond.code y_fill b_fill 4 none ∈ wb := wb_t 293 (by decide +kernel) (by decide +kernel)
theorem kf_s : Cond.static y_fill ∈ wb := wb_t 292 (by decide +kernel) (by decide +kernel)
theorem kf_i : Cond.initialized "java/util/Arrays" ∈ wb := wb_t 11 (by decide +kernel) (by decide +kernel)
theorem kmax_c : Cond.code Lib.Math.max.name Lib.Math.max.code 2 (some .int) ∈ wb := wb_t 355 (by decide +kernel) (by decide +kernel)
theorem kmax_s : Cond.static Lib.Math.max.name ∈ wb := wb_t 354 (by decide +kernel) (by decide +kernel)
theorem kmin_c : Cond.code Lib.Math.min.name Lib.Math.min.code 2 (some .int) ∈ wb := wb_t 352 (by decide +kernel) (by decide +kernel)
theorem kmin_s : Cond.static Lib.Math.min.name ∈ wb := wb_t 351 (by decide +kernel) (by decide +kernel)
theorem kmat_i : Cond.initialized "java/lang/Math" ∈ wb := wb_t 13 (by decide +kernel) (by decide +kernel)
theorem kcp_s : Cond.static arraycopyName ∈ wb := wb_t 403 (by decide +kernel) (by decide +kernel)
theorem kcp_n : Cond.native arraycopyName ∈ wb := wb_t 404 (by decide +kernel) (by decide +kernel)
theorem kcp_i : Cond.initialized "java/lang/System" ∈ wb := wb_t 14 (by decide +kernel) (by decide +kernel)
theorem d_fill_0 : decode b_fill 0 = .ok (.iconst 0, 1) := by decide +kernel
theorem d_fill_1 : decode b_fill 1 = .ok (.istore_n 2, 1) := by decide +kernel
theorem d_fill_2 : decode b_fill 2 = .ok (.aload_n 0, 1) := by decide +kernel
theorem d_fill_3 : decode b_fill 3 = .ok (.arraylength, 1) := by decide +kernel
theorem d_fill_4 : decode b_fill 4 = .ok (.istore_n 3, 1) := by decide +kernel
theorem d_fill_5 : decode b_fill 5 = .ok (.iload_n 2, 1) := by decide +kernel
theorem d_fill_6 : decode b_fill 6 = .ok (.iload_n 3, 1) := by decide +kernel
theorem d_fill_7 : decode b_fill 7 = .ok (.if_icmp .ge 13, 3) := by decide +kernel
theorem d_fill_10 : decode b_fill 10 = .ok (.aload_n 0, 1) := by decide +kernel
theorem d_fill_11 : decode b_fill 11 = .ok (.iload_n 2, 1) := by decide +kernel
theorem d_fill_12 : decode b_fill 12 = .ok (.iload_n 1, 1) := by decide +kernel
theorem d_fill_13 : decode b_fill 13 = .ok (.iastore, 1) := by decide +kernel
theorem d_fill_14 : decode b_fill 14 = .ok (.iinc 2 1, 3) := by decide +kernel
theorem d_fill_17 : decode b_fill 17 = .ok (.goto (-12), 3) := by decide +kernel
theorem d_fill_20 : decode b_fill 20 = .ok (.return_, 1) := by decide +kernel
/-- the world with the first i places of the array at place q set to v -/
def fw (ws : va_W) (q a : Nat) (cI : ClassId) (n : Nat) (f : Nat → Int32) (v : Int32) (i : Nat) : va_W := ws.set q (a, .inl (cI, n, .inl (fun j => if j < i then v else f j)))
theorem fw_at {ws : va_W} {q a : Nat} {cI : ClassId} {n : Nat} {f : Nat → Int32} {v : Int32} {i : Nat} (h : ws[q]? = some (a, .inl (cI, n, .inl f))) : (fw ws q a cI n f v i)[q]? = some (a, .inl (cI, n, .inl (fun j => if j < i then v else f j))) := by
  have hlt : q < ws.length := (List.getElem?_eq_some_iff.mp h).1
  simp [fw, hlt]
theorem fw_next {ws : va_W} {q a : Nat} {cI : ClassId} {n : Nat} {f : Nat → Int32} {v : Int32} {i : Nat} : (fw ws q a cI n f v i).set q (a, .inl (cI, n, .inl (upd (fun j => if j < i then v else f j) i v))) = fw ws q a cI n f v (i + 1) := by
  unfold fw
  rw [List.set_set]
  congr 5
  apply congrArg Sum.inl
  funext j
  by_cases h : j = i
  · subst h; simp [upd]
  · by_cases h2 : j < i
    · simp [upd, h, h2, Nat.lt_succ_of_lt h2]
    · have h3 : ¬ j < i + 1 := by omega
      simp [upd, h, h2, h3]
theorem fw_0 {ws : va_W} {q a : Nat} {cI : ClassId} {n : Nat} {f : Nat → Int32} {v : Int32} (h : ws[q]? = some (a, .inl (cI, n, .inl f))) : fw ws q a cI n f v 0 = ws := by
  unfold fw
  have e : (fun j => if j < 0 then v else f j) = f := by funext j; simp
  rw [e]
  apply List.ext_getElem?
  intro j
  rw [List.getElem?_set]
  by_cases hj : q = j
  · subst hj
    have hlt : q < ws.length := (List.getElem?_eq_some_iff.mp h).1
    have h2 := (List.getElem?_eq_some_iff.mp h).2
    simp [hlt, h2]
  · simp [hj]
section JF
variable {p : Program} {l : Launch} {e : Env} {R : Room} {s : State} {m : MethodId} {args : Array Value} {below : List Frame} {meth : Method} {c : Code} {cells slots : Nat} {Q : State → Prop}
variable {cc : ByteArray} {pc : Nat} {st : List Value} {D : va_G} {cl : List vw_C} {A : Nat → Prop} {tys : List (ClassId × FieldType)} {ws : va_W} {nL : Nat} {lv : List (Nat × Value)} {cI : ClassId}
set_option maxRecDepth 100000 in
theorem w_fill (X : jv_C p s m args meth c b_fill 4 none y_fill wb D cl tys A) {q a n : Nat} {f : Nat → Int32} {v : Int32} (ha : ws[q]? = some (a, .inl (cI, n, .inl f))) (ht : tys[0]? = some (cI, .int)) (hn : n < 2 ^ 31) : ∀ (k i : Nat), i + k = n → jv_V p l e (rmk 1 0 0) s m args below meth c D cl A 4 0 0 (MQ below (va_Qv (fun _ : Unit => True) (jv_End D cl tys A (fun _ => fw ws q a cI n f v n)) A) args s 0 0 A) (fw ws q a cI n f v i) [(0, .ref a), (1, .int v), (2, .int (nI i)), (3, .int (nI n))] 5 [] := by
  obtain ⟨B, hml, hown, hts, hK, hA, hr, hlk, hnm⟩ := id X
  intro k
  induction k with
  | zero =>
    intro i hi
    have hi : i = n := by omega
    subst hi
    refine jv_iload_n B d_fill_5 rfl 2 rfl ?_
    refine jv_iload_n B d_fill_6 rfl 3 rfl ?_
    refine jv_icmp_ge (tgt := 20) B d_fill_7 (by decide) (fun hc => ?_) (fun hc => ?_)
    · exact jv_vret B hr hlk hK () rfl trivial d_fill_20
    · exact absurd (nI_le (Nat.le_refl i) hn) hc
  | succ k ih =>
    intro i hi
    refine jv_iload_n B d_fill_5 rfl 2 rfl ?_
    refine jv_iload_n B d_fill_6 rfl 3 rfl ?_
    refine jv_icmp_ge (tgt := 20) B d_fill_7 (by decide) (fun hc => ?_) (fun hc => ?_)
    · exact absurd hc (nI_ge (by omega) hn)
    · refine jv_aload_n B d_fill_10 rfl 0 rfl ?_
      refine jv_iload_n B d_fill_11 rfl 2 rfl ?_
      refine jv_iload_n B d_fill_12 rfl 1 rfl ?_
      have hin : vp_in (nI i) n := vp_in_nI (by omega) hn
      have hcl : (nI i).toNatClampNeg = i := nI_clamp (by omega)
      refine jv_iast (ws' := fw ws q a cI n f v (i + 1)) B hK q 0 (fw_at ha) ht hin d_fill_13 (by rw [hcl]; exact fw_next) ?_
      refine jv_iinc (n9 := 2) (v := nI (i + 1)) (lv' := [(2, .int (nI (i + 1))), (0, .ref a), (1, .int v), (3, .int (nI n))]) B d_fill_14 rfl (nI_1 i) (by decide) rfl ?_
      refine jv_goto (tgt := 5) B d_fill_17 (by decide) ?_
      refine jv_sub [1, 2, 0, 3] rfl ?_
      exact ih (i + 1) (by omega)
set_option maxRecDepth 100000 in
theorem c_fill {q a n : Nat} {f : Nat → Int32} {v : Int32} (ha : ws[q]? = some (a, .inl (cI, n, .inl f))) (ht : tys[0]? = some (cI, .int)) (hn : n < 2 ^ 31) : Met l y_fill (Cond.code y_fill b_fill 4 none :: wb) (rmk 1 0 0) (jv_Pre D cl tys A ws [.ref a, .int v]) (va_Qv (fun _ : Unit => True) (jv_End D cl tys A (fun _ => fw ws q a cI n f v n)) A) 0 0 A := by
  refine jv_ofB (by decide) (Nat.le_of_ble_eq_true rfl) (fun p e s m below meth c X => ?_)
  obtain ⟨B, hml, hown, hts, hK, hA, hr, hlk, hnm⟩ := id X
  show jv_V p l e (rmk 1 0 0) s m _ below meth c D cl A 4 0 0 _ ws [(0, .ref a), (1, .int v)] 0 []
  refine jv_iconst (v := 0) B d_fill_0 (by decide) ?_
  refine jv_istore_n (lv' := [(2, .int 0), (0, .ref a), (1, .int v)]) B d_fill_1 rfl (by decide) rfl ?_
  refine jv_aload_n B d_fill_2 rfl 1 rfl ?_
  refine jv_alen (v := nI n) B hK q 0 ha ht rfl d_fill_3 ?_
  refine jv_istore_n (lv' := [(3, .int (nI n)), (2, .int 0), (0, .ref a), (1, .int v)]) B d_fill_4 rfl (by decide) rfl ?_
  refine jv_sub [2, 3, 1, 0] rfl ?_
  have h := w_fill (l := l) (e := e) (below := below) (v := v) X ha ht hn n 0 (by omega)
  rw [fw_0 ha] at h
  exact h
theorem gw_F {own : String} {idx maxL : Nat} {y : MethodName} {cc : ByteArray} {ret : Option FieldType} (h1 : Cond.methodLink own idx y ∈ wb) (h2 : Cond.static y ∈ wb) (h4 : Cond.initialized y.cls ∈ wb) (h5 : Cond.code y cc maxL ret ∈ wb) : GoodIn wb (va_wsS own idx y (Cond.code y cc maxL ret :: wb)) := by
  intro w hw
  have h : w ∈ wb := by
    simp only [va_wsS, List.cons_append, List.nil_append, List.mem_cons] at hw
    rcases hw with rfl | rfl | rfl | rfl | hw
    · exact h1
    · exact h2
    · exact h4
    · exact h5
    · exact hw
  exact ⟨h, wb_good h⟩
theorem hd_fill : y_fill.cls ≠ "java/lang/invoke/MethodHandle" ∧ y_fill.cls ≠ "java/lang/invoke/VarHandle" ∧ (parseMethodDescriptor y_fill.desc).map (fun d => d.parameters.length) = some 2 := by decide +kernel
theorem jv_fill {own : String} {index : Nat} (B : jv_B p c cc) (hml : c.maxLocals = nL) (hown : s.vm.findClass own = some m.cls) (hts : ∀ w ∈ wb, w.before args s = true) (hK : va_K D cl tys s) (hA : ∀ q : Nat, s.heap.size ≤ q → A q) (hlw : Cond.methodLink own index y_fill ∈ wb) (q : Nat) {a n : Nat} {f : Nat → Int32} {v : Int32} {ws' : va_W} (ha : ws[q]? = some (a, .inl (cI, n, .inl f))) (ht : tys[0]? = some (cI, .int)) (hn : n < 2 ^ 31) (hw : ws.set q (a, .inl (cI, n, .inl (fun j => if j < n then v else f j))) = ws') (hfr : 2 ≤ R.frames) (hlo : 55 ≤ R.locals) (hf : cells ≤ R.cells ∧ slots ≤ R.slots) (hW : (st.map fun v => v.category).sum ≤ 8) (hd : decode cc pc = .ok (.invokestatic index, 3))
    (k : jv_V p l e R s m args below meth c D cl A nL cells slots Q ws' lv (pc + 3) st) : jv_V p l e R s m args below meth c D cl A nL cells slots Q ws lv pc (.int v :: .ref a :: st) := by
  subst hw
  exact jv_cvs (As := [.ref a, .int v]) B hml hown hts hK hA (c_fill (v := v) ha ht hn) (va_cwS 2 hts (gw_F hlw kf_s kf_i kf_c) rfl rfl rfl hd_fill ⟨hfr, hlo⟩) rfl hW hd hf rfl (fun _ _ => k)
theorem jv_mmax {own : String} {index : Nat} {x y : Int32} (B : jv_B p c cc) (hml : c.maxLocals = nL) (hown : s.vm.findClass own = some m.cls) (hts : ∀ w ∈ wb, w.before args s = true) (hlink : (Cond.methodLink own index Lib.Math.max.name).before args s = true)
    (hframes : 1 ≤ R.frames) (hlocals : (st.map fun v => v.category).sum + 13 ≤ R.locals) (hc : cells ≤ R.cells) (hs : slots ≤ R.slots) (hd : decode cc pc = .ok (.invokestatic index, 3))
    (k : jv_V p l e R s m args below meth c D cl A nL cells slots Q ws lv (pc + 3) (.int (if x < y then y else x) :: st)) : jv_V p l e R s m args below meth c D cl A nL cells slots Q ws lv pc (.int y :: .int x :: st) := fun H locs ls a b d h => va_mmax B.1 B.2 (hml.trans h.1.symm) hown hlink (hts _ kmax_s) (hts _ kmat_i) (hts _ kmax_c) hframes hlocals hc hs hd (k H locs ls a b d h)
theorem jv_mmin {own : String} {index : Nat} {x y : Int32} (B : jv_B p c cc) (hml : c.maxLocals = nL) (hown : s.vm.findClass own = some m.cls) (hts : ∀ w ∈ wb, w.before args s = true) (hlink : (Cond.methodLink own index Lib.Math.min.name).before args s = true)
    (hframes : 1 ≤ R.frames) (hlocals : (st.map fun v => v.category).sum + 13 ≤ R.locals) (hc : cells ≤ R.cells) (hs : slots ≤ R.slots) (hd : decode cc pc = .ok (.invokestatic index, 3))
    (k : jv_V p l e R s m args below meth c D cl A nL cells slots Q ws lv (pc + 3) (.int (if y < x then y else x) :: st)) : jv_V p l e R s m args below meth c D cl A nL cells slots Q ws lv pc (.int y :: .int x :: st) := fun H locs ls a b d h => va_mmin B.1 B.2 (hml.trans h.1.symm) hown hlink (hts _ kmin_s) (hts _ kmat_i) (hts _ kmin_c) hframes hlocals hc hs hd (k H locs ls a b d h)
theorem jv_copy {own : String} {index : Nat} (B : jv_B p c cc) (hml : c.maxLocals = nL) (hown : s.vm.findClass own = some m.cls) (hts : ∀ w ∈ wb, w.before args s = true) (hK : va_K D cl tys s) (hlink : (Cond.methodLink own index arraycopyName).before args s = true) (q0 q1 : Nat) {a0 a n0 n1 : Nat} {f g : Nat → Int32} {sp dp n : Int32} {ws' : va_W} (ha0 : ws[q0]? = some (a0, .inl (cI, n0, .inl f))) (ha1 : ws[q1]? = some (a, .inl (cI, n1, .inl g))) (ht : tys[0]? = some (cI, .int))
    (hb : ¬ sp < 0 ∧ ¬ dp < 0 ∧ ¬ n < 0 ∧ sp.toNatClampNeg + n.toNatClampNeg ≤ n0 ∧ dp.toNatClampNeg + n.toNatClampNeg ≤ n1) (hw : ws.set q1 (a, .inl (cI, n1, .inl (va_cpy f g sp.toNatClampNeg dp.toNatClampNeg n.toNatClampNeg))) = ws') (hframes : 1 ≤ R.frames) (hlocals : (st.map fun v => v.category).sum + (nativeFrameWords "java/lang/System" "arraycopy" 5 + 11) ≤ R.locals) (hd : decode cc pc = .ok (.invokestatic index, 3))
    (k : jv_V p l e R s m args below meth c D cl A nL cells slots Q ws' lv (pc + 3) st) : jv_V p l e R s m args below meth c D cl A nL cells slots Q ws lv pc (.int n :: .int dp :: .ref a :: .int sp :: .ref a0 :: st) := fun H locs ls a9 b d h => va_copyi (ty := .int) B.1 B.2 (hml.trans h.1.symm) hown hlink (hts _ kcp_n) (hts _ kcp_s) (hts _ kcp_i) hK a9 b d q0 q1 0 0 ha0 ha1 ht ht rfl hb.1 hb.2.1 hb.2.2.1 hb.2.2.2.1 hb.2.2.2.2 (fun _ _ => rfl) hframes hlocals hd (fun H1 locs1 a1 b1 d1 => k H1 locs1 ls (hw ▸ a1) (hw ▸ b1) d1 h)
theorem jv_tsw {n : Nat} {tg : Nat → Nat} {tgd : Nat} {dflt hi : Int} {offs : Array Int} {len : Nat} {x : Int32} (B : jv_B p c cc) (hd : decode cc pc = .ok (.tableswitch dflt 0 hi offs, len)) (hhi : hi + 1 = (n : Int)) (htd : (pc : Int) + dflt = (tgd : Int)) (htg : ∀ j, j < n → offs[j]? = some ((tg j : Int) - (pc : Int)))
    (kin : ∀ j, j < n → x = nI j → jv_V p l e R s m args below meth c D cl A nL cells slots Q ws lv (tg j) st) (kd : (x < 0 ∨ nI n ≤ x) → jv_V p l e R s m args below meth c D cl A nL cells slots Q ws lv tgd st) (hn : n < 2 ^ 31 := by decide) : jv_V p l e R s m args below meth c D cl A nL cells slots Q ws lv pc (.int x :: st) := by
  intro H locs ls a b d h
  rcases pk_ix x hn with hx | hx | ⟨j, hj, hx⟩
  · refine lv_tableOut B.1 B.2 hd (Or.inl ?_) htd (kd (Or.inl hx) H locs ls a b d h)
    rw [Int32.lt_iff_toInt_lt, Int32.toInt_zero] at hx
    exact hx
  · refine lv_tableOut B.1 B.2 hd (Or.inr ?_) htd (kd (Or.inr hx) H locs ls a b d h)
    rw [Int32.le_iff_toInt_le, nI_toInt hn] at hx
    omega
  · have hxt : x.toInt = (j : Int) := by rw [hx, nI_toInt (by omega)]
    refine lv_tableIn (tgt := tg j) (off := (tg j : Int) - (pc : Int)) B.1 B.2 hd (by omega) (by omega) ?_ (by omega) (kin j hj hx H locs ls a b d h)
    rw [hxt]
    have e : ((j : Int) - 0).toNat = j := by omega
    rw [e]
    exact htg j hj
end JF

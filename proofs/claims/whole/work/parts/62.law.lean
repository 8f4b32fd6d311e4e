/-! the law: its world is the class's, the array of one long, the reference's -/
abbrev oc (ao : Nat) (cL : ClassId) (fo : Nat → Int64) : Nat × va_E := (ao, .inl (cL, 1, .inr (.inl fo)))
section JL
variable {p : Program} {l : Launch} {e : Env} {R : Room} {s : State} {m : MethodId} {args : Array Value} {below : List Frame} {meth : Method} {c : Code} {cells slots : Nat} {Q : State → Prop}
variable {cc : ByteArray} {pc : Nat} {st : List Value} {D : va_G} {cl : List vw_C} {A : Nat → Prop} {tys : List (ClassId × FieldType)} {ws : va_W} {nL : Nat} {lv : List (Nat × Value)} {cI cA cL : ClassId} {ad am : Nat → Nat} {ao : Nat} {σ ρ : jS} {fo : Nat → Int64}
set_option maxRecDepth 100000 in
theorem jv_toM (k : jv_V p l e R s m args below meth c D cl A nL cells slots Q (mw am cI cA ρ (cw ad cI cA σ [oc ao cL fo])) lv pc st) : jv_V p l e R s m args below meth c D cl A nL cells slots Q (cw ad cI cA σ (oc ao cL fo :: mw am cI cA ρ [])) lv pc st := jv_ws [15, 16, 17, 18, 19, 20, 21, 22, 0, 1, 2, 3, 4, 5, 6, 7, 8, 9, 10, 11, 12, 13, 14] (by decide) rfl rfl k
set_option maxRecDepth 100000 in
theorem jv_toC (k : jv_V p l e R s m args below meth c D cl A nL cells slots Q (cw ad cI cA σ (oc ao cL fo :: mw am cI cA ρ [])) lv pc st) : jv_V p l e R s m args below meth c D cl A nL cells slots Q (mw am cI cA ρ (cw ad cI cA σ [oc ao cL fo])) lv pc st := jv_ws [8, 9, 10, 11, 12, 13, 14, 15, 16, 17, 18, 19, 20, 21, 22, 0, 1, 2, 3, 4, 5, 6, 7] (by decide) rfl rfl k
theorem jv_sld (B : jv_B p c cc) {b L : Nat} {xs : Nat → Int32} (hX : va_X b L xs s s.heap) (hbl : b < s.heap.size) (hbA : ¬ A b) {i : Int32} (hi : vp_in i L) (hd : decode cc pc = .ok (.iaload, 1))
    (k : jv_V p l e R s m args below meth c D cl A nL cells slots Q ws lv (pc + 1) (.int (xs i.toNatClampNeg) :: st)) : jv_V p l e R s m args below meth c D cl A nL cells slots Q ws lv pc (.int i :: .ref b :: st) := fun H locs ls a9 b9 d h => va_sld B.1 B.2 hX hbl hbA d hi hd (k H locs ls a9 b9 d h)
theorem jv_slen (B : jv_B p c cc) {b L : Nat} {xs : Nat → Int32} (hX : va_X b L xs s s.heap) (hbl : b < s.heap.size) (hbA : ¬ A b) (hd : decode cc pc = .ok (.arraylength, 1))
    (k : jv_V p l e R s m args below meth c D cl A nL cells slots Q ws lv (pc + 1) (.int (nI L) :: st)) : jv_V p l e R s m args below meth c D cl A nL cells slots Q ws lv pc (.ref b :: st) := fun H locs ls a9 b9 d h => va_slen B.1 B.2 hX hbl hbA d hd (k H locs ls a9 b9 d h)
theorem jv_hs {S : Type} {wf : S → va_W} {y : MethodName} {bytes : ByteArray} {maxL mc ms n index : Nat} {ret : Option FieldType} {hh : List (Nat × Nat × Nat × Nat)} {wl Ts : List Cond} {rm : Room} {own : String} {As : List Value} {post : Int32 → S → Prop} (B : jv_B p c cc) (hml : c.maxLocals = nL) (hown : s.vm.findClass own = some m.cls) (hts : ∀ w ∈ Ts, w.before args s = true) (hK : va_K D cl tys s) (hA : ∀ q : Nat, s.heap.size ≤ q → A q) (hJ : jX A s)
    (hM : Met l y wl rm (jv_PreX D cl tys A ws As) (va_Qi post (jv_End D cl tys A wf) A) mc ms A) (cw : vx_CSW R s args own index y bytes maxL ret hh wl rm mc ms n)
    (hn : As.length = n) (hW : (st.map fun v => v.category).sum ≤ 8) (hd : decode cc pc = .ok (.invokestatic index, 3)) (hf : cells + mc ≤ R.cells ∧ slots + ms ≤ R.slots) {st0 : List Value} (hst : st0 = As.reverse ++ st)
    (k : ∀ (r : Int32) (u : S), post r u → jv_V p l e R s m args below meth c D cl A nL (cells + mc) (slots + ms) Q (wf u) lv (pc + 3) (.int r :: st)) : jv_V p l e R s m args below meth c D cl A nL cells slots Q ws lv pc st0 := by
  intro H locs ls hP hD hS hl
  exact va_calli (vx_runSW (As := As) (rest := st) ⟨B.1, B.2, hml, hown, hts⟩ hM cw ⟨jv_blindX, jv_preX hK hA hJ hP hD hS⟩ rfl hn hl.1 hst (lv_room hW) hd hf) hS (fun _ _ h => h) (fun _ h => h) (fun r u t H1 locs1 ht hvm hp hB hz hk hS1 => k r u hp H1 locs1 ls (ht ▸ hB.1) hB.2.2 hS1 hl)
theorem gw_H {own : String} {idx maxL : Nat} {y : MethodName} {cc : ByteArray} {ret : Option FieldType} {hh : List (Nat × Nat × Nat × Nat)} (h1 : Cond.methodLink own idx y ∈ wb) (h2 : Cond.static y ∈ wb) (h4 : Cond.initialized y.cls ∈ wb) (h5 : Cond.codeWith y cc maxL ret hh ∈ wb) : GoodIn wb (va_wsS own idx y (Cond.codeWith y cc maxL ret hh :: wb)) := by
  intro w hw
  have h : w ∈ wb := by
    simp only [va_wsS, List.cons_append, List.nil_append, List.mem_cons] at hw
    rcases hw with rfl | rfl | rfl | rfl | hw
    · exact h1
    · exact h2
    · exact h4
    · exact h5
    · exact hw
  exact ⟨h, wb_good h⟩
end JL
/-- all that the law's walk knows from its entry on -/
abbrev jv_CL (p : Program) (l : Launch) (s : State) (m : MethodId) (args : Array Value) (c : Code) (D : va_G) (A : Nat → Prop) (cI cA cL : ClassId) (b L : Nat) (xs : Nat → Int32) : Prop :=
  jv_B p c code ∧ c.maxLocals = 7 ∧ s.vm.findClass rn_L = some m.cls ∧ (∀ w ∈ wb, w.before args s = true) ∧ va_K D jClasses (jTy cI cA cL) s ∧ (∀ q : Nat, s.heap.size ≤ q → A q) ∧ jX A s ∧ va_X b L xs s s.heap ∧ b < s.heap.size ∧ ¬ A b ∧ l.stackTraces = false
theorem kw_0 : Cond.initialized rn_L ∈ wb := wb_t 0 (by decide +kernel) (by decide +kernel)
theorem kw_127 : Cond.methodLink rn_L 92 y_R_state ∈ wb := wb_t 127 (by decide +kernel) (by decide +kernel)
theorem kw_128 : Cond.instanceMethod y_R_state ∈ wb := wb_t 128 (by decide +kernel) (by decide +kernel)
theorem kw_129 : Cond.selects rn_R y_R_state y_R_state ∈ wb := wb_t 129 (by decide +kernel) (by decide +kernel)
theorem kw_130 : Cond.code y_R_state b_R_state 2 (some .int) ∈ wb := wb_t 130 (by decide +kernel) (by decide +kernel)
theorem kw_139 : Cond.methodLink rn_L 96 y_R_count ∈ wb := wb_t 139 (by decide +kernel) (by decide +kernel)
theorem kw_140 : Cond.instanceMethod y_R_count ∈ wb := wb_t 140 (by decide +kernel) (by decide +kernel)
theorem kw_141 : Cond.selects rn_R y_R_count y_R_count ∈ wb := wb_t 141 (by decide +kernel) (by decide +kernel)
theorem kw_142 : Cond.code y_R_count b_R_count 2 (some .int) ∈ wb := wb_t 142 (by decide +kernel) (by decide +kernel)
theorem kw_147 : Cond.methodLink rn_L 100 y_R_part ∈ wb := wb_t 147 (by decide +kernel) (by decide +kernel)
theorem kw_148 : Cond.instanceMethod y_R_part ∈ wb := wb_t 148 (by decide +kernel) (by decide +kernel)
theorem kw_149 : Cond.selects rn_R y_R_part y_R_part ∈ wb := wb_t 149 (by decide +kernel) (by decide +kernel)
theorem kw_150 : Cond.code y_R_part b_R_part 4 (some .int) ∈ wb := wb_t 150 (by decide +kernel) (by decide +kernel)
theorem kw_164 : Cond.methodLink rn_L 105 y_R_phase ∈ wb := wb_t 164 (by decide +kernel) (by decide +kernel)
theorem kw_165 : Cond.instanceMethod y_R_phase ∈ wb := wb_t 165 (by decide +kernel) (by decide +kernel)
theorem kw_166 : Cond.selects rn_R y_R_phase y_R_phase ∈ wb := wb_t 166 (by decide +kernel) (by decide +kernel)
theorem kw_167 : Cond.code y_R_phase b_R_phase 1 (some .int) ∈ wb := wb_t 167 (by decide +kernel) (by decide +kernel)
theorem kw_172 : Cond.methodLink rn_L 109 y_R_out ∈ wb := wb_t 172 (by decide +kernel) (by decide +kernel)
theorem kw_173 : Cond.instanceMethod y_R_out ∈ wb := wb_t 173 (by decide +kernel) (by decide +kernel)
theorem kw_174 : Cond.selects rn_R y_R_out y_R_out ∈ wb := wb_t 174 (by decide +kernel) (by decide +kernel)
theorem kw_175 : Cond.code y_R_out b_R_out 2 (some .int) ∈ wb := wb_t 175 (by decide +kernel) (by decide +kernel)
theorem kw_184 : Cond.methodLink rn_L 113 y_R_reads ∈ wb := wb_t 184 (by decide +kernel) (by decide +kernel)
theorem kw_185 : Cond.instanceMethod y_R_reads ∈ wb := wb_t 185 (by decide +kernel) (by decide +kernel)
theorem kw_186 : Cond.selects rn_R y_R_reads y_R_reads ∈ wb := wb_t 186 (by decide +kernel) (by decide +kernel)
theorem kw_187 : Cond.code y_R_reads b_R_reads 2 (some .int) ∈ wb := wb_t 187 (by decide +kernel) (by decide +kernel)
theorem kw_192 : Cond.methodLink rn_L 117 y_R_made ∈ wb := wb_t 192 (by decide +kernel) (by decide +kernel)
theorem kw_193 : Cond.instanceMethod y_R_made ∈ wb := wb_t 193 (by decide +kernel) (by decide +kernel)
theorem kw_194 : Cond.selects rn_R y_R_made y_R_made ∈ wb := wb_t 194 (by decide +kernel) (by decide +kernel)
theorem kw_195 : Cond.code y_R_made b_R_made 2 (some .int) ∈ wb := wb_t 195 (by decide +kernel) (by decide +kernel)
theorem kw_200 : Cond.methodLink rn_L 122 y_R_image ∈ wb := wb_t 200 (by decide +kernel) (by decide +kernel)
theorem kw_201 : Cond.instanceMethod y_R_image ∈ wb := wb_t 201 (by decide +kernel) (by decide +kernel)
theorem kw_202 : Cond.selects rn_R y_R_image y_R_image ∈ wb := wb_t 202 (by decide +kernel) (by decide +kernel)
theorem kw_203 : Cond.code y_R_image b_R_image 3 (some .int) ∈ wb := wb_t 203 (by decide +kernel) (by decide +kernel)
theorem kw_212 : Cond.methodLink rn_L 52 y_L_source ∈ wb := wb_t 212 (by decide +kernel) (by decide +kernel)
theorem kw_213 : Cond.static y_L_source ∈ wb := wb_t 213 (by decide +kernel) (by decide +kernel)
theorem kw_214 : Cond.codeWith y_L_source b_L_source 3 (some .int) [(0, 5, 8, 13)] ∈ wb := wb_t 214 (by decide +kernel) (by decide +kernel)
theorem kw_303 : Cond.methodLink rn_L 61 y_L_sector ∈ wb := wb_t 303 (by decide +kernel) (by decide +kernel)
theorem kw_304 : Cond.static y_L_sector ∈ wb := wb_t 304 (by decide +kernel) (by decide +kernel)
theorem kw_305 : Cond.codeWith y_L_sector b_L_sector 5 (some .int) [(0, 7, 10, 13)] ∈ wb := wb_t 305 (by decide +kernel) (by decide +kernel)
theorem kw_317 : Cond.methodLink rn_L 65 y_L_begin ∈ wb := wb_t 317 (by decide +kernel) (by decide +kernel)
theorem kw_318 : Cond.static y_L_begin ∈ wb := wb_t 318 (by decide +kernel) (by decide +kernel)
theorem kw_319 : Cond.codeWith y_L_begin b_L_begin 3 (some .int) [(0, 5, 8, 13), (0, 5, 11, 22)] ∈ wb := wb_t 319 (by decide +kernel) (by decide +kernel)
theorem kw_369 : Cond.methodLink rn_L 68 y_L_step ∈ wb := wb_t 369 (by decide +kernel) (by decide +kernel)
theorem kw_370 : Cond.static y_L_step ∈ wb := wb_t 370 (by decide +kernel) (by decide +kernel)
theorem kw_371 : Cond.codeWith y_L_step b_L_step 3 (some .int) [(0, 8, 11, 22)] ∈ wb := wb_t 371 (by decide +kernel) (by decide +kernel)
theorem kw_450 : Cond.methodLink rn_L 72 y_L_run ∈ wb := wb_t 450 (by decide +kernel) (by decide +kernel)
theorem kw_451 : Cond.static y_L_run ∈ wb := wb_t 451 (by decide +kernel) (by decide +kernel)
theorem kw_452 : Cond.codeWith y_L_run b_L_run 4 (some .int) [(0, 9, 12, 13), (0, 9, 15, 22)] ∈ wb := wb_t 452 (by decide +kernel) (by decide +kernel)
theorem kw_458 : Cond.methodLink rn_L 76 y_L_save ∈ wb := wb_t 458 (by decide +kernel) (by decide +kernel)
theorem kw_459 : Cond.static y_L_save ∈ wb := wb_t 459 (by decide +kernel) (by decide +kernel)
theorem kw_460 : Cond.codeWith y_L_save b_L_save 3 (some .int) [(0, 8, 11, 22)] ∈ wb := wb_t 460 (by decide +kernel) (by decide +kernel)
theorem kw_498 : Cond.methodLink rn_L 79 y_L_stop ∈ wb := wb_t 498 (by decide +kernel) (by decide +kernel)
theorem kw_499 : Cond.static y_L_stop ∈ wb := wb_t 499 (by decide +kernel) (by decide +kernel)
theorem kw_500 : Cond.codeWith y_L_stop b_L_stop 4 (some .int) [(0, 9, 12, 13), (0, 9, 15, 22)] ∈ wb := wb_t 500 (by decide +kernel) (by decide +kernel)
theorem kw_510 : Cond.methodLink rn_L 82 y_L_resume ∈ wb := wb_t 510 (by decide +kernel) (by decide +kernel)
theorem kw_511 : Cond.static y_L_resume ∈ wb := wb_t 511 (by decide +kernel) (by decide +kernel)
theorem kw_512 : Cond.codeWith y_L_resume b_L_resume 3 (some .int) [(0, 8, 11, 22)] ∈ wb := wb_t 512 (by decide +kernel) (by decide +kernel)
theorem kw_537 : Cond.methodLink rn_L 85 y_L_poke ∈ wb := wb_t 537 (by decide +kernel) (by decide +kernel)
theorem kw_538 : Cond.static y_L_poke ∈ wb := wb_t 538 (by decide +kernel) (by decide +kernel)
theorem kw_539 : Cond.codeWith y_L_poke b_L_poke 5 (some .int) [(0, 7, 10, 13)] ∈ wb := wb_t 539 (by decide +kernel) (by decide +kernel)
theorem kw_548 : Cond.methodLink rn_L 88 y_L_second ∈ wb := wb_t 548 (by decide +kernel) (by decide +kernel)
theorem kw_549 : Cond.static y_L_second ∈ wb := wb_t 549 (by decide +kernel) (by decide +kernel)
theorem kw_550 : Cond.codeWith y_L_second b_L_second 5 (some .int) [(0, 17, 20, 13), (0, 17, 24, 22)] ∈ wb := wb_t 550 (by decide +kernel) (by decide +kernel)
theorem kw_630 : Cond.methodLink rn_L 58 y_M_thrown ∈ wb := wb_t 630 (by decide +kernel) (by decide +kernel)
theorem kw_631 : Cond.instanceMethod y_M_thrown ∈ wb := wb_t 631 (by decide +kernel) (by decide +kernel)
theorem kw_632 : Cond.selects rn_M y_M_thrown y_M_thrown ∈ wb := wb_t 632 (by decide +kernel) (by decide +kernel)
theorem kw_633 : Cond.code y_M_thrown b_M_thrown 1 (some .int) ∈ wb := wb_t 633 (by decide +kernel) (by decide +kernel)
theorem kw_634 : Cond.methodLink rn_L 57 y_M_source ∈ wb := wb_t 634 (by decide +kernel) (by decide +kernel)
theorem kw_635 : Cond.instanceMethod y_M_source ∈ wb := wb_t 635 (by decide +kernel) (by decide +kernel)
theorem kw_636 : Cond.selects rn_M y_M_source y_M_source ∈ wb := wb_t 636 (by decide +kernel) (by decide +kernel)
theorem kw_637 : Cond.code y_M_source b_M_source 3 none ∈ wb := wb_t 637 (by decide +kernel) (by decide +kernel)
theorem kw_638 : Cond.methodLink rn_L 64 y_M_sector ∈ wb := wb_t 638 (by decide +kernel) (by decide +kernel)
theorem kw_639 : Cond.instanceMethod y_M_sector ∈ wb := wb_t 639 (by decide +kernel) (by decide +kernel)
theorem kw_640 : Cond.selects rn_M y_M_sector y_M_sector ∈ wb := wb_t 640 (by decide +kernel) (by decide +kernel)
theorem kw_641 : Cond.code y_M_sector b_M_sector 4 none ∈ wb := wb_t 641 (by decide +kernel) (by decide +kernel)
theorem kw_646 : Cond.methodLink rn_L 67 y_M_begin ∈ wb := wb_t 646 (by decide +kernel) (by decide +kernel)
theorem kw_647 : Cond.instanceMethod y_M_begin ∈ wb := wb_t 647 (by decide +kernel) (by decide +kernel)
theorem kw_648 : Cond.selects rn_M y_M_begin y_M_begin ∈ wb := wb_t 648 (by decide +kernel) (by decide +kernel)
theorem kw_649 : Cond.code y_M_begin b_M_begin 3 none ∈ wb := wb_t 649 (by decide +kernel) (by decide +kernel)
theorem kw_654 : Cond.methodLink rn_L 71 y_M_step ∈ wb := wb_t 654 (by decide +kernel) (by decide +kernel)
theorem kw_655 : Cond.instanceMethod y_M_step ∈ wb := wb_t 655 (by decide +kernel) (by decide +kernel)
theorem kw_656 : Cond.selects rn_M y_M_step y_M_step ∈ wb := wb_t 656 (by decide +kernel) (by decide +kernel)
theorem kw_657 : Cond.code y_M_step b_M_step 1 (some .int) ∈ wb := wb_t 657 (by decide +kernel) (by decide +kernel)
theorem kw_698 : Cond.methodLink rn_L 75 y_M_run ∈ wb := wb_t 698 (by decide +kernel) (by decide +kernel)
theorem kw_699 : Cond.instanceMethod y_M_run ∈ wb := wb_t 699 (by decide +kernel) (by decide +kernel)
theorem kw_700 : Cond.selects rn_M y_M_run y_M_run ∈ wb := wb_t 700 (by decide +kernel) (by decide +kernel)
theorem kw_701 : Cond.code y_M_run b_M_run 3 (some .int) ∈ wb := wb_t 701 (by decide +kernel) (by decide +kernel)
theorem kw_702 : Cond.methodLink rn_L 78 y_M_save ∈ wb := wb_t 702 (by decide +kernel) (by decide +kernel)
theorem kw_703 : Cond.instanceMethod y_M_save ∈ wb := wb_t 703 (by decide +kernel) (by decide +kernel)
theorem kw_704 : Cond.selects rn_M y_M_save y_M_save ∈ wb := wb_t 704 (by decide +kernel) (by decide +kernel)
theorem kw_705 : Cond.code y_M_save b_M_save 1 (some .int) ∈ wb := wb_t 705 (by decide +kernel) (by decide +kernel)
theorem kw_729 : Cond.methodLink rn_L 81 y_M_stop ∈ wb := wb_t 729 (by decide +kernel) (by decide +kernel)
theorem kw_730 : Cond.instanceMethod y_M_stop ∈ wb := wb_t 730 (by decide +kernel) (by decide +kernel)
theorem kw_731 : Cond.selects rn_M y_M_stop y_M_stop ∈ wb := wb_t 731 (by decide +kernel) (by decide +kernel)
theorem kw_732 : Cond.code y_M_stop b_M_stop 2 (some .int) ∈ wb := wb_t 732 (by decide +kernel) (by decide +kernel)
theorem kw_733 : Cond.methodLink rn_L 84 y_M_resume ∈ wb := wb_t 733 (by decide +kernel) (by decide +kernel)
theorem kw_734 : Cond.instanceMethod y_M_resume ∈ wb := wb_t 734 (by decide +kernel) (by decide +kernel)
theorem kw_735 : Cond.selects rn_M y_M_resume y_M_resume ∈ wb := wb_t 735 (by decide +kernel) (by decide +kernel)
theorem kw_736 : Cond.code y_M_resume b_M_resume 7 (some .int) ∈ wb := wb_t 736 (by decide +kernel) (by decide +kernel)
theorem kw_745 : Cond.methodLink rn_L 87 y_M_poke ∈ wb := wb_t 745 (by decide +kernel) (by decide +kernel)
theorem kw_746 : Cond.instanceMethod y_M_poke ∈ wb := wb_t 746 (by decide +kernel) (by decide +kernel)
theorem kw_747 : Cond.selects rn_M y_M_poke y_M_poke ∈ wb := wb_t 747 (by decide +kernel) (by decide +kernel)
theorem kw_748 : Cond.code y_M_poke b_M_poke 4 none ∈ wb := wb_t 748 (by decide +kernel) (by decide +kernel)
theorem kw_749 : Cond.methodLink rn_L 91 y_M_second ∈ wb := wb_t 749 (by decide +kernel) (by decide +kernel)
theorem kw_750 : Cond.instanceMethod y_M_second ∈ wb := wb_t 750 (by decide +kernel) (by decide +kernel)
theorem kw_751 : Cond.selects rn_M y_M_second y_M_second ∈ wb := wb_t 751 (by decide +kernel) (by decide +kernel)
theorem kw_752 : Cond.code y_M_second b_M_second 3 (some .boolean) ∈ wb := wb_t 752 (by decide +kernel) (by decide +kernel)
theorem kw_753 : Cond.methodLink rn_L 95 y_M_state ∈ wb := wb_t 753 (by decide +kernel) (by decide +kernel)
theorem kw_754 : Cond.instanceMethod y_M_state ∈ wb := wb_t 754 (by decide +kernel) (by decide +kernel)
theorem kw_755 : Cond.selects rn_M y_M_state y_M_state ∈ wb := wb_t 755 (by decide +kernel) (by decide +kernel)
theorem kw_756 : Cond.code y_M_state b_M_state 2 (some .int) ∈ wb := wb_t 756 (by decide +kernel) (by decide +kernel)
theorem kw_757 : Cond.methodLink rn_L 99 y_M_count ∈ wb := wb_t 757 (by decide +kernel) (by decide +kernel)
theorem kw_758 : Cond.instanceMethod y_M_count ∈ wb := wb_t 758 (by decide +kernel) (by decide +kernel)
theorem kw_759 : Cond.selects rn_M y_M_count y_M_count ∈ wb := wb_t 759 (by decide +kernel) (by decide +kernel)
theorem kw_760 : Cond.code y_M_count b_M_count 4 (some .int) ∈ wb := wb_t 760 (by decide +kernel) (by decide +kernel)
theorem kw_761 : Cond.methodLink rn_L 104 y_M_part ∈ wb := wb_t 761 (by decide +kernel) (by decide +kernel)
theorem kw_762 : Cond.instanceMethod y_M_part ∈ wb := wb_t 762 (by decide +kernel) (by decide +kernel)
theorem kw_763 : Cond.selects rn_M y_M_part y_M_part ∈ wb := wb_t 763 (by decide +kernel) (by decide +kernel)
theorem kw_764 : Cond.code y_M_part b_M_part 5 (some .int) ∈ wb := wb_t 764 (by decide +kernel) (by decide +kernel)
theorem kw_765 : Cond.methodLink rn_L 108 y_M_phase ∈ wb := wb_t 765 (by decide +kernel) (by decide +kernel)
theorem kw_766 : Cond.instanceMethod y_M_phase ∈ wb := wb_t 766 (by decide +kernel) (by decide +kernel)
theorem kw_767 : Cond.selects rn_M y_M_phase y_M_phase ∈ wb := wb_t 767 (by decide +kernel) (by decide +kernel)
theorem kw_768 : Cond.code y_M_phase b_M_phase 1 (some .int) ∈ wb := wb_t 768 (by decide +kernel) (by decide +kernel)
theorem kw_769 : Cond.methodLink rn_L 112 y_M_out ∈ wb := wb_t 769 (by decide +kernel) (by decide +kernel)
theorem kw_770 : Cond.instanceMethod y_M_out ∈ wb := wb_t 770 (by decide +kernel) (by decide +kernel)
theorem kw_771 : Cond.selects rn_M y_M_out y_M_out ∈ wb := wb_t 771 (by decide +kernel) (by decide +kernel)
theorem kw_772 : Cond.code y_M_out b_M_out 2 (some .int) ∈ wb := wb_t 772 (by decide +kernel) (by decide +kernel)
theorem kw_773 : Cond.methodLink rn_L 116 y_M_reads ∈ wb := wb_t 773 (by decide +kernel) (by decide +kernel)
theorem kw_774 : Cond.instanceMethod y_M_reads ∈ wb := wb_t 774 (by decide +kernel) (by decide +kernel)
theorem kw_775 : Cond.selects rn_M y_M_reads y_M_reads ∈ wb := wb_t 775 (by decide +kernel) (by decide +kernel)
theorem kw_776 : Cond.code y_M_reads b_M_reads 2 (some .int) ∈ wb := wb_t 776 (by decide +kernel) (by decide +kernel)
theorem kw_777 : Cond.methodLink rn_L 121 y_M_made ∈ wb := wb_t 777 (by decide +kernel) (by decide +kernel)
theorem kw_778 : Cond.instanceMethod y_M_made ∈ wb := wb_t 778 (by decide +kernel) (by decide +kernel)
theorem kw_779 : Cond.selects rn_M y_M_made y_M_made ∈ wb := wb_t 779 (by decide +kernel) (by decide +kernel)
theorem kw_780 : Cond.code y_M_made b_M_made 2 (some .int) ∈ wb := wb_t 780 (by decide +kernel) (by decide +kernel)
theorem kw_781 : Cond.methodLink rn_L 125 y_M_image ∈ wb := wb_t 781 (by decide +kernel) (by decide +kernel)
theorem kw_782 : Cond.instanceMethod y_M_image ∈ wb := wb_t 782 (by decide +kernel) (by decide +kernel)
theorem kw_783 : Cond.selects rn_M y_M_image y_M_image ∈ wb := wb_t 783 (by decide +kernel) (by decide +kernel)
theorem kw_784 : Cond.code y_M_image b_M_image 3 (some .int) ∈ wb := wb_t 784 (by decide +kernel) (by decide +kernel)
theorem hd_M_source : y_M_source.cls = rn_M ∧ y_M_source.cls ≠ "java/lang/invoke/MethodHandle" ∧ y_M_source.cls ≠ "java/lang/invoke/VarHandle" ∧ (parseMethodDescriptor y_M_source.desc).map (fun d => d.parameters.length) = some 1 := by decide +kernel
theorem g_L_57 : GoodIn wb (wsV rn_L 57 rn_M y_M_source (Cond.code y_M_source b_M_source 3 none :: wb)) := gw_V kw_634 kw_635 kw_636 kw_6 kw_637
theorem hd_M_thrown : y_M_thrown.cls = rn_M ∧ y_M_thrown.cls ≠ "java/lang/invoke/MethodHandle" ∧ y_M_thrown.cls ≠ "java/lang/invoke/VarHandle" ∧ (parseMethodDescriptor y_M_thrown.desc).map (fun d => d.parameters.length) = some 0 := by decide +kernel
theorem g_L_58 : GoodIn wb (wsV rn_L 58 rn_M y_M_thrown (Cond.code y_M_thrown b_M_thrown 1 (some .int) :: wb)) := gw_V kw_630 kw_631 kw_632 kw_6 kw_633
theorem hd_M_sector : y_M_sector.cls = rn_M ∧ y_M_sector.cls ≠ "java/lang/invoke/MethodHandle" ∧ y_M_sector.cls ≠ "java/lang/invoke/VarHandle" ∧ (parseMethodDescriptor y_M_sector.desc).map (fun d => d.parameters.length) = some 3 := by decide +kernel
theorem g_L_64 : GoodIn wb (wsV rn_L 64 rn_M y_M_sector (Cond.code y_M_sector b_M_sector 4 none :: wb)) := gw_V kw_638 kw_639 kw_640 kw_6 kw_641
theorem hd_M_begin : y_M_begin.cls = rn_M ∧ y_M_begin.cls ≠ "java/lang/invoke/MethodHandle" ∧ y_M_begin.cls ≠ "java/lang/invoke/VarHandle" ∧ (parseMethodDescriptor y_M_begin.desc).map (fun d => d.parameters.length) = some 1 := by decide +kernel
theorem g_L_67 : GoodIn wb (wsV rn_L 67 rn_M y_M_begin (Cond.code y_M_begin b_M_begin 3 none :: wb)) := gw_V kw_646 kw_647 kw_648 kw_6 kw_649
theorem hd_M_step : y_M_step.cls = rn_M ∧ y_M_step.cls ≠ "java/lang/invoke/MethodHandle" ∧ y_M_step.cls ≠ "java/lang/invoke/VarHandle" ∧ (parseMethodDescriptor y_M_step.desc).map (fun d => d.parameters.length) = some 0 := by decide +kernel
theorem g_L_71 : GoodIn wb (wsV rn_L 71 rn_M y_M_step (Cond.code y_M_step b_M_step 1 (some .int) :: wb)) := gw_V kw_654 kw_655 kw_656 kw_6 kw_657
theorem hd_M_run : y_M_run.cls = rn_M ∧ y_M_run.cls ≠ "java/lang/invoke/MethodHandle" ∧ y_M_run.cls ≠ "java/lang/invoke/VarHandle" ∧ (parseMethodDescriptor y_M_run.desc).map (fun d => d.parameters.length) = some 1 := by decide +kernel
theorem g_L_75 : GoodIn wb (wsV rn_L 75 rn_M y_M_run (Cond.code y_M_run b_M_run 3 (some .int) :: wb)) := gw_V kw_698 kw_699 kw_700 kw_6 kw_701
theorem hd_M_save : y_M_save.cls = rn_M ∧ y_M_save.cls ≠ "java/lang/invoke/MethodHandle" ∧ y_M_save.cls ≠ "java/lang/invoke/VarHandle" ∧ (parseMethodDescriptor y_M_save.desc).map (fun d => d.parameters.length) = some 0 := by decide +kernel
theorem g_L_78 : GoodIn wb (wsV rn_L 78 rn_M y_M_save (Cond.code y_M_save b_M_save 1 (some .int) :: wb)) := gw_V kw_702 kw_703 kw_704 kw_6 kw_705
theorem hd_M_stop : y_M_stop.cls = rn_M ∧ y_M_stop.cls ≠ "java/lang/invoke/MethodHandle" ∧ y_M_stop.cls ≠ "java/lang/invoke/VarHandle" ∧ (parseMethodDescriptor y_M_stop.desc).map (fun d => d.parameters.length) = some 1 := by decide +kernel
theorem g_L_81 : GoodIn wb (wsV rn_L 81 rn_M y_M_stop (Cond.code y_M_stop b_M_stop 2 (some .int) :: wb)) := gw_V kw_729 kw_730 kw_731 kw_6 kw_732
theorem hd_M_resume : y_M_resume.cls = rn_M ∧ y_M_resume.cls ≠ "java/lang/invoke/MethodHandle" ∧ y_M_resume.cls ≠ "java/lang/invoke/VarHandle" ∧ (parseMethodDescriptor y_M_resume.desc).map (fun d => d.parameters.length) = some 0 := by decide +kernel
theorem g_L_84 : GoodIn wb (wsV rn_L 84 rn_M y_M_resume (Cond.code y_M_resume b_M_resume 7 (some .int) :: wb)) := gw_V kw_733 kw_734 kw_735 kw_6 kw_736
theorem hd_M_poke : y_M_poke.cls = rn_M ∧ y_M_poke.cls ≠ "java/lang/invoke/MethodHandle" ∧ y_M_poke.cls ≠ "java/lang/invoke/VarHandle" ∧ (parseMethodDescriptor y_M_poke.desc).map (fun d => d.parameters.length) = some 3 := by decide +kernel
theorem g_L_87 : GoodIn wb (wsV rn_L 87 rn_M y_M_poke (Cond.code y_M_poke b_M_poke 4 none :: wb)) := gw_V kw_745 kw_746 kw_747 kw_6 kw_748
theorem hd_M_second : y_M_second.cls = rn_M ∧ y_M_second.cls ≠ "java/lang/invoke/MethodHandle" ∧ y_M_second.cls ≠ "java/lang/invoke/VarHandle" ∧ (parseMethodDescriptor y_M_second.desc).map (fun d => d.parameters.length) = some 2 := by decide +kernel
theorem g_L_91 : GoodIn wb (wsV rn_L 91 rn_M y_M_second (Cond.code y_M_second b_M_second 3 (some .boolean) :: wb)) := gw_V kw_749 kw_750 kw_751 kw_6 kw_752
theorem hd_R_state : y_R_state.cls = rn_R ∧ y_R_state.cls ≠ "java/lang/invoke/MethodHandle" ∧ y_R_state.cls ≠ "java/lang/invoke/VarHandle" ∧ (parseMethodDescriptor y_R_state.desc).map (fun d => d.parameters.length) = some 1 := by decide +kernel
theorem g_L_92 : GoodIn wb (wsV rn_L 92 rn_R y_R_state (Cond.code y_R_state b_R_state 2 (some .int) :: wb)) := gw_V kw_127 kw_128 kw_129 kw_1 kw_130
theorem hd_M_state : y_M_state.cls = rn_M ∧ y_M_state.cls ≠ "java/lang/invoke/MethodHandle" ∧ y_M_state.cls ≠ "java/lang/invoke/VarHandle" ∧ (parseMethodDescriptor y_M_state.desc).map (fun d => d.parameters.length) = some 1 := by decide +kernel
theorem g_L_95 : GoodIn wb (wsV rn_L 95 rn_M y_M_state (Cond.code y_M_state b_M_state 2 (some .int) :: wb)) := gw_V kw_753 kw_754 kw_755 kw_6 kw_756
theorem hd_R_count : y_R_count.cls = rn_R ∧ y_R_count.cls ≠ "java/lang/invoke/MethodHandle" ∧ y_R_count.cls ≠ "java/lang/invoke/VarHandle" ∧ (parseMethodDescriptor y_R_count.desc).map (fun d => d.parameters.length) = some 1 := by decide +kernel
theorem g_L_96 : GoodIn wb (wsV rn_L 96 rn_R y_R_count (Cond.code y_R_count b_R_count 2 (some .int) :: wb)) := gw_V kw_139 kw_140 kw_141 kw_1 kw_142
theorem hd_M_count : y_M_count.cls = rn_M ∧ y_M_count.cls ≠ "java/lang/invoke/MethodHandle" ∧ y_M_count.cls ≠ "java/lang/invoke/VarHandle" ∧ (parseMethodDescriptor y_M_count.desc).map (fun d => d.parameters.length) = some 1 := by decide +kernel
theorem g_L_99 : GoodIn wb (wsV rn_L 99 rn_M y_M_count (Cond.code y_M_count b_M_count 4 (some .int) :: wb)) := gw_V kw_757 kw_758 kw_759 kw_6 kw_760
theorem hd_R_part : y_R_part.cls = rn_R ∧ y_R_part.cls ≠ "java/lang/invoke/MethodHandle" ∧ y_R_part.cls ≠ "java/lang/invoke/VarHandle" ∧ (parseMethodDescriptor y_R_part.desc).map (fun d => d.parameters.length) = some 2 := by decide +kernel
theorem g_L_100 : GoodIn wb (wsV rn_L 100 rn_R y_R_part (Cond.code y_R_part b_R_part 4 (some .int) :: wb)) := gw_V kw_147 kw_148 kw_149 kw_1 kw_150
theorem hd_M_part : y_M_part.cls = rn_M ∧ y_M_part.cls ≠ "java/lang/invoke/MethodHandle" ∧ y_M_part.cls ≠ "java/lang/invoke/VarHandle" ∧ (parseMethodDescriptor y_M_part.desc).map (fun d => d.parameters.length) = some 2 := by decide +kernel
theorem g_L_104 : GoodIn wb (wsV rn_L 104 rn_M y_M_part (Cond.code y_M_part b_M_part 5 (some .int) :: wb)) := gw_V kw_761 kw_762 kw_763 kw_6 kw_764
theorem hd_R_phase : y_R_phase.cls = rn_R ∧ y_R_phase.cls ≠ "java/lang/invoke/MethodHandle" ∧ y_R_phase.cls ≠ "java/lang/invoke/VarHandle" ∧ (parseMethodDescriptor y_R_phase.desc).map (fun d => d.parameters.length) = some 0 := by decide +kernel
theorem g_L_105 : GoodIn wb (wsV rn_L 105 rn_R y_R_phase (Cond.code y_R_phase b_R_phase 1 (some .int) :: wb)) := gw_V kw_164 kw_165 kw_166 kw_1 kw_167
theorem hd_M_phase : y_M_phase.cls = rn_M ∧ y_M_phase.cls ≠ "java/lang/invoke/MethodHandle" ∧ y_M_phase.cls ≠ "java/lang/invoke/VarHandle" ∧ (parseMethodDescriptor y_M_phase.desc).map (fun d => d.parameters.length) = some 0 := by decide +kernel
theorem g_L_108 : GoodIn wb (wsV rn_L 108 rn_M y_M_phase (Cond.code y_M_phase b_M_phase 1 (some .int) :: wb)) := gw_V kw_765 kw_766 kw_767 kw_6 kw_768
theorem hd_R_out : y_R_out.cls = rn_R ∧ y_R_out.cls ≠ "java/lang/invoke/MethodHandle" ∧ y_R_out.cls ≠ "java/lang/invoke/VarHandle" ∧ (parseMethodDescriptor y_R_out.desc).map (fun d => d.parameters.length) = some 1 := by decide +kernel
theorem g_L_109 : GoodIn wb (wsV rn_L 109 rn_R y_R_out (Cond.code y_R_out b_R_out 2 (some .int) :: wb)) := gw_V kw_172 kw_173 kw_174 kw_1 kw_175
theorem hd_M_out : y_M_out.cls = rn_M ∧ y_M_out.cls ≠ "java/lang/invoke/MethodHandle" ∧ y_M_out.cls ≠ "java/lang/invoke/VarHandle" ∧ (parseMethodDescriptor y_M_out.desc).map (fun d => d.parameters.length) = some 1 := by decide +kernel
theorem g_L_112 : GoodIn wb (wsV rn_L 112 rn_M y_M_out (Cond.code y_M_out b_M_out 2 (some .int) :: wb)) := gw_V kw_769 kw_770 kw_771 kw_6 kw_772
theorem hd_R_reads : y_R_reads.cls = rn_R ∧ y_R_reads.cls ≠ "java/lang/invoke/MethodHandle" ∧ y_R_reads.cls ≠ "java/lang/invoke/VarHandle" ∧ (parseMethodDescriptor y_R_reads.desc).map (fun d => d.parameters.length) = some 1 := by decide +kernel
theorem g_L_113 : GoodIn wb (wsV rn_L 113 rn_R y_R_reads (Cond.code y_R_reads b_R_reads 2 (some .int) :: wb)) := gw_V kw_184 kw_185 kw_186 kw_1 kw_187
theorem hd_M_reads : y_M_reads.cls = rn_M ∧ y_M_reads.cls ≠ "java/lang/invoke/MethodHandle" ∧ y_M_reads.cls ≠ "java/lang/invoke/VarHandle" ∧ (parseMethodDescriptor y_M_reads.desc).map (fun d => d.parameters.length) = some 1 := by decide +kernel
theorem g_L_116 : GoodIn wb (wsV rn_L 116 rn_M y_M_reads (Cond.code y_M_reads b_M_reads 2 (some .int) :: wb)) := gw_V kw_773 kw_774 kw_775 kw_6 kw_776
theorem hd_R_made : y_R_made.cls = rn_R ∧ y_R_made.cls ≠ "java/lang/invoke/MethodHandle" ∧ y_R_made.cls ≠ "java/lang/invoke/VarHandle" ∧ (parseMethodDescriptor y_R_made.desc).map (fun d => d.parameters.length) = some 1 := by decide +kernel
theorem g_L_117 : GoodIn wb (wsV rn_L 117 rn_R y_R_made (Cond.code y_R_made b_R_made 2 (some .int) :: wb)) := gw_V kw_192 kw_193 kw_194 kw_1 kw_195
theorem hd_M_made : y_M_made.cls = rn_M ∧ y_M_made.cls ≠ "java/lang/invoke/MethodHandle" ∧ y_M_made.cls ≠ "java/lang/invoke/VarHandle" ∧ (parseMethodDescriptor y_M_made.desc).map (fun d => d.parameters.length) = some 1 := by decide +kernel
theorem g_L_121 : GoodIn wb (wsV rn_L 121 rn_M y_M_made (Cond.code y_M_made b_M_made 2 (some .int) :: wb)) := gw_V kw_777 kw_778 kw_779 kw_6 kw_780
theorem hd_R_image : y_R_image.cls = rn_R ∧ y_R_image.cls ≠ "java/lang/invoke/MethodHandle" ∧ y_R_image.cls ≠ "java/lang/invoke/VarHandle" ∧ (parseMethodDescriptor y_R_image.desc).map (fun d => d.parameters.length) = some 2 := by decide +kernel
theorem g_L_122 : GoodIn wb (wsV rn_L 122 rn_R y_R_image (Cond.code y_R_image b_R_image 3 (some .int) :: wb)) := gw_V kw_200 kw_201 kw_202 kw_1 kw_203
theorem hd_M_image : y_M_image.cls = rn_M ∧ y_M_image.cls ≠ "java/lang/invoke/MethodHandle" ∧ y_M_image.cls ≠ "java/lang/invoke/VarHandle" ∧ (parseMethodDescriptor y_M_image.desc).map (fun d => d.parameters.length) = some 2 := by decide +kernel
theorem g_L_125 : GoodIn wb (wsV rn_L 125 rn_M y_M_image (Cond.code y_M_image b_M_image 3 (some .int) :: wb)) := gw_V kw_781 kw_782 kw_783 kw_6 kw_784
theorem hd_L_source : y_L_source.cls ≠ "java/lang/invoke/MethodHandle" ∧ y_L_source.cls ≠ "java/lang/invoke/VarHandle" ∧ (parseMethodDescriptor y_L_source.desc).map (fun d => d.parameters.length) = some 2 := by decide +kernel
theorem g_L_52 : GoodIn wb (va_wsS rn_L 52 y_L_source (Cond.codeWith y_L_source b_L_source 3 (some .int) [(0, 5, 8, 13)] :: wb)) := gw_H kw_212 kw_213 kw_0 kw_214
theorem hd_L_sector : y_L_sector.cls ≠ "java/lang/invoke/MethodHandle" ∧ y_L_sector.cls ≠ "java/lang/invoke/VarHandle" ∧ (parseMethodDescriptor y_L_sector.desc).map (fun d => d.parameters.length) = some 4 := by decide +kernel
theorem g_L_61 : GoodIn wb (va_wsS rn_L 61 y_L_sector (Cond.codeWith y_L_sector b_L_sector 5 (some .int) [(0, 7, 10, 13)] :: wb)) := gw_H kw_303 kw_304 kw_0 kw_305
theorem hd_L_begin : y_L_begin.cls ≠ "java/lang/invoke/MethodHandle" ∧ y_L_begin.cls ≠ "java/lang/invoke/VarHandle" ∧ (parseMethodDescriptor y_L_begin.desc).map (fun d => d.parameters.length) = some 2 := by decide +kernel
theorem g_L_65 : GoodIn wb (va_wsS rn_L 65 y_L_begin (Cond.codeWith y_L_begin b_L_begin 3 (some .int) [(0, 5, 8, 13), (0, 5, 11, 22)] :: wb)) := gw_H kw_317 kw_318 kw_0 kw_319
theorem hd_L_step : y_L_step.cls ≠ "java/lang/invoke/MethodHandle" ∧ y_L_step.cls ≠ "java/lang/invoke/VarHandle" ∧ (parseMethodDescriptor y_L_step.desc).map (fun d => d.parameters.length) = some 2 := by decide +kernel
theorem g_L_68 : GoodIn wb (va_wsS rn_L 68 y_L_step (Cond.codeWith y_L_step b_L_step 3 (some .int) [(0, 8, 11, 22)] :: wb)) := gw_H kw_369 kw_370 kw_0 kw_371
theorem hd_L_run : y_L_run.cls ≠ "java/lang/invoke/MethodHandle" ∧ y_L_run.cls ≠ "java/lang/invoke/VarHandle" ∧ (parseMethodDescriptor y_L_run.desc).map (fun d => d.parameters.length) = some 3 := by decide +kernel
theorem g_L_72 : GoodIn wb (va_wsS rn_L 72 y_L_run (Cond.codeWith y_L_run b_L_run 4 (some .int) [(0, 9, 12, 13), (0, 9, 15, 22)] :: wb)) := gw_H kw_450 kw_451 kw_0 kw_452
theorem hd_L_save : y_L_save.cls ≠ "java/lang/invoke/MethodHandle" ∧ y_L_save.cls ≠ "java/lang/invoke/VarHandle" ∧ (parseMethodDescriptor y_L_save.desc).map (fun d => d.parameters.length) = some 2 := by decide +kernel
theorem g_L_76 : GoodIn wb (va_wsS rn_L 76 y_L_save (Cond.codeWith y_L_save b_L_save 3 (some .int) [(0, 8, 11, 22)] :: wb)) := gw_H kw_458 kw_459 kw_0 kw_460
theorem hd_L_stop : y_L_stop.cls ≠ "java/lang/invoke/MethodHandle" ∧ y_L_stop.cls ≠ "java/lang/invoke/VarHandle" ∧ (parseMethodDescriptor y_L_stop.desc).map (fun d => d.parameters.length) = some 3 := by decide +kernel
theorem g_L_79 : GoodIn wb (va_wsS rn_L 79 y_L_stop (Cond.codeWith y_L_stop b_L_stop 4 (some .int) [(0, 9, 12, 13), (0, 9, 15, 22)] :: wb)) := gw_H kw_498 kw_499 kw_0 kw_500
theorem hd_L_resume : y_L_resume.cls ≠ "java/lang/invoke/MethodHandle" ∧ y_L_resume.cls ≠ "java/lang/invoke/VarHandle" ∧ (parseMethodDescriptor y_L_resume.desc).map (fun d => d.parameters.length) = some 2 := by decide +kernel
theorem g_L_82 : GoodIn wb (va_wsS rn_L 82 y_L_resume (Cond.codeWith y_L_resume b_L_resume 3 (some .int) [(0, 8, 11, 22)] :: wb)) := gw_H kw_510 kw_511 kw_0 kw_512
theorem hd_L_poke : y_L_poke.cls ≠ "java/lang/invoke/MethodHandle" ∧ y_L_poke.cls ≠ "java/lang/invoke/VarHandle" ∧ (parseMethodDescriptor y_L_poke.desc).map (fun d => d.parameters.length) = some 4 := by decide +kernel
theorem g_L_85 : GoodIn wb (va_wsS rn_L 85 y_L_poke (Cond.codeWith y_L_poke b_L_poke 5 (some .int) [(0, 7, 10, 13)] :: wb)) := gw_H kw_537 kw_538 kw_0 kw_539
theorem hd_L_second : y_L_second.cls ≠ "java/lang/invoke/MethodHandle" ∧ y_L_second.cls ≠ "java/lang/invoke/VarHandle" ∧ (parseMethodDescriptor y_L_second.desc).map (fun d => d.parameters.length) = some 4 := by decide +kernel
theorem g_L_88 : GoodIn wb (va_wsS rn_L 88 y_L_second (Cond.codeWith y_L_second b_L_second 5 (some .int) [(0, 17, 20, 13), (0, 17, 24, 22)] :: wb)) := gw_H kw_548 kw_549 kw_0 kw_550
def p_law_0 (L : Nat) (xs : Nat → Int32) (v4 : Int32) (σ : jS) (fo : Nat → Int64) (ρ : jS) (post : jS → (Nat → Int64) → jS → Prop) : Prop :=
  vp_in (v4 + 1) L ∧ p_L_source σ fo (xs (v4 + 1).toNatClampNeg) (fun r1 u2 => vp_in (v4 + 1) L ∧ p_M_source ρ (xs (v4 + 1).toNatClampNeg) (fun ρ3 => p_M_thrown ρ3 (fun r4 ρ5 => (r4 = r1 → post (u2.1) (u2.2) ρ5) ∧ (¬ r4 = r1 → False))))
def p_law_1 (L : Nat) (xs : Nat → Int32) (v4 : Int32) (σ : jS) (fo : Nat → Int64) (ρ : jS) (post : jS → (Nat → Int64) → jS → Prop) : Prop :=
  vp_in (v4 + 1) L ∧ vp_in (v4 + 2) L ∧ vp_in (v4 + 3) L ∧ p_L_sector σ fo (xs (v4 + 1).toNatClampNeg) (xs (v4 + 2).toNatClampNeg) (xs (v4 + 3).toNatClampNeg) (fun r1 u2 => vp_in (v4 + 1) L ∧ vp_in (v4 + 2) L ∧ vp_in (v4 + 3) L ∧ p_M_sector ρ (xs (v4 + 1).toNatClampNeg) (xs (v4 + 2).toNatClampNeg) (xs (v4 + 3).toNatClampNeg) (fun ρ3 => p_M_thrown ρ3 (fun r4 ρ5 => (r4 = r1 → post (u2.1) (u2.2) ρ5) ∧ (¬ r4 = r1 → False))))
def p_law_2 (L : Nat) (xs : Nat → Int32) (v4 : Int32) (σ : jS) (fo : Nat → Int64) (ρ : jS) (post : jS → (Nat → Int64) → jS → Prop) : Prop :=
  vp_in (v4 + 1) L ∧ p_L_begin σ fo (xs (v4 + 1).toNatClampNeg) (fun r1 u2 => vp_in (v4 + 1) L ∧ p_M_begin ρ (xs (v4 + 1).toNatClampNeg) (fun ρ3 => p_M_thrown ρ3 (fun r4 ρ5 => (r4 = r1 → post (u2.1) (u2.2) ρ5) ∧ (¬ r4 = r1 → False))))
def p_law_3 (L : Nat) (xs : Nat → Int32) (v4 : Int32) (σ : jS) (fo : Nat → Int64) (ρ : jS) (post : jS → (Nat → Int64) → jS → Prop) : Prop :=
  p_L_step σ fo (fun r1 u2 => p_M_step ρ (fun r3 ρ4 => p_M_thrown ρ4 (fun r5 ρ6 => (r5 = r1 → (¬ r1 = 0 → post (u2.1) (u2.2) ρ6) ∧ (r1 = 0 → ((lg_cmp ((u2.2) (0 : Int32).toNatClampNeg) (r3.toInt64)) = 0 → post (u2.1) (u2.2) ρ6) ∧ (¬ (lg_cmp ((u2.2) (0 : Int32).toNatClampNeg) (r3.toInt64)) = 0 → False))) ∧ (¬ r5 = r1 → False))))
def p_law_4 (L : Nat) (xs : Nat → Int32) (v4 : Int32) (σ : jS) (fo : Nat → Int64) (ρ : jS) (post : jS → (Nat → Int64) → jS → Prop) : Prop :=
  vp_in (v4 + 1) L ∧ p_L_run σ fo (xs (v4 + 1).toNatClampNeg) (fun r1 u2 => vp_in (v4 + 1) L ∧ p_M_run ρ (xs (v4 + 1).toNatClampNeg) (fun r3 ρ4 => p_M_thrown ρ4 (fun r5 ρ6 => (r5 = r1 → (¬ r1 = 0 → post (u2.1) (u2.2) ρ6) ∧ (r1 = 0 → ((lg_cmp ((u2.2) (0 : Int32).toNatClampNeg) (r3.toInt64)) = 0 → post (u2.1) (u2.2) ρ6) ∧ (¬ (lg_cmp ((u2.2) (0 : Int32).toNatClampNeg) (r3.toInt64)) = 0 → False))) ∧ (¬ r5 = r1 → False))))
def p_law_5 (L : Nat) (xs : Nat → Int32) (v4 : Int32) (σ : jS) (fo : Nat → Int64) (ρ : jS) (post : jS → (Nat → Int64) → jS → Prop) : Prop :=
  p_L_save σ fo (fun r1 u2 => p_M_save ρ (fun r3 ρ4 => p_M_thrown ρ4 (fun r5 ρ6 => (r5 = r1 → (¬ r1 = 0 → post (u2.1) (u2.2) ρ6) ∧ (r1 = 0 → ((lg_cmp ((u2.2) (0 : Int32).toNatClampNeg) (r3.toInt64)) = 0 → post (u2.1) (u2.2) ρ6) ∧ (¬ (lg_cmp ((u2.2) (0 : Int32).toNatClampNeg) (r3.toInt64)) = 0 → False))) ∧ (¬ r5 = r1 → False))))
def p_law_6 (L : Nat) (xs : Nat → Int32) (v4 : Int32) (σ : jS) (fo : Nat → Int64) (ρ : jS) (post : jS → (Nat → Int64) → jS → Prop) : Prop :=
  vp_in (v4 + 1) L ∧ p_L_stop σ fo (xs (v4 + 1).toNatClampNeg) (fun r1 u2 => vp_in (v4 + 1) L ∧ p_M_stop ρ (xs (v4 + 1).toNatClampNeg) (fun r3 ρ4 => p_M_thrown ρ4 (fun r5 ρ6 => (r5 = r1 → (¬ r1 = 0 → post (u2.1) (u2.2) ρ6) ∧ (r1 = 0 → ((lg_cmp ((u2.2) (0 : Int32).toNatClampNeg) (r3.toInt64)) = 0 → post (u2.1) (u2.2) ρ6) ∧ (¬ (lg_cmp ((u2.2) (0 : Int32).toNatClampNeg) (r3.toInt64)) = 0 → False))) ∧ (¬ r5 = r1 → False))))
def p_law_7 (L : Nat) (xs : Nat → Int32) (v4 : Int32) (σ : jS) (fo : Nat → Int64) (ρ : jS) (post : jS → (Nat → Int64) → jS → Prop) : Prop :=
  p_L_resume σ fo (fun r1 u2 => p_M_resume ρ (fun r3 ρ4 => p_M_thrown ρ4 (fun r5 ρ6 => (r5 = r1 → (¬ r1 = 0 → post (u2.1) (u2.2) ρ6) ∧ (r1 = 0 → ((lg_cmp ((u2.2) (0 : Int32).toNatClampNeg) (r3.toInt64)) = 0 → post (u2.1) (u2.2) ρ6) ∧ (¬ (lg_cmp ((u2.2) (0 : Int32).toNatClampNeg) (r3.toInt64)) = 0 → False))) ∧ (¬ r5 = r1 → False))))
def p_law_8 (L : Nat) (xs : Nat → Int32) (v4 : Int32) (σ : jS) (fo : Nat → Int64) (ρ : jS) (post : jS → (Nat → Int64) → jS → Prop) : Prop :=
  vp_in (v4 + 1) L ∧ vp_in (v4 + 2) L ∧ vp_in (v4 + 3) L ∧ p_L_poke σ fo (xs (v4 + 1).toNatClampNeg) (xs (v4 + 2).toNatClampNeg) (xs (v4 + 3).toNatClampNeg) (fun r1 u2 => vp_in (v4 + 1) L ∧ vp_in (v4 + 2) L ∧ vp_in (v4 + 3) L ∧ p_M_poke ρ (xs (v4 + 1).toNatClampNeg) (xs (v4 + 2).toNatClampNeg) (xs (v4 + 3).toNatClampNeg) (fun ρ3 => p_M_thrown ρ3 (fun r4 ρ5 => (r4 = r1 → post (u2.1) (u2.2) ρ5) ∧ (¬ r4 = r1 → False))))
def p_law_9 (L : Nat) (xs : Nat → Int32) (v4 : Int32) (σ : jS) (fo : Nat → Int64) (ρ : jS) (post : jS → (Nat → Int64) → jS → Prop) : Prop :=
  vp_in (v4 + 1) L ∧ vp_in (v4 + 2) L ∧ p_L_second σ fo (xs (v4 + 1).toNatClampNeg) (xs (v4 + 2).toNatClampNeg) (fun r1 u2 => vp_in (v4 + 1) L ∧ vp_in (v4 + 2) L ∧ p_M_second ρ (xs (v4 + 1).toNatClampNeg) (xs (v4 + 2).toNatClampNeg) (fun r3 ρ4 => p_M_thrown ρ4 (fun r5 ρ6 => (r5 = r1 → (¬ r1 = 0 → post (u2.1) (u2.2) ρ6) ∧ (r1 = 0 → (r3 = 0 → ((lg_cmp ((u2.2) (0 : Int32).toNatClampNeg) 0) = 0 → post (u2.1) (u2.2) ρ6) ∧ (¬ (lg_cmp ((u2.2) (0 : Int32).toNatClampNeg) 0) = 0 → False)) ∧ (¬ r3 = 0 → ((lg_cmp ((u2.2) (0 : Int32).toNatClampNeg) 1) = 0 → post (u2.1) (u2.2) ρ6) ∧ (¬ (lg_cmp ((u2.2) (0 : Int32).toNatClampNeg) 1) = 0 → False)))) ∧ (¬ r5 = r1 → False))))
def p_law_10 (L : Nat) (xs : Nat → Int32) (v4 : Int32) (σ : jS) (fo : Nat → Int64) (ρ : jS) (post : jS → (Nat → Int64) → jS → Prop) : Prop :=
  vp_in (v4 + 1) L ∧ p_R_state σ (xs (v4 + 1).toNatClampNeg) (fun r1 σ2 => vp_in (v4 + 1) L ∧ p_M_state ρ (xs (v4 + 1).toNatClampNeg) (fun r3 ρ4 => (r1 = r3 → post σ2 fo ρ4) ∧ (¬ r1 = r3 → False)))
def p_law_11 (L : Nat) (xs : Nat → Int32) (v4 : Int32) (σ : jS) (fo : Nat → Int64) (ρ : jS) (post : jS → (Nat → Int64) → jS → Prop) : Prop :=
  vp_in (v4 + 1) L ∧ p_R_count σ (xs (v4 + 1).toNatClampNeg) (fun r1 σ2 => vp_in (v4 + 1) L ∧ p_M_count ρ (xs (v4 + 1).toNatClampNeg) (fun r3 ρ4 => (r1 = r3 → post σ2 fo ρ4) ∧ (¬ r1 = r3 → False)))
def p_law_12 (L : Nat) (xs : Nat → Int32) (v4 : Int32) (σ : jS) (fo : Nat → Int64) (ρ : jS) (post : jS → (Nat → Int64) → jS → Prop) : Prop :=
  vp_in (v4 + 1) L ∧ vp_in (v4 + 2) L ∧ p_R_part σ (xs (v4 + 1).toNatClampNeg) (xs (v4 + 2).toNatClampNeg) (fun r1 σ2 => vp_in (v4 + 1) L ∧ vp_in (v4 + 2) L ∧ p_M_part ρ (xs (v4 + 1).toNatClampNeg) (xs (v4 + 2).toNatClampNeg) (fun r3 ρ4 => (r1 = r3 → post σ2 fo ρ4) ∧ (¬ r1 = r3 → False)))
def p_law_13 (L : Nat) (xs : Nat → Int32) (v4 : Int32) (σ : jS) (fo : Nat → Int64) (ρ : jS) (post : jS → (Nat → Int64) → jS → Prop) : Prop :=
  p_R_phase σ (fun r1 σ2 => p_M_phase ρ (fun r3 ρ4 => (r1 = r3 → post σ2 fo ρ4) ∧ (¬ r1 = r3 → False)))
def p_law_14 (L : Nat) (xs : Nat → Int32) (v4 : Int32) (σ : jS) (fo : Nat → Int64) (ρ : jS) (post : jS → (Nat → Int64) → jS → Prop) : Prop :=
  vp_in (v4 + 1) L ∧ p_R_out σ (xs (v4 + 1).toNatClampNeg) (fun r1 σ2 => vp_in (v4 + 1) L ∧ p_M_out ρ (xs (v4 + 1).toNatClampNeg) (fun r3 ρ4 => (r1 = r3 → post σ2 fo ρ4) ∧ (¬ r1 = r3 → False)))
def p_law_15 (L : Nat) (xs : Nat → Int32) (v4 : Int32) (σ : jS) (fo : Nat → Int64) (ρ : jS) (post : jS → (Nat → Int64) → jS → Prop) : Prop :=
  vp_in (v4 + 1) L ∧ p_R_reads σ (xs (v4 + 1).toNatClampNeg) (fun r1 σ2 => vp_in (v4 + 1) L ∧ p_M_reads ρ (xs (v4 + 1).toNatClampNeg) (fun r3 ρ4 => (r1 = r3 → post σ2 fo ρ4) ∧ (¬ r1 = r3 → False)))
def p_law_16 (L : Nat) (xs : Nat → Int32) (v4 : Int32) (σ : jS) (fo : Nat → Int64) (ρ : jS) (post : jS → (Nat → Int64) → jS → Prop) : Prop :=
  vp_in (v4 + 1) L ∧ ((xs (v4 + 1).toNatClampNeg) = 0 → p_R_made σ 0 (fun r1 σ2 => vp_in (v4 + 1) L ∧ ((xs (v4 + 1).toNatClampNeg) = 0 → p_M_made ρ 0 (fun r3 ρ4 => (r1 = r3 → post σ2 fo ρ4) ∧ (¬ r1 = r3 → False))) ∧ (¬ (xs (v4 + 1).toNatClampNeg) = 0 → p_M_made ρ 1 (fun r5 ρ6 => (r1 = r5 → post σ2 fo ρ6) ∧ (¬ r1 = r5 → False))))) ∧ (¬ (xs (v4 + 1).toNatClampNeg) = 0 → p_R_made σ 1 (fun r7 σ8 => vp_in (v4 + 1) L ∧ ((xs (v4 + 1).toNatClampNeg) = 0 → p_M_made ρ 0 (fun r9 ρ10 => (r7 = r9 → post σ8 fo ρ10) ∧ (¬ r7 = r9 → False))) ∧ (¬ (xs (v4 + 1).toNatClampNeg) = 0 → p_M_made ρ 1 (fun r11 ρ12 => (r7 = r11 → post σ8 fo ρ12) ∧ (¬ r7 = r11 → False)))))
def p_law_17 (L : Nat) (xs : Nat → Int32) (v4 : Int32) (σ : jS) (fo : Nat → Int64) (ρ : jS) (post : jS → (Nat → Int64) → jS → Prop) : Prop :=
  vp_in (v4 + 1) L ∧ vp_in (v4 + 2) L ∧ p_R_image σ (xs (v4 + 1).toNatClampNeg) (xs (v4 + 2).toNatClampNeg) (fun r1 σ2 => vp_in (v4 + 1) L ∧ vp_in (v4 + 2) L ∧ p_M_image ρ (xs (v4 + 1).toNatClampNeg) (xs (v4 + 2).toNatClampNeg) (fun r3 ρ4 => (r1 = r3 → post σ2 fo ρ4) ∧ (¬ r1 = r3 → False)))

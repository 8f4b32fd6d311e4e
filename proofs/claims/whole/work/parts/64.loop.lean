theorem kw_15 : Cond.classLink rn_L 8 rn_R ∈ wb := wb_t 15 (by decide +kernel) (by decide +kernel)
theorem kw_16 : Cond.instantiable rn_R 4 ∈ wb := wb_t 16 (by decide +kernel) (by decide +kernel)
theorem kw_17 : Cond.methodLink rn_L 48 y_R_init ∈ wb := wb_t 17 (by decide +kernel) (by decide +kernel)
theorem kw_18 : Cond.instanceMethod y_R_init ∈ wb := wb_t 18 (by decide +kernel) (by decide +kernel)
theorem kw_19 : Cond.code y_R_init b_R_init 1 none ∈ wb := wb_t 19 (by decide +kernel) (by decide +kernel)
theorem kw_560 : Cond.classLink rn_L 49 rn_M ∈ wb := wb_t 560 (by decide +kernel) (by decide +kernel)
theorem kw_561 : Cond.instantiable rn_M 21 ∈ wb := wb_t 561 (by decide +kernel) (by decide +kernel)
theorem kw_562 : Cond.methodLink rn_L 51 y_M_init ∈ wb := wb_t 562 (by decide +kernel) (by decide +kernel)
theorem kw_563 : Cond.instanceMethod y_M_init ∈ wb := wb_t 563 (by decide +kernel) (by decide +kernel)
theorem kw_564 : Cond.code y_M_init b_M_init 1 none ∈ wb := wb_t 564 (by decide +kernel) (by decide +kernel)
/-! THE CLAIM OUT OF ONE WALK OF THE LAW'S BODY. Your part is whole_start (and what it stands on); all else here is the same for every law, but numbers. -/
def R_law : String := "RescueDeskLaw"
def lw_P (b : Addr) (xs : List Int32) (args : Array Value) (s : State) : Prop := args = #[.ref b] ∧ s.IntsAt b xs ∧ xs.length ≤ 2048 ∧ (Jvm.Cond.and given_1 narrow_1).before args s = true
def lw_Q (_ : Array Value) (s : State) (o : Outcome) (t : State) : Prop := o = .returned (some (.int 1)) ∧ Framed s o t [] 601024 7293034
def lw_Z (below : List Frame) (a : Array Value) (s : State) : State → Prop := fun t => ∃ o, t.status = .running ∧ Ended t below o ∧ lw_Q a s o t
/-- the law's own end, with 1 on the stack, nothing written that was there before, its room as the claim has it -/
theorem lw_ret {p : Program} {l : Launch} {e : Env} {s : State} {m : MethodId} {below : List Frame} {meth : Method} {c : Code} {b : Nat} (hx : p.tables.exec = Jvm.exec) (hb : c.code = code) (hr : meth.sig.returnType = ret) (hlocks : meth.locks = false) {pc : Nat} {H : Heap} {ls : Array Slot} (hdg : decode code pc = .ok (.ireturn, 1)) : W p l e room_1 s m #[Value.ref b] below meth c H [] 601024 7293034 (lw_Z below #[Value.ref b] s) (F0 m pc ls [.int 1]) := by
  intro T hT X
  obtain ⟨fs, hret, hrun, hended, hW, hframe⟩ := X.leave (v := some (.int 1)) (hlocks := hlocks) (fun h => by rw [hr] at h; cases h)
  have hmeth' : T.vm.method? m = some meth := X.method'
  refine ⟨T.setFrames fs, ?_, .returned (some (.int 1)), hrun, hended, rfl, ⟨_, rfl⟩, hW, hframe⟩
  jvm_step X.here [X.here.top, hx, hb, hdg, hmeth', hr, ret, narrow_b1]
  (try refine ⟨rfl, ?_⟩); (try refine ⟨rfl, ?_⟩)
  first | (intro acts; rw [hret _ acts rfl rfl rfl]) | rw [hret _ _ rfl rfl rfl]
  exact Steps.refl _
/-- what holds at the law's entry: the machine, the code, the tables' words (any of lw_tbl by 'hts w (by decide +kernel)'), the script of L ints xs at the cell b, what the Statement gives of the start (any of its parts by flat_of_before) -/
def lw_At (p : Program) (s : State) (m : MethodId) (meth : Method) (c : Code) (b L : Nat) (xs : Nat → Int32) : Prop :=
  p.tables.exec = Jvm.exec ∧ c.code = code ∧ meth.sig.returnType = ret ∧ c.maxLocals = 7 ∧ s.vm.findClass R_law = some m.cls ∧ (∀ w ∈ lw_tbl, w.before #[Value.ref b] s = true) ∧ va_X b L xs s s.heap ∧ b < s.heap.size ∧ meth.locks = false ∧ (Jvm.Cond.and given_1 narrow_1).before #[Value.ref b] s = true

/-- one round of the law keeps the relation -/
def jStep (Rel : jS → jS → Prop) : Prop := ∀ (L : Nat) (xs : Nat → Int32) (v4 : Int32) (σ ρ : jS) (fo : Nat → Int64), Rel σ ρ → vp_in v4 L → vp_in (v4 + 1) L → vp_in (v4 + 2) L → vp_in (v4 + 3) L →
  p_law_0 L xs v4 σ fo ρ (fun σ _ ρ => Rel σ ρ) ∧
  p_law_1 L xs v4 σ fo ρ (fun σ _ ρ => Rel σ ρ) ∧
  p_law_2 L xs v4 σ fo ρ (fun σ _ ρ => Rel σ ρ) ∧
  p_law_3 L xs v4 σ fo ρ (fun σ _ ρ => Rel σ ρ) ∧
  p_law_4 L xs v4 σ fo ρ (fun σ _ ρ => Rel σ ρ) ∧
  p_law_5 L xs v4 σ fo ρ (fun σ _ ρ => Rel σ ρ) ∧
  p_law_6 L xs v4 σ fo ρ (fun σ _ ρ => Rel σ ρ) ∧
  p_law_7 L xs v4 σ fo ρ (fun σ _ ρ => Rel σ ρ) ∧
  p_law_8 L xs v4 σ fo ρ (fun σ _ ρ => Rel σ ρ) ∧
  p_law_9 L xs v4 σ fo ρ (fun σ _ ρ => Rel σ ρ) ∧
  p_law_10 L xs v4 σ fo ρ (fun σ _ ρ => Rel σ ρ) ∧
  p_law_11 L xs v4 σ fo ρ (fun σ _ ρ => Rel σ ρ) ∧
  p_law_12 L xs v4 σ fo ρ (fun σ _ ρ => Rel σ ρ) ∧
  p_law_13 L xs v4 σ fo ρ (fun σ _ ρ => Rel σ ρ) ∧
  p_law_14 L xs v4 σ fo ρ (fun σ _ ρ => Rel σ ρ) ∧
  p_law_15 L xs v4 σ fo ρ (fun σ _ ρ => Rel σ ρ) ∧
  p_law_16 L xs v4 σ fo ρ (fun σ _ ρ => Rel σ ρ) ∧
  p_law_17 L xs v4 σ fo ρ (fun σ _ ρ => Rel σ ρ)
theorem lw_idx {L i k : Nat} (hL : L ≤ 2048) (hi : 4 * i + 4 ≤ L) (hk : k < 4) : vp_in (nI (4 * i) + nI k) L := by
  rw [nI_add]
  exact vp_in_nI (by omega) (by omega)
theorem lw_cmp {L i : Nat} (hL : L ≤ 2048) (hi : 4 * i ≤ 2052) : (nI L - 4 < nI (4 * i)) ↔ L < 4 * i + 4 := by
  rw [Int32.lt_iff_toInt_lt, show (4 : Int32) = nI 4 from rfl, pk_sub_toInt (by omega) (by omega), nI_toInt (by omega)]
  omega
set_option maxRecDepth 100000 in
set_option maxHeartbeats 4000000 in
theorem law_loop {Rel : jS → jS → Prop} (O : jStep Rel) {p : Program} {l : Launch} {e : Env} {s : State} {m : MethodId} {below : List Frame} {meth : Method} {c : Code} {D : va_G} {cI cA cL : ClassId} {ad am : Nat → Nat} {ao b L : Nat} {xs : Nat → Int32} (hL : L ≤ 2048) (hr : meth.sig.returnType = ret) (hlocks : meth.locks = false) (X : jv_CL p l s m #[Value.ref b] c D (fun q : Nat => s.heap.size ≤ q) cI cA cL b L xs) : ∀ (n i : Nat) (σ : jS) (fo : Nat → Int64) (ρ : jS), Rel σ ρ → L ≤ 4 * i + 4 * n → 4 * i ≤ L → jv_V p l e room_1 s m #[Value.ref b] below meth c D jClasses (fun q : Nat => s.heap.size ≤ q) 7 (23 + i) (1528 + 6 * i) (lw_Z below #[Value.ref b] s) (cw ad cI cA σ (oc ao cL fo :: mw am cI cA ρ [])) [(0, .ref b), (1, .ref (ad 0)), (2, .ref (am 0)), (3, .ref ao), (4, .int (nI (4 * i)))] 23 [] := by
  obtain ⟨B, hml, hown, hts, hK, hA, hJ, hX, hbl, hbA, hl⟩ := id X
  have ends : ∀ (i : Nat) (σ : jS) (fo : Nat → Int64) (ρ : jS), i ≤ 512 → jv_V p l e room_1 s m #[Value.ref b] below meth c D jClasses (fun q : Nat => s.heap.size ≤ q) 7 (23 + i) (1528 + 6 * i) (lw_Z below #[Value.ref b] s) (cw ad cI cA σ (oc ao cL fo :: mw am cI cA ρ [])) [(0, .ref b), (1, .ref (ad 0)), (2, .ref (am 0)), (3, .ref ao), (4, .int (nI (4 * i)))] 869 [] := by
    intro i σ fo ρ hi
    refine jv_iconst (v := 1) B d_L_law_869 (by decide) ?_
    intro H locs ls hP hD hS hlv
    refine va_forget (fun q hq => hS.2.2 q hq) ?_
    refine W.widen (k := 601024) (n := 7293034) (by omega) (by omega) ?_
    exact lw_ret B.1 B.2 hr hlocks d_L_law_870
  intro n
  induction n with
  | zero =>
    intro i σ fo ρ hR h1 h2
    refine jv_iload B d_L_law_23 4 rfl ?_
    refine jv_aload_n B d_L_law_25 rfl 0 rfl ?_
    refine jv_slen B hX hbl hbA d_L_law_26 ?_
    refine jv_iconst (v := 4) B d_L_law_27 (by decide) ?_
    refine jv_isub B d_L_law_28 ?_
    refine jv_icmp_gt (tgt := 869) B d_L_law_29 (by decide) (fun hc => ?_) (fun hc => ?_)
    · exact ends i σ fo ρ (by omega)
    · exact absurd ((lw_cmp hL (by omega)).mpr (by omega)) hc
  | succ n ih =>
    intro i σ fo ρ hR h1 h2
    refine jv_iload B d_L_law_23 4 rfl ?_
    refine jv_aload_n B d_L_law_25 rfl 0 rfl ?_
    refine jv_slen B hX hbl hbA d_L_law_26 ?_
    refine jv_iconst (v := 4) B d_L_law_27 (by decide) ?_
    refine jv_isub B d_L_law_28 ?_
    refine jv_icmp_gt (tgt := 869) B d_L_law_29 (by decide) (fun hc => ?_) (fun hc => ?_)
    · exact ends i σ fo ρ (by omega)
    · have h3 : 4 * i + 4 ≤ L := by
        have h4 := mt (lw_cmp hL (by omega)).mpr hc
        omega
      have i0 : vp_in (nI (4 * i)) L := vp_in_nI (by omega) (by omega)
      have hO := O L xs (nI (4 * i)) σ ρ fo hR i0 (lw_idx (k := 1) hL h3 (by omega)) (lw_idx (k := 2) hL h3 (by omega)) (lw_idx (k := 3) hL h3 (by omega))
      have H9 : ∀ (σ : jS) (fo : Nat → Int64) (ρ : jS), Rel σ ρ → jv_V p l e room_1 s m #[Value.ref b] below meth c D jClasses (fun q : Nat => s.heap.size ≤ q) 7 (23 + i + 1) (1528 + 6 * i + 6) (lw_Z below #[Value.ref b] s) (cw ad cI cA σ (oc ao cL fo :: mw am cI cA ρ [])) [(0, .ref b), (1, .ref (ad 0)), (2, .ref (am 0)), (3, .ref ao), (4, .int (nI (4 * i)))] 863 [] := by
        intro σ fo ρ hR
        refine jv_iinc (n9 := 4) (v := nI (4 * (i + 1))) (lv' := [(4, .int (nI (4 * (i + 1)))), (0, .ref b), (1, .ref (ad 0)), (2, .ref (am 0)), (3, .ref ao)]) B d_L_law_863 rfl (nI_add (4 * i) 4) (by decide) rfl ?_
        refine jv_goto (tgt := 23) B d_L_law_866 (by decide) ?_
        refine jv_sub [1, 2, 3, 4, 0] rfl ?_
        exact ih (i + 1) σ fo ρ hR (by omega) (by omega)
      have hnc : 23 + i + 1 ≤ room_1.cells := by show 23 + i + 1 ≤ 601024; omega
      have hns : 1528 + 6 * i + 6 ≤ room_1.slots := by show 1528 + 6 * i + 6 ≤ 7293034; omega
      refine jv_aload_n B d_L_law_32 rfl 0 rfl ?_
      refine jv_iload B d_L_law_33 4 rfl ?_
      refine jv_sld B hX hbl hbA i0 d_L_law_35 ?_
      refine jv_bipush (v := 31) B d_L_law_36 (by decide) ?_
      refine jv_iand B d_L_law_38 ?_
      refine jv_tsw (n := 18) (tg := fun j => match j with | 0 => 124 | 1 => 160 | 2 => 220 | 3 => 256 | 4 => 300 | 5 => 356 | 6 => 400 | 7 => 456 | 8 => 500 | 9 => 560 | 10 => 635 | 11 => 660 | 12 => 685 | 13 => 722 | 14 => 735 | 15 => 760 | 16 => 785 | 17 => 826 | _ => 863) (tgd := 863) B d_L_law_39 (by decide) (by decide) (by decide) (fun j hj hc => ?_) (fun hc => ?_)
      · match j, hj with
        | 0, _ => exact w_law_0 X hnc hns H9 hO.1
        | 1, _ => exact w_law_1 X hnc hns H9 hO.2.1
        | 2, _ => exact w_law_2 X hnc hns H9 hO.2.2.1
        | 3, _ => exact w_law_3 X hnc hns H9 hO.2.2.2.1
        | 4, _ => exact w_law_4 X hnc hns H9 hO.2.2.2.2.1
        | 5, _ => exact w_law_5 X hnc hns H9 hO.2.2.2.2.2.1
        | 6, _ => exact w_law_6 X hnc hns H9 hO.2.2.2.2.2.2.1
        | 7, _ => exact w_law_7 X hnc hns H9 hO.2.2.2.2.2.2.2.1
        | 8, _ => exact w_law_8 X hnc hns H9 hO.2.2.2.2.2.2.2.2.1
        | 9, _ => exact w_law_9 X hnc hns H9 hO.2.2.2.2.2.2.2.2.2.1
        | 10, _ => exact w_law_10 X hnc hns H9 hO.2.2.2.2.2.2.2.2.2.2.1
        | 11, _ => exact w_law_11 X hnc hns H9 hO.2.2.2.2.2.2.2.2.2.2.2.1
        | 12, _ => exact w_law_12 X hnc hns H9 hO.2.2.2.2.2.2.2.2.2.2.2.2.1
        | 13, _ => exact w_law_13 X hnc hns H9 hO.2.2.2.2.2.2.2.2.2.2.2.2.2.1
        | 14, _ => exact w_law_14 X hnc hns H9 hO.2.2.2.2.2.2.2.2.2.2.2.2.2.2.1
        | 15, _ => exact w_law_15 X hnc hns H9 hO.2.2.2.2.2.2.2.2.2.2.2.2.2.2.2.1
        | 16, _ => exact w_law_16 X hnc hns H9 hO.2.2.2.2.2.2.2.2.2.2.2.2.2.2.2.2.1
        | 17, _ => exact w_law_17 X hnc hns H9 hO.2.2.2.2.2.2.2.2.2.2.2.2.2.2.2.2.2
        | j + 18, hj => exact absurd hj (by omega)
      · refine jv_widen (k := 23 + i + 1) (n := 1528 + 6 * i + 6) (Nat.le_succ _) (Nat.le_add_right _ _) ?_
        exact H9 σ fo ρ hR
theorem jv_tyI {s : State} {args : Array Value} {ty : FieldType} (h : (Cond.arrayClass ty).before args s = true) (hp : ∀ C, ty ≠ .object C) : ∃ c : ClassId, ArrOfT s c ty ∧ va_RA s c ty := by
  obtain ⟨c, k, comp, h1, h2, h3⟩ := Cond.arrayClass_spec h
  refine ⟨c, fun n z => ⟨(fun q hq => (by cases hq)), k, h2, comp, h3⟩, ?_⟩
  cases ty <;> first | exact h1 | exact absurd rfl (hp _)
theorem jv_tyA {s : State} {args : Array Value} (h : (Cond.arrayOver (.array .int)).before args s = true) : ∃ c : ClassId, ArrOfT s c (.array .int) ∧ va_RA s c (.array .int) := by
  obtain ⟨comp, c, k, h1, h2, h3, h4⟩ := Cond.arrayOver_specA h
  exact ⟨c, fun n z => ⟨(fun q hq => (by cases hq)), k, h2, comp, h3⟩, h4⟩
set_option maxRecDepth 100000 in
set_option maxHeartbeats 4000000 in
theorem whole_start {Rel : jS → jS → Prop} (O : jStep Rel) (h0 : Rel sg0 rh0) {p : Program} {e : Env} {s : State} {m : MethodId} {below : List Frame} {meth : Method} {c : Code} (l : Launch) (hl : l.stackTraces = false) {b L : Nat} {xs : Nat → Int32} (hL : L ≤ 2048) (C0 : lw_At p s m meth c b L xs) : W p l e room_1 s m #[Value.ref b] below meth c s.heap [] 0 0 (lw_Z below #[Value.ref b] s) (entryFrame m ([Value.ref b] : List Value).toArray 7) := by
  obtain ⟨hx, hb, hr, hml, hown, ht0, hX, hbl, hlocks, hgv⟩ := id C0
  have hA : ∀ q : Nat, s.heap.size ≤ q → (fun q : Nat => s.heap.size ≤ q) q := fun _ h => h
  have hnA : ∀ a : Nat, a < s.heap.size → ¬ (fun q : Nat => s.heap.size ≤ q) a := fun a h => Nat.not_le.mpr h
  have hbA : ¬ (fun q : Nat => s.heap.size ≤ q) b := Nat.not_le.mpr hbl
  have hts : ∀ w ∈ wb, w.before #[Value.ref b] s = true := fun w h => ht0 w (List.mem_filter.mp h).1
  have htt : ∀ (i : Nat) (w : Cond), tables_1[i]? = some w → w.before #[Value.ref b] s = true := fun i w h => ht0 w (List.mem_append_right _ (List.mem_of_getElem? h))
  have hgs := flat_of_before _ hgv
  have B : jv_B p c code := ⟨hx, hb⟩
  have hown : s.vm.findClass rn_L = some m.cls := hown
  obtain ⟨c_K, i_K, hKn_K⟩ := u_known (C := rn_K) (T := tf_K) (N := 8) (n := 8) hts in_K (htt 66 (.instantiable rn_K 8) (by decide +kernel))
  obtain ⟨c_D, i_D, hKn_D⟩ := u_known (C := rn_D) (T := tf_D) (N := 7) (n := 7) hts in_D (htt 24 (.instantiable rn_D 7) (by decide +kernel))
  obtain ⟨c_V, i_V, hKn_V⟩ := u_known (C := rn_V) (T := tf_V) (N := 3) (n := 3) hts in_V (htt 97 (.instantiable rn_V 3) (by decide +kernel))
  obtain ⟨c_S, i_S, hKn_S⟩ := u_known (C := rn_S) (T := tf_S) (N := 2) (n := 2) hts in_S (htt 53 (.instantiable rn_S 2) (by decide +kernel))
  obtain ⟨c_R, i_R, hKn_R⟩ := u_known (C := rn_R) (T := tf_R) (N := 4) (n := 4) hts in_R (htt 16 (.instantiable rn_R 4) (by decide +kernel))
  obtain ⟨c_M, i_M, hKn_M⟩ := u_known (C := rn_M) (T := tf_M) (N := 21) (n := 21) hts in_M (htt 561 (.instantiable rn_M 21) (by decide +kernel))
  obtain ⟨dC, dI, hKc⟩ : ∃ (dC : Nat → ClassId) (dI : Nat → Nat → Nat), ∀ (k : Nat) (q : vw_C), jClasses[k]? = some q → u_Kn s q.1 q.2.1 q.2.2 (dC k) (dI k) := by
    refine ⟨fun k => if k = 0 then c_K else if k = 1 then c_D else if k = 2 then c_V else if k = 3 then c_S else if k = 4 then c_R else c_M, fun k => if k = 0 then i_K else if k = 1 then i_D else if k = 2 then i_V else if k = 3 then i_S else if k = 4 then i_R else i_M, ?_⟩
    intro k q hq
    match k, hq with
    | 0, hq => cases hq; exact hKn_K
    | 1, hq => cases hq; exact hKn_D
    | 2, hq => cases hq; exact hKn_V
    | 3, hq => cases hq; exact hKn_S
    | 4, hq => cases hq; exact hKn_R
    | 5, hq => cases hq; exact hKn_M
    | k + 6, hq => simp [jClasses] at hq
  have hov : (Cond.arrayOver (.array .int)).before #[Value.ref b] s = true := htt 103 _ (by decide +kernel)
  obtain ⟨cI, hI⟩ := jv_tyI (hts _ kac_i) (fun C h => by cases h)
  obtain ⟨cL, hLo⟩ := jv_tyI (hts _ kac_l) (fun C h => by cases h)
  obtain ⟨cA, hAr⟩ := jv_tyA hov
  have hK : va_K (dC, dI) jClasses (jTy cI cA cL) s := ⟨hKc, fun k q h => by
    match k, h with
    | 0, h => cases h; exact hI
    | 1, h => cases h; exact hAr
    | 2, h => cases h; exact hLo
    | k + 3, h => cases h⟩
  have hstr : ∀ q ∈ jStrs, ∃ a, vk_R rn_R q.1 q.2 a s := by
    have one : ∀ (k : Nat) (tx : String), (Cond.stringRef rn_R k tx).before #[Value.ref b] s = true → (Cond.exactly (.string rn_R k) "java/lang/String").before #[Value.ref b] s = true → ∃ a, vk_R rn_R k tx a s := by
      intro k tx h1 h2
      obtain ⟨a, c9, cA9, kA9, q1, -⟩ := Cond.exactly_spec (args := #[Value.ref b]) (first := s) (o := none) (s := s) (idx := []) (t := .string rn_R k) (cls := "java/lang/String") h2
      exact ⟨a, vk_R.of h1 q1⟩
    intro q hq
    simp only [jStrs, List.mem_cons, List.not_mem_nil, or_false] at hq
    rcases hq with rfl | rfl | rfl | rfl | rfl | rfl | rfl | rfl | rfl | rfl | rfl
    · exact one 41 "a source has 1 to 64 sectors" (htt 260 _ (by decide +kernel)) (hgs _ (by decide +kernel))
    · exact one 60 "no such sector" (htt 311 _ (by decide +kernel)) (hgs _ (by decide +kernel))
    · exact one 62 "failures are -1 to 9" (htt 312 _ (by decide +kernel)) (hgs _ (by decide +kernel))
    · exact one 68 "retries are 0 to 5" (htt 325 _ (by decide +kernel)) (hgs _ (by decide +kernel))
    · exact one 79 "no source, or begun already" (htt 339 _ (by decide +kernel)) (hgs _ (by decide +kernel))
    · exact one 92 "copying is not going on" (htt 376 _ (by decide +kernel)) (hgs _ (by decide +kernel))
    · exact one 97 "steps are 0 to 300" (htt 457 _ (by decide +kernel)) (hgs _ (by decide +kernel))
    · exact one 103 "keep is below 0" (htt 505 _ (by decide +kernel)) (hgs _ (by decide +kernel))
    · exact one 108 "copying is not stopped" (htt 517 _ (by decide +kernel)) (hgs _ (by decide +kernel))
    · exact one 124 "no such slot or place" (htt 545 _ (by decide +kernel)) (hgs _ (by decide +kernel))
    · exact one 126 "a byte is 0 to 255" (htt 546 _ (by decide +kernel)) (hgs _ (by decide +kernel))
  have hJ : jX (fun q : Nat => s.heap.size ≤ q) s := ⟨vx_Zqof (htt 247 _ (by decide +kernel)) (htt 7 _ (by decide +kernel)) (hgs _ (by decide +kernel)) hnA, vx_Zqof (htt 249 _ (by decide +kernel)) (htt 7 _ (by decide +kernel)) (hgs _ (by decide +kernel)) hnA, hstr, va_Nw.of rfl (htt 222 _ (by decide +kernel)), va_Nw.of rfl (htt 332 _ (by decide +kernel)), va_Nc.of (hgs _ (by decide +kernel)), va_Nc.of (hgs _ (by decide +kernel)), va_Nw.of rfl (htt 224 _ (by decide +kernel)), va_Nw.of rfl (htt 226 _ (by decide +kernel)), va_Nw.of rfl (htt 228 _ (by decide +kernel))⟩
  have hN : jv_N s := ⟨hov, va_Nw.of rfl (htt 25 _ (by decide +kernel)), va_Nw.of rfl (htt 54 _ (by decide +kernel)), va_Nw.of rfl (htt 98 _ (by decide +kernel))⟩
  have hlv := lv_entry ([.ref b]) (n := 7) (Nat.le_of_ble_eq_true rfl)
  rw [lg_entry_eq]
  suffices hV : jv_V p l e room_1 s m #[Value.ref b] below meth c (dC, dI) jClasses (fun q : Nat => s.heap.size ≤ q) 7 0 0 (lw_Z below #[Value.ref b] s) [] [(0, .ref b)] 0 [] from hV s.heap [] _ (fun k q h => by simp at h) ⟨fun i j p q h => by simp at h, fun k q h => by simp at h⟩ va_S.rf hlv
  refine jv_newo (ci := 4) (fs := [.null, .null, .null, .null]) B hts in_R ty_R tyok_R hown kw_15 kw_16 kw_1 hK hA rfl (fun j hj => by rcases (show j = 0 ∨ j = 1 ∨ j = 2 ∨ j = 3 by omega) with rfl | rfl | rfl | rfl <;> rfl) (Nat.le_of_ble_eq_true rfl) (Nat.le_of_ble_eq_true rfl) d_L_law_0 (fun q0 => ?_)
  refine jv_dup B d_L_law_3 rfl ?_
  refine jv_ctor (wc := [(q0, .inr (4, [.null, .null, .null, .null]))]) (wr := []) (st := [.ref q0]) (mc := 13) (ms := 762) hA [0] [] (by decide) rfl rfl rfl (by decide) (by decide) (fun H locs ls hPc hDc hlv hS => va_runI (As := []) (rest := [.ref q0]) ⟨B.1, B.2, hml, hown, hts⟩ (c_R_init q0) (cwI 0 hts (fun w hw => (List.mem_cons.mp hw).elim (fun e => by subst e; exact ⟨kw_19, wb_good kw_19⟩) (fun hw => ⟨hw, wb_good hw⟩)) rfl rfl rfl (hts _ kw_1) (hts _ kw_17) (hts _ kw_18) rfl (by decide +kernel) ⟨Nat.le_of_ble_eq_true rfl, Nat.le_of_ble_eq_true rfl⟩) ⟨jv_blindR, fun U hU hW => ⟨rfl, ⟨by rw [hU]; exact hPc, va_K.moved hW.alike hK, hDc, fun q hq => Or.inr (by rw [hU] at hq; exact hq)⟩, hN.warm hW⟩⟩ rfl rfl hlv.1 rfl (lv_room (Nat.le_of_ble_eq_true rfl)) d_L_law_4 ⟨Nat.le_of_ble_eq_true rfl, Nat.le_of_ble_eq_true rfl⟩) (fun u hu => ?_)
  obtain ⟨ad, had⟩ : ∃ ad : Nat → Nat, ad = fun i => u.getD i 0 := ⟨_, rfl⟩
  rw [← had]
  have hq0 : ad 0 = q0 := by rw [had]; exact hu
  subst hq0
  refine jv_astore_n (lv' := [(1, .ref (ad 0)), (0, .ref b)]) B d_L_law_7 rfl (by decide) rfl ?_
  show jv_V p l e room_1 s m #[Value.ref b] below meth c (dC, dI) jClasses (fun q : Nat => s.heap.size ≤ q) 7 14 766 (lw_Z below #[Value.ref b] s) (cw ad cI cA sg0 []) [(1, .ref (ad 0)), (0, .ref b)] 8 []
  refine jv_newo (ci := 5) (fs := [.int 0, .int 0, .null, .null, .null, .null, .int 0, .int 0, .int 0, .int 0, .null, .int 0, .int 0, .int 0, .int 0, .int 0, .int 0, .int 0, .null, .null, .int 0]) B hts in_M ty_M tyok_M hown kw_560 kw_561 kw_6 hK hA rfl (fun j hj => by rcases (show j = 0 ∨ j = 1 ∨ j = 2 ∨ j = 3 ∨ j = 4 ∨ j = 5 ∨ j = 6 ∨ j = 7 ∨ j = 8 ∨ j = 9 ∨ j = 10 ∨ j = 11 ∨ j = 12 ∨ j = 13 ∨ j = 14 ∨ j = 15 ∨ j = 16 ∨ j = 17 ∨ j = 18 ∨ j = 19 ∨ j = 20 by omega) with rfl | rfl | rfl | rfl | rfl | rfl | rfl | rfl | rfl | rfl | rfl | rfl | rfl | rfl | rfl | rfl | rfl | rfl | rfl | rfl | rfl <;> rfl) (Nat.le_of_ble_eq_true rfl) (Nat.le_of_ble_eq_true rfl) d_L_law_8 (fun q1 => ?_)
  refine jv_dup B d_L_law_11 rfl ?_
  refine jv_ctor (wc := [(q1, .inr (5, [.int 0, .int 0, .null, .null, .null, .null, .int 0, .int 0, .int 0, .int 0, .null, .int 0, .int 0, .int 0, .int 0, .int 0, .int 0, .int 0, .null, .null, .int 0]))]) (wr := cw ad cI cA sg0 []) (st := [.ref q1]) (mc := 7) (ms := 740) hA [14] [0, 1, 2, 3, 4, 5, 6, 7, 8, 9, 10, 11, 12, 13] (by decide) rfl rfl rfl (by decide) (by decide) (fun H locs ls hPc hDc hlv hS => va_runI (As := []) (rest := [.ref q1]) ⟨B.1, B.2, hml, hown, hts⟩ (c_M_init q1) (cwI 0 hts (fun w hw => (List.mem_cons.mp hw).elim (fun e => by subst e; exact ⟨kw_564, wb_good kw_564⟩) (fun hw => ⟨hw, wb_good hw⟩)) rfl rfl rfl (hts _ kw_6) (hts _ kw_562) (hts _ kw_563) rfl (by decide +kernel) ⟨Nat.le_of_ble_eq_true rfl, Nat.le_of_ble_eq_true rfl⟩) ⟨jv_blind, fun U hU hW => ⟨rfl, by rw [hU]; exact hPc, va_K.moved hW.alike hK, hDc, fun q hq => Or.inr (by rw [hU] at hq; exact hq)⟩⟩ rfl rfl hlv.1 rfl (lv_room (Nat.le_of_ble_eq_true rfl)) d_L_law_12 ⟨Nat.le_of_ble_eq_true rfl, Nat.le_of_ble_eq_true rfl⟩) (fun u hu => ?_)
  obtain ⟨am, ham⟩ : ∃ am : Nat → Nat, am = fun i => u.getD i 0 := ⟨_, rfl⟩
  rw [← ham]
  have hq1 : am 0 = q1 := by rw [ham]; exact hu
  subst hq1
  refine jv_astore_n (lv' := [(2, .ref (am 0)), (1, .ref (ad 0)), (0, .ref b)]) B d_L_law_15 rfl (by decide) rfl ?_
  refine jv_iconst (v := 1) B d_L_law_16 (by decide) ?_
  refine jv_newl (N := 1) B hts hK hA (by decide) (by decide) (by decide) (Nat.le_of_ble_eq_true rfl) (Nat.le_of_ble_eq_true rfl) d_L_law_17 (fun ao => ?_)
  refine jv_astore_n (lv' := [(3, .ref ao), (2, .ref (am 0)), (1, .ref (ad 0)), (0, .ref b)]) B d_L_law_19 rfl (by decide) rfl ?_
  refine jv_iconst (v := 0) B d_L_law_20 (by decide) ?_
  refine jv_istore (lv' := [(4, .int 0), (3, .ref ao), (2, .ref (am 0)), (1, .ref (ad 0)), (0, .ref b)]) B d_L_law_21 (by decide) rfl ?_
  refine jv_sub [4, 3, 2, 1, 0] rfl ?_
  refine jv_ws (ws' := cw ad cI cA sg0 (oc ao cL (fun _ => 0) :: mw am cI cA rh0 [])) [0, 1, 2, 3, 4, 5, 6, 7, 8, 9, 10, 11, 12, 13, 22, 14, 15, 16, 17, 18, 19, 20, 21] (by decide) rfl rfl ?_
  exact law_loop O hL hr hlocks ⟨B, hml, hown, hts, hK, hA, hJ, hX, hbl, hbA, hl⟩ L 0 sg0 (fun _ => 0) rh0 h0 (by omega) (by omega)
set_option maxHeartbeats 4000000 in
theorem lw_walk {Rel : jS → jS → Prop} (O : jStep Rel) (h0 : Rel sg0 rh0) (l : Launch) (hl : l.stackTraces = false) (b : Addr) (xs : List Int32) : MetFree l x (headSpec (Jvm.Cond.code x code maxLocals ret :: tables_1) room_1) (lw_P b xs) (fun _ _ _ _ _ => True) lw_Q := by
  refine MetFree.of_bodyS (code := code) (maxLocals := maxLocals) (ret := ret) (by decide) ?_ ?_
  · intro args s m h hn
    obtain ⟨meth, c, h1, h2, h3, h4, h5, h6, -, -⟩ := Cond.code_spec hn (atoms_spec (ws := Jvm.Cond.code x code maxLocals ret :: tables_1) h _ List.mem_cons_self)
    exact ⟨meth, c, h1, h2, h3, h4, h5, h6⟩
  · intro p e s m args below meth c s₁ B hml0 hP _
    obtain ⟨rfl, hx, hbd, hgv⟩ := hP
    obtain ⟨scr, harrAt, hlist, hof, hsmall⟩ := hx
    obtain ⟨hcb, hkn, -, -⟩ := State.arrayAt?_spec harrAt
    have hown : s.vm.findClass R_law = some m.cls := findClass_of_methodNamed B.named
    have hts0 : ∀ c ∈ (Jvm.Cond.code x code maxLocals ret :: tables_1), c.before #[Value.ref b] s = true := atoms_spec (ws := Jvm.Cond.code x code maxLocals ret :: tables_1) B.pre
    have hts : ∀ w ∈ lw_tbl, w.before #[Value.ref b] s = true := k2_hts_sels lw_privs (fun w hw => hts0 w (List.mem_cons_of_mem _ hw)) lw_privs_ok
    have hml : c.maxLocals = 7 := B.maxLocals_eq (hts0 _ List.mem_cons_self)
    have X₀ : Stand p l e room_1 s m #[Value.ref b] below meth c s₁ [] 0 0 := Stand.of_body B
    have hh0 : s₁.heap = s.heap := by rw [B.state]; rfl
    have hsz : scr.slots.size = xs.length := by rw [← Array.length_toList, hlist, List.length_map]
    have hval : ∀ j : Nat, j < xs.length → scr.slots[j]? = some (.int (xs.getD j 0)) := fun j hj => by
      rw [← Array.getElem?_toList, hlist]
      simp [hj]
    have hbl : b < s.heap.size := (Array.getElem?_eq_some_iff.mp hcb).1
    have hX : va_X b xs.length (fun j => xs.getD j 0) s s.heap := ⟨scr, hcb, hof, hkn, hsz, hval⟩
    have K : W p l e room_1 s m #[Value.ref b] below meth c s₁.heap [] 0 0 (lw_Z below #[Value.ref b] s) (entryFrame m ([Value.ref b] : List Value).toArray 7) := by
      rw [hh0]
      exact whole_start O h0 l hl hbd ⟨B.exec, B.bytes, B.returns, hml, hown, hts, hX, hbl, B.notSynchronized, hgv⟩
    obtain ⟨t, a1, o, b1, b2, b3⟩ := K s₁ rfl X₀
    exact ⟨t, o, a1, b1, b2, b3⟩
theorem lw_pre_spec {args : Array Value} {s : State} (h : (Jvm.Cond.and given_1 narrow_1).before args s = true) (hr : rest_1_c.before args s = true) : ∃ (b : Addr) (xs : List Int32), lw_P b xs args s := by
  have hs := flat_of_before _ h
  have hq := flat_of_before _ hr
  have hc : (Cond.count 1).before args s = true := hs _ (by decide +kernel)
  have harr : (Cond.arrayOf (.arg 0) .int).before args s = true := hs _ (by decide +kernel)
  have hle : (Cond.le (.length (.arg 0)) (.int 2048)).before args s = true := hs _ (by decide +kernel)
  have hlen : (Cond.isInt (.length (.arg 0))).before args s = true := hq _ (by decide +kernel)
  have hall : (Cond.all (.arg 0) (.isInt (.elem (.arg 0) (.index 0)))).before args s = true := hq _ (by decide +kernel)
  obtain ⟨b, xs, hb, hx⟩ := State.ints_of_pre rfl harr hlen hall
  have hsm : xs.length < 2 ^ 31 := hx.choose_spec.2.2.2
  have hev : (Term.length (.arg 0)).eval args s none [] s = some (.int xs.length.toInt32) := hx.length_eval hb
  have hv := Cond.le_ints hev (show (Term.int 2048).eval args s none [] s = some (.int 2048) from rfl)
  have hd : xs.length.toInt32 ≤ 2048 := by
    simpa [Cond.before, Cond.holds, hv] using hle
  have hN : xs.length ≤ 2048 := (Int32.ofNat_le_ofNat hsm (by decide)).mp (show Int32.ofNat xs.length ≤ Int32.ofNat 2048 from hd)
  exact ⟨b, xs, Cond.one_arg hc (show args[0]? = some (.ref b) from hb), hx, hN, h⟩
theorem lw_comes {Rel : jS → jS → Prop} (O : jStep Rel) (h0 : Rel sg0 rh0) (l : Launch) (hl : l.stackTraces = false) : Comes l x (Jvm.Cond.code x code maxLocals ret :: tables_1) room_1 (fun tb e args s => Calls_1 tb e args s ∧ rest_1 tb e args s ∧ Pre_1 tb e args s)
    (fun _ _ args s o t => lw_Q args s o t) := by
  intro p e ha hc hk s m args below hf hfit hheap happ hpre
  obtain ⟨b, xs, hP⟩ := lw_pre_spec hpre.2.2 hpre.2.1
  obtain ⟨k, o, h1, h2, h3, hQ⟩ := lw_walk O h0 l hl b xs p e ha hc hk s m args below hf ((Spec.applies_iff_loose hf).mp happ).1 hP trivial
  exact ⟨k, o, h1, h2, h3, hQ⟩
theorem lw_frame {s t : State} {o : Outcome} {args : Array Value} (h : Framed s o t [] 601024 7293034) :
    Framed s o t (fieldLocs frame_1_writes args s ++ arrayLocs frame_1_arrays args s ++ staticLocs frame_1_statics s) 601024 7293034 := h
theorem lw_limb {Rel : jS → jS → Prop} (O : jStep Rel) (h0 : Rel sg0 rh0) (L : Cond) (hL : ∀ (args : Array Value) (s t : State), L.after args s (.returned (some (.int 1))) t = true) :
    ArmFor flags0 classFile x code maxLocals ret World_1 tables_1 room_1 Calls_1 rest_1 Pre_1
      (fun tb e a s o t => postC L tb e a s o t ∧ Framed s o t (fieldLocs frame_1_writes a s ++ arrayLocs frame_1_arrays a s ++ staticLocs frame_1_statics s) 601024 7293034) := by
  intro l hfl _ _
  have hl : l.stackTraces = false := by
    show (!l.flags.contains noTraceFlag) = false
    rw [hfl]
    decide +kernel
  intro p e ha hc hk s m args below hf hfit hheap happ hpre
  obtain ⟨k, o, h1, h2, h3, rfl, hF⟩ := lw_comes O h0 l hl p e ha hc hk s m args below hf hfit hheap happ hpre
  exact ⟨k, _, h1, h2, h3, hL args s _, lw_frame hF⟩

theorem lw_vc {Rel : jS → jS → Prop} (O : jStep Rel) (h0 : Rel sg0 rh0) : Claimed_1_1 ∧ Claimed_1_2 := ⟨lw_limb O h0 limb_1_1 (fun args s t => by simp [limb_1_1, Cond.after, Cond.holds, Cond.value]), lw_limb O h0 limb_1_2 (fun args s t => Cond.after_iff.mpr (by
  first | (rw [show limb_1_2 = Cond.eq .result (.int 1) from rfl, Cond.eq_ints (x := 1) (y := 1) rfl rfl]; simp; done) | (simp [limb_1_2, Cond.value, Term.eval]; done)))⟩


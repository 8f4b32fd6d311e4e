abbrev jS : Type := Nat → Nat → Int32
/-- one number of one cell; the first n places of an array; a stretch out of another array -/
def up2 (σ : jS) (i j : Nat) (v : Int32) : jS := fun a => if a = i then (fun b => if b = j then v else σ a b) else σ a
def upA (σ : jS) (i n : Nat) (v : Int32) : jS := fun a => if a = i then (fun b => if b < n then v else σ a b) else σ a
def upC (σ : jS) (i k sp dp n : Nat) : jS := fun a => if a = i then va_cpy (σ k) (σ a) sp dp n else σ a
abbrev jTy (cI cA cL : ClassId) : List (ClassId × FieldType) := [(cI, .int), (cA, .array .int), (cL, .long)]
abbrev bz (v : Int32) : Prop := v = 0 ∨ v = 1
abbrev rmk (d mc ms : Nat) : Room := { frames := d, cells := mc, slots := ms, locals := 32 * d }
def aaF (r0 r1 : Nat) : Nat → Option Nat := fun j => if j < 2 then some (if j = 0 then r0 else r1) else none
/-- the words of the tables that stay -/
def wb : List Cond := lw_tbl.filter goodWord
theorem wb_good {w : Cond} (h : w ∈ wb) : (w.onTables && w.keeps) = true ∨ ∃ ty, w = .arrayClass ty := good_of_word (List.mem_filter.mp h).2
theorem wb_t {w : Cond} (i : Nat) (h : tables_1[i]? = some w) (hg : goodWord w = true) : w ∈ wb := List.mem_filter.mpr ⟨List.mem_append_right _ (List.mem_of_getElem? h), hg⟩
theorem wb_s {w : Cond} (i : Nat) (h : (k2_sels lw_privs)[i]? = some w) (hg : goodWord w = true) : w ∈ wb := List.mem_filter.mpr ⟨List.mem_append_left _ (List.mem_of_getElem? h), hg⟩
theorem gw_V {own C : String} {idx maxL : Nat} {y : MethodName} {cc : ByteArray} {ret : Option FieldType} (h1 : Cond.methodLink own idx y ∈ wb) (h2 : Cond.instanceMethod y ∈ wb) (h3 : Cond.selects C y y ∈ wb) (h4 : Cond.initialized C ∈ wb) (h5 : Cond.code y cc maxL ret ∈ wb) : GoodIn wb (wsV own idx C y (Cond.code y cc maxL ret :: wb)) := by
  intro w hw
  have h : w ∈ wb := by
    simp only [wsV, List.cons_append, List.nil_append, List.mem_cons] at hw
    rcases hw with rfl | rfl | rfl | rfl | rfl | hw
    · exact h1
    · exact h2
    · exact h3
    · exact h4
    · exact h5
    · exact hw
  exact ⟨h, wb_good h⟩
theorem gw_S {own : String} {idx maxL : Nat} {y : MethodName} {cc : ByteArray} {ret : Option FieldType} (h1 : Cond.methodLink own idx y ∈ wb) (h2 : Cond.static y ∈ wb) (h4 : Cond.initialized own ∈ wb) (h5 : Cond.code y cc maxL ret ∈ wb) : GoodIn wb (wsS own idx y (Cond.code y cc maxL ret :: wb)) := by
  intro w hw
  have h : w ∈ wb := by
    simp only [wsS, List.cons_append, List.nil_append, List.mem_cons] at hw
    rcases hw with rfl | rfl | rfl | rfl | hw
    · exact h1
    · exact h2
    · exact h4
    · exact h5
    · exact hw
  exact ⟨h, wb_good h⟩
/-- the world of the class -/
def cw (ad : Nat → Nat) (cI cA : ClassId) (σ : jS) (F : va_W) : va_W :=
  (ad 0, .inr (4, [.ref (ad 1), .ref (ad 6), .ref (ad 8), .ref (ad 9)])) ::
  (ad 1, .inr (1, [.ref (ad 2), .ref (ad 3), .ref (ad 4), .ref (ad 5), .int (σ 1 4), .int (σ 1 5), .int (σ 1 6)])) ::
  (ad 2, .inl (cI, 64, .inl (σ 2))) ::
  (ad 3, .inl (cI, 64, .inl (σ 3))) ::
  (ad 4, .inl (cI, 64, .inl (σ 4))) ::
  (ad 5, .inl (cI, 64, .inl (σ 5))) ::
  (ad 6, .inr (3, [.ref (ad 7), .int (σ 6 1)])) ::
  (ad 7, .inl (cI, 64, .inl (σ 7))) ::
  (ad 8, .inr (0, [.ref (ad 1), .ref (ad 6), .int (σ 8 2), .int (σ 8 3), .int (σ 8 4), .int (σ 8 5), .int (σ 8 6), .int (σ 8 7)])) ::
  (ad 9, .inr (2, [.ref (ad 10), .ref (ad 13), .int (σ 9 2)])) ::
  (ad 10, .inl (cA, 2, .inr (.inr (.inr (.inr (aaF (ad 11) (ad 12))))))) ::
  (ad 11, .inl (cI, 140, .inl (σ 11))) ::
  (ad 12, .inl (cI, 140, .inl (σ 12))) ::
  (ad 13, .inl (cI, 140, .inl (σ 13))) :: F
/-- the world of the reference -/
def mw (ad : Nat → Nat) (cI cA : ClassId) (σ : jS) (F : va_W) : va_W :=
  (ad 0, .inr (5, [.int (σ 0 0), .int (σ 0 1), .ref (ad 1), .ref (ad 2), .ref (ad 3), .ref (ad 4), .int (σ 0 6), .int (σ 0 7), .int (σ 0 8), .int (σ 0 9), .ref (ad 5), .int (σ 0 11), .int (σ 0 12), .int (σ 0 13), .int (σ 0 14), .int (σ 0 15), .int (σ 0 16), .int (σ 0 17), .ref (ad 6), .ref (ad 7), .int (σ 0 20)])) ::
  (ad 1, .inl (cI, 64, .inl (σ 1))) ::
  (ad 2, .inl (cI, 64, .inl (σ 2))) ::
  (ad 3, .inl (cI, 64, .inl (σ 3))) ::
  (ad 4, .inl (cI, 64, .inl (σ 4))) ::
  (ad 5, .inl (cI, 64, .inl (σ 5))) ::
  (ad 6, .inl (cI, 280, .inl (σ 6))) ::
  (ad 7, .inl (cI, 140, .inl (σ 7))) :: F
theorem kw_29 : Cond.fieldLink rn_D 9 "RescueDesk$Disk" "words" "[I" ∈ wb := wb_t 29 (by decide +kernel) (by decide +kernel)
theorem kw_30 : Cond.fieldLink rn_D 15 "RescueDesk$Disk" "failuresLeft" "[I" ∈ wb := wb_t 30 (by decide +kernel) (by decide +kernel)
theorem kw_31 : Cond.fieldLink rn_D 18 "RescueDesk$Disk" "readCounts" "[I" ∈ wb := wb_t 31 (by decide +kernel) (by decide +kernel)
theorem kw_32 : Cond.fieldLink rn_D 21 "RescueDesk$Disk" "target" "[I" ∈ wb := wb_t 32 (by decide +kernel) (by decide +kernel)
theorem kw_33 : Cond.fieldLink rn_D 24 "RescueDesk$Disk" "sectors" "I" ∈ wb := wb_t 33 (by decide +kernel) (by decide +kernel)
theorem kw_34 : Cond.fieldLink rn_D 28 "RescueDesk$Disk" "stretches" "I" ∈ wb := wb_t 34 (by decide +kernel) (by decide +kernel)
theorem kw_35 : Cond.fieldLink rn_D 31 "RescueDesk$Disk" "failedStretches" "I" ∈ wb := wb_t 35 (by decide +kernel) (by decide +kernel)
theorem kw_36 : Cond.laysFinal "RescueDesk$Disk" "RescueDesk$Disk" "words" "[I" ∈ wb := wb_t 36 (by decide +kernel) (by decide +kernel)
theorem kw_38 : Cond.laysFinal "RescueDesk$Disk" "RescueDesk$Disk" "failuresLeft" "[I" ∈ wb := wb_t 38 (by decide +kernel) (by decide +kernel)
theorem kw_40 : Cond.laysFinal "RescueDesk$Disk" "RescueDesk$Disk" "readCounts" "[I" ∈ wb := wb_t 40 (by decide +kernel) (by decide +kernel)
theorem kw_42 : Cond.laysFinal "RescueDesk$Disk" "RescueDesk$Disk" "target" "[I" ∈ wb := wb_t 42 (by decide +kernel) (by decide +kernel)
theorem kw_44 : Cond.lays "RescueDesk$Disk" "RescueDesk$Disk" "sectors" "I" ∈ wb := wb_t 44 (by decide +kernel) (by decide +kernel)
theorem kw_46 : Cond.lays "RescueDesk$Disk" "RescueDesk$Disk" "stretches" "I" ∈ wb := wb_t 46 (by decide +kernel) (by decide +kernel)
theorem kw_48 : Cond.lays "RescueDesk$Disk" "RescueDesk$Disk" "failedStretches" "I" ∈ wb := wb_t 48 (by decide +kernel) (by decide +kernel)
theorem kw_58 : Cond.fieldLink rn_S 9 "RescueDesk$SectorMap" "states" "[I" ∈ wb := wb_t 58 (by decide +kernel) (by decide +kernel)
theorem kw_59 : Cond.fieldLink rn_S 24 "RescueDesk$SectorMap" "sectors" "I" ∈ wb := wb_t 59 (by decide +kernel) (by decide +kernel)
theorem kw_60 : Cond.laysFinal "RescueDesk$SectorMap" "RescueDesk$SectorMap" "states" "[I" ∈ wb := wb_t 60 (by decide +kernel) (by decide +kernel)
theorem kw_62 : Cond.lays "RescueDesk$SectorMap" "RescueDesk$SectorMap" "sectors" "I" ∈ wb := wb_t 62 (by decide +kernel) (by decide +kernel)
theorem kw_71 : Cond.fieldLink rn_K 9 "RescueDesk$Copier" "disk" "LRescueDesk$Disk;" ∈ wb := wb_t 71 (by decide +kernel) (by decide +kernel)
theorem kw_72 : Cond.fieldLink rn_K 15 "RescueDesk$Copier" "map" "LRescueDesk$SectorMap;" ∈ wb := wb_t 72 (by decide +kernel) (by decide +kernel)
theorem kw_73 : Cond.fieldLink rn_K 19 "RescueDesk$Copier" "phaseNow" "I" ∈ wb := wb_t 73 (by decide +kernel) (by decide +kernel)
theorem kw_74 : Cond.fieldLink rn_K 39 "RescueDesk$Copier" "position" "I" ∈ wb := wb_t 74 (by decide +kernel) (by decide +kernel)
theorem kw_75 : Cond.fieldLink rn_K 30 "RescueDesk$Copier" "leap" "I" ∈ wb := wb_t 75 (by decide +kernel) (by decide +kernel)
theorem kw_76 : Cond.fieldLink rn_K 42 "RescueDesk$Copier" "round" "I" ∈ wb := wb_t 76 (by decide +kernel) (by decide +kernel)
theorem kw_77 : Cond.fieldLink rn_K 23 "RescueDesk$Copier" "retryRounds" "I" ∈ wb := wb_t 77 (by decide +kernel) (by decide +kernel)
theorem kw_78 : Cond.fieldLink rn_K 45 "RescueDesk$Copier" "trimsLast" "Z" ∈ wb := wb_t 78 (by decide +kernel) (by decide +kernel)
theorem kw_79 : Cond.laysFinal "RescueDesk$Copier" "RescueDesk$Copier" "disk" "LRescueDesk$Disk;" ∈ wb := wb_t 79 (by decide +kernel) (by decide +kernel)
theorem kw_81 : Cond.laysFinal "RescueDesk$Copier" "RescueDesk$Copier" "map" "LRescueDesk$SectorMap;" ∈ wb := wb_t 81 (by decide +kernel) (by decide +kernel)
theorem kw_83 : Cond.lays "RescueDesk$Copier" "RescueDesk$Copier" "phaseNow" "I" ∈ wb := wb_t 83 (by decide +kernel) (by decide +kernel)
theorem kw_85 : Cond.lays "RescueDesk$Copier" "RescueDesk$Copier" "position" "I" ∈ wb := wb_t 85 (by decide +kernel) (by decide +kernel)
theorem kw_87 : Cond.lays "RescueDesk$Copier" "RescueDesk$Copier" "leap" "I" ∈ wb := wb_t 87 (by decide +kernel) (by decide +kernel)
theorem kw_89 : Cond.lays "RescueDesk$Copier" "RescueDesk$Copier" "round" "I" ∈ wb := wb_t 89 (by decide +kernel) (by decide +kernel)
theorem kw_91 : Cond.lays "RescueDesk$Copier" "RescueDesk$Copier" "retryRounds" "I" ∈ wb := wb_t 91 (by decide +kernel) (by decide +kernel)
theorem kw_93 : Cond.lays "RescueDesk$Copier" "RescueDesk$Copier" "trimsLast" "Z" ∈ wb := wb_t 93 (by decide +kernel) (by decide +kernel)
theorem kw_104 : Cond.fieldLink rn_V 11 "RescueDesk$Saves" "slots" "[[I" ∈ wb := wb_t 104 (by decide +kernel) (by decide +kernel)
theorem kw_105 : Cond.fieldLink rn_V 16 "RescueDesk$Saves" "drawn" "[I" ∈ wb := wb_t 105 (by decide +kernel) (by decide +kernel)
theorem kw_106 : Cond.fieldLink rn_V 20 "RescueDesk$Saves" "lastNumber" "I" ∈ wb := wb_t 106 (by decide +kernel) (by decide +kernel)
theorem kw_107 : Cond.laysFinal "RescueDesk$Saves" "RescueDesk$Saves" "slots" "[[I" ∈ wb := wb_t 107 (by decide +kernel) (by decide +kernel)
theorem kw_109 : Cond.laysFinal "RescueDesk$Saves" "RescueDesk$Saves" "drawn" "[I" ∈ wb := wb_t 109 (by decide +kernel) (by decide +kernel)
theorem kw_111 : Cond.lays "RescueDesk$Saves" "RescueDesk$Saves" "lastNumber" "I" ∈ wb := wb_t 111 (by decide +kernel) (by decide +kernel)
theorem kw_114 : Cond.fieldLink rn_R 10 "RescueDesk" "disk" "LRescueDesk$Disk;" ∈ wb := wb_t 114 (by decide +kernel) (by decide +kernel)
theorem kw_115 : Cond.fieldLink rn_R 19 "RescueDesk" "map" "LRescueDesk$SectorMap;" ∈ wb := wb_t 115 (by decide +kernel) (by decide +kernel)
theorem kw_116 : Cond.fieldLink rn_R 28 "RescueDesk" "copier" "LRescueDesk$Copier;" ∈ wb := wb_t 116 (by decide +kernel) (by decide +kernel)
theorem kw_117 : Cond.fieldLink rn_R 35 "RescueDesk" "saves" "LRescueDesk$Saves;" ∈ wb := wb_t 117 (by decide +kernel) (by decide +kernel)
theorem kw_118 : Cond.laysFinal "RescueDesk" "RescueDesk" "disk" "LRescueDesk$Disk;" ∈ wb := wb_t 118 (by decide +kernel) (by decide +kernel)
theorem kw_120 : Cond.laysFinal "RescueDesk" "RescueDesk" "map" "LRescueDesk$SectorMap;" ∈ wb := wb_t 120 (by decide +kernel) (by decide +kernel)
theorem kw_122 : Cond.laysFinal "RescueDesk" "RescueDesk" "copier" "LRescueDesk$Copier;" ∈ wb := wb_t 122 (by decide +kernel) (by decide +kernel)
theorem kw_124 : Cond.laysFinal "RescueDesk" "RescueDesk" "saves" "LRescueDesk$Saves;" ∈ wb := wb_t 124 (by decide +kernel) (by decide +kernel)
theorem kw_566 : Cond.fieldLink rn_M 35 "RescueDeskModel" "code" "I" ∈ wb := wb_t 566 (by decide +kernel) (by decide +kernel)
theorem kw_567 : Cond.fieldLink rn_M 38 "RescueDeskModel" "sectors" "I" ∈ wb := wb_t 567 (by decide +kernel) (by decide +kernel)
theorem kw_568 : Cond.fieldLink rn_M 7 "RescueDeskModel" "words" "[I" ∈ wb := wb_t 568 (by decide +kernel) (by decide +kernel)
theorem kw_569 : Cond.fieldLink rn_M 13 "RescueDeskModel" "failures" "[I" ∈ wb := wb_t 569 (by decide +kernel) (by decide +kernel)
theorem kw_570 : Cond.fieldLink rn_M 16 "RescueDeskModel" "reads" "[I" ∈ wb := wb_t 570 (by decide +kernel) (by decide +kernel)
theorem kw_571 : Cond.fieldLink rn_M 19 "RescueDeskModel" "target" "[I" ∈ wb := wb_t 571 (by decide +kernel) (by decide +kernel)
theorem kw_572 : Cond.fieldLink rn_M 41 "RescueDeskModel" "made" "I" ∈ wb := wb_t 572 (by decide +kernel) (by decide +kernel)
theorem kw_573 : Cond.fieldLink rn_M 44 "RescueDeskModel" "failed" "I" ∈ wb := wb_t 573 (by decide +kernel) (by decide +kernel)
theorem kw_574 : Cond.fieldLink rn_M 22 "RescueDeskModel" "phase" "I" ∈ wb := wb_t 574 (by decide +kernel) (by decide +kernel)
theorem kw_575 : Cond.fieldLink rn_M 73 "RescueDeskModel" "retries" "I" ∈ wb := wb_t 575 (by decide +kernel) (by decide +kernel)
theorem kw_576 : Cond.fieldLink rn_M 26 "RescueDeskModel" "states" "[I" ∈ wb := wb_t 576 (by decide +kernel) (by decide +kernel)
theorem kw_577 : Cond.fieldLink rn_M 60 "RescueDeskModel" "position" "I" ∈ wb := wb_t 577 (by decide +kernel) (by decide +kernel)
theorem kw_578 : Cond.fieldLink rn_M 63 "RescueDeskModel" "leap" "I" ∈ wb := wb_t 578 (by decide +kernel) (by decide +kernel)
theorem kw_579 : Cond.fieldLink rn_M 66 "RescueDeskModel" "round" "I" ∈ wb := wb_t 579 (by decide +kernel) (by decide +kernel)
theorem kw_580 : Cond.fieldLink rn_M 69 "RescueDeskModel" "backwards" "Z" ∈ wb := wb_t 580 (by decide +kernel) (by decide +kernel)
theorem kw_581 : Cond.fieldLink rn_M 54 "RescueDeskModel" "from" "I" ∈ wb := wb_t 581 (by decide +kernel) (by decide +kernel)
theorem kw_582 : Cond.fieldLink rn_M 57 "RescueDeskModel" "to" "I" ∈ wb := wb_t 582 (by decide +kernel) (by decide +kernel)
theorem kw_583 : Cond.fieldLink rn_M 47 "RescueDeskModel" "number" "I" ∈ wb := wb_t 583 (by decide +kernel) (by decide +kernel)
theorem kw_584 : Cond.fieldLink rn_M 29 "RescueDeskModel" "slots" "[I" ∈ wb := wb_t 584 (by decide +kernel) (by decide +kernel)
theorem kw_585 : Cond.fieldLink rn_M 32 "RescueDeskModel" "image" "[I" ∈ wb := wb_t 585 (by decide +kernel) (by decide +kernel)
theorem kw_586 : Cond.fieldLink rn_M 114 "RescueDeskModel" "size" "I" ∈ wb := wb_t 586 (by decide +kernel) (by decide +kernel)
theorem kw_587 : Cond.lays "RescueDeskModel" "RescueDeskModel" "code" "I" ∈ wb := wb_t 587 (by decide +kernel) (by decide +kernel)
theorem kw_589 : Cond.lays "RescueDeskModel" "RescueDeskModel" "sectors" "I" ∈ wb := wb_t 589 (by decide +kernel) (by decide +kernel)
theorem kw_591 : Cond.laysFinal "RescueDeskModel" "RescueDeskModel" "words" "[I" ∈ wb := wb_t 591 (by decide +kernel) (by decide +kernel)
theorem kw_593 : Cond.laysFinal "RescueDeskModel" "RescueDeskModel" "failures" "[I" ∈ wb := wb_t 593 (by decide +kernel) (by decide +kernel)
theorem kw_595 : Cond.laysFinal "RescueDeskModel" "RescueDeskModel" "reads" "[I" ∈ wb := wb_t 595 (by decide +kernel) (by decide +kernel)
theorem kw_597 : Cond.laysFinal "RescueDeskModel" "RescueDeskModel" "target" "[I" ∈ wb := wb_t 597 (by decide +kernel) (by decide +kernel)
theorem kw_599 : Cond.lays "RescueDeskModel" "RescueDeskModel" "made" "I" ∈ wb := wb_t 599 (by decide +kernel) (by decide +kernel)
theorem kw_601 : Cond.lays "RescueDeskModel" "RescueDeskModel" "failed" "I" ∈ wb := wb_t 601 (by decide +kernel) (by decide +kernel)
theorem kw_603 : Cond.lays "RescueDeskModel" "RescueDeskModel" "phase" "I" ∈ wb := wb_t 603 (by decide +kernel) (by decide +kernel)
theorem kw_605 : Cond.lays "RescueDeskModel" "RescueDeskModel" "retries" "I" ∈ wb := wb_t 605 (by decide +kernel) (by decide +kernel)
theorem kw_607 : Cond.laysFinal "RescueDeskModel" "RescueDeskModel" "states" "[I" ∈ wb := wb_t 607 (by decide +kernel) (by decide +kernel)
theorem kw_609 : Cond.lays "RescueDeskModel" "RescueDeskModel" "position" "I" ∈ wb := wb_t 609 (by decide +kernel) (by decide +kernel)
theorem kw_611 : Cond.lays "RescueDeskModel" "RescueDeskModel" "leap" "I" ∈ wb := wb_t 611 (by decide +kernel) (by decide +kernel)
theorem kw_613 : Cond.lays "RescueDeskModel" "RescueDeskModel" "round" "I" ∈ wb := wb_t 613 (by decide +kernel) (by decide +kernel)
theorem kw_615 : Cond.lays "RescueDeskModel" "RescueDeskModel" "backwards" "Z" ∈ wb := wb_t 615 (by decide +kernel) (by decide +kernel)
theorem kw_617 : Cond.lays "RescueDeskModel" "RescueDeskModel" "from" "I" ∈ wb := wb_t 617 (by decide +kernel) (by decide +kernel)
theorem kw_619 : Cond.lays "RescueDeskModel" "RescueDeskModel" "to" "I" ∈ wb := wb_t 619 (by decide +kernel) (by decide +kernel)
theorem kw_621 : Cond.lays "RescueDeskModel" "RescueDeskModel" "number" "I" ∈ wb := wb_t 621 (by decide +kernel) (by decide +kernel)
theorem kw_623 : Cond.laysFinal "RescueDeskModel" "RescueDeskModel" "slots" "[I" ∈ wb := wb_t 623 (by decide +kernel) (by decide +kernel)
theorem kw_625 : Cond.laysFinal "RescueDeskModel" "RescueDeskModel" "image" "[I" ∈ wb := wb_t 625 (by decide +kernel) (by decide +kernel)
theorem kw_627 : Cond.lays "RescueDeskModel" "RescueDeskModel" "size" "I" ∈ wb := wb_t 627 (by decide +kernel) (by decide +kernel)
section JW
variable {p : Program} {l : Launch} {e : Env} {R : Room} {s : State} {m : MethodId} {args : Array Value} {below : List Frame} {meth : Method} {c : Code} {cells slots : Nat} {Q : State → Prop}
variable {cc : ByteArray} {pc : Nat} {st : List Value} {D : va_G} {A : Nat → Prop} {nL : Nat} {lv : List (Nat × Value)} {ad : Nat → Nat} {cI cA cL : ClassId} {σ : jS} {F : va_W}
theorem in_K : ∀ w ∈ u_ws rn_K tf_K 8, w ∈ wb := by
  intro w hw
  obtain ⟨j, hj, rfl⟩ := List.mem_map.mp hw
  have hj := List.mem_range.mp hj
  match j, hj with
  | 0, _ => exact kw_79
  | 1, _ => exact kw_81
  | 2, _ => exact kw_83
  | 3, _ => exact kw_85
  | 4, _ => exact kw_87
  | 5, _ => exact kw_89
  | 6, _ => exact kw_91
  | 7, _ => exact kw_93
  | j + 8, hj => omega
theorem fg_K_disk (B : jv_B p c cc) (hts : ∀ w ∈ wb, w.before args s = true) (hown : s.vm.findClass rn_K = some m.cls) (hK : va_K D jClasses (jTy cI cA cL) s) (hd : decode cc pc = .ok (.getfield 9, 3))
    (kk : jv_V p l e R s m args below meth c D jClasses A nL cells slots Q (cw ad cI cA σ F) lv (pc + 3) (.ref (ad 1) :: st)) : jv_V p l e R s m args below meth c D jClasses A nL cells slots Q (cw ad cI cA σ F) lv pc (.ref (ad 8) :: st) := jv_get B hts in_K hown hK 8 rfl rfl 0 (by decide) (hts _ kw_71) (fun _ h => h) rfl hd kk
theorem fg_K_map (B : jv_B p c cc) (hts : ∀ w ∈ wb, w.before args s = true) (hown : s.vm.findClass rn_K = some m.cls) (hK : va_K D jClasses (jTy cI cA cL) s) (hd : decode cc pc = .ok (.getfield 15, 3))
    (kk : jv_V p l e R s m args below meth c D jClasses A nL cells slots Q (cw ad cI cA σ F) lv (pc + 3) (.ref (ad 6) :: st)) : jv_V p l e R s m args below meth c D jClasses A nL cells slots Q (cw ad cI cA σ F) lv pc (.ref (ad 8) :: st) := jv_get B hts in_K hown hK 8 rfl rfl 1 (by decide) (hts _ kw_72) (fun _ h => h) rfl hd kk
theorem fg_K_phaseNow (B : jv_B p c cc) (hts : ∀ w ∈ wb, w.before args s = true) (hown : s.vm.findClass rn_K = some m.cls) (hK : va_K D jClasses (jTy cI cA cL) s) (hd : decode cc pc = .ok (.getfield 19, 3))
    (kk : jv_V p l e R s m args below meth c D jClasses A nL cells slots Q (cw ad cI cA σ F) lv (pc + 3) (.int (σ 8 2) :: st)) : jv_V p l e R s m args below meth c D jClasses A nL cells slots Q (cw ad cI cA σ F) lv pc (.ref (ad 8) :: st) := jv_get B hts in_K hown hK 8 rfl rfl 2 (by decide) (hts _ kw_73) (fun _ h => h) rfl hd kk
theorem fs_K_phaseNow (B : jv_B p c cc) (hts : ∀ w ∈ wb, w.before args s = true) (hown : s.vm.findClass rn_K = some m.cls) (hK : va_K D jClasses (jTy cI cA cL) s) {v : Int32} (hd : decode cc pc = .ok (.putfield 19, 3))
    (kk : jv_V p l e R s m args below meth c D jClasses A nL cells slots Q (cw ad cI cA (up2 σ 8 2 v) F) lv (pc + 3) st) : jv_V p l e R s m args below meth c D jClasses A nL cells slots Q (cw ad cI cA σ F) lv pc (.int v :: .ref (ad 8) :: st) := jv_put (ty := .int) (ci := 0) (fs := [.ref (ad 1), .ref (ad 6), .int (σ 8 2), .int (σ 8 3), .int (σ 8 4), .int (σ 8 5), .int (σ 8 6), .int (σ 8 7)]) (ws' := cw ad cI cA (up2 σ 8 2 v) F) B hts in_K ty_K tyok_K nm_K hown hK 8 rfl rfl 2 (by decide) (hts _ kw_73) (fun _ h => h) rfl (by decide +kernel) rfl rfl (Nat.le_of_ble_eq_true rfl) hd rfl kk
theorem fg_K_position (B : jv_B p c cc) (hts : ∀ w ∈ wb, w.before args s = true) (hown : s.vm.findClass rn_K = some m.cls) (hK : va_K D jClasses (jTy cI cA cL) s) (hd : decode cc pc = .ok (.getfield 39, 3))
    (kk : jv_V p l e R s m args below meth c D jClasses A nL cells slots Q (cw ad cI cA σ F) lv (pc + 3) (.int (σ 8 3) :: st)) : jv_V p l e R s m args below meth c D jClasses A nL cells slots Q (cw ad cI cA σ F) lv pc (.ref (ad 8) :: st) := jv_get B hts in_K hown hK 8 rfl rfl 3 (by decide) (hts _ kw_74) (fun _ h => h) rfl hd kk
theorem fs_K_position (B : jv_B p c cc) (hts : ∀ w ∈ wb, w.before args s = true) (hown : s.vm.findClass rn_K = some m.cls) (hK : va_K D jClasses (jTy cI cA cL) s) {v : Int32} (hd : decode cc pc = .ok (.putfield 39, 3))
    (kk : jv_V p l e R s m args below meth c D jClasses A nL cells slots Q (cw ad cI cA (up2 σ 8 3 v) F) lv (pc + 3) st) : jv_V p l e R s m args below meth c D jClasses A nL cells slots Q (cw ad cI cA σ F) lv pc (.int v :: .ref (ad 8) :: st) := jv_put (ty := .int) (ci := 0) (fs := [.ref (ad 1), .ref (ad 6), .int (σ 8 2), .int (σ 8 3), .int (σ 8 4), .int (σ 8 5), .int (σ 8 6), .int (σ 8 7)]) (ws' := cw ad cI cA (up2 σ 8 3 v) F) B hts in_K ty_K tyok_K nm_K hown hK 8 rfl rfl 3 (by decide) (hts _ kw_74) (fun _ h => h) rfl (by decide +kernel) rfl rfl (Nat.le_of_ble_eq_true rfl) hd rfl kk
theorem fg_K_leap (B : jv_B p c cc) (hts : ∀ w ∈ wb, w.before args s = true) (hown : s.vm.findClass rn_K = some m.cls) (hK : va_K D jClasses (jTy cI cA cL) s) (hd : decode cc pc = .ok (.getfield 30, 3))
    (kk : jv_V p l e R s m args below meth c D jClasses A nL cells slots Q (cw ad cI cA σ F) lv (pc + 3) (.int (σ 8 4) :: st)) : jv_V p l e R s m args below meth c D jClasses A nL cells slots Q (cw ad cI cA σ F) lv pc (.ref (ad 8) :: st) := jv_get B hts in_K hown hK 8 rfl rfl 4 (by decide) (hts _ kw_75) (fun _ h => h) rfl hd kk
theorem fs_K_leap (B : jv_B p c cc) (hts : ∀ w ∈ wb, w.before args s = true) (hown : s.vm.findClass rn_K = some m.cls) (hK : va_K D jClasses (jTy cI cA cL) s) {v : Int32} (hd : decode cc pc = .ok (.putfield 30, 3))
    (kk : jv_V p l e R s m args below meth c D jClasses A nL cells slots Q (cw ad cI cA (up2 σ 8 4 v) F) lv (pc + 3) st) : jv_V p l e R s m args below meth c D jClasses A nL cells slots Q (cw ad cI cA σ F) lv pc (.int v :: .ref (ad 8) :: st) := jv_put (ty := .int) (ci := 0) (fs := [.ref (ad 1), .ref (ad 6), .int (σ 8 2), .int (σ 8 3), .int (σ 8 4), .int (σ 8 5), .int (σ 8 6), .int (σ 8 7)]) (ws' := cw ad cI cA (up2 σ 8 4 v) F) B hts in_K ty_K tyok_K nm_K hown hK 8 rfl rfl 4 (by decide) (hts _ kw_75) (fun _ h => h) rfl (by decide +kernel) rfl rfl (Nat.le_of_ble_eq_true rfl) hd rfl kk
theorem fg_K_round (B : jv_B p c cc) (hts : ∀ w ∈ wb, w.before args s = true) (hown : s.vm.findClass rn_K = some m.cls) (hK : va_K D jClasses (jTy cI cA cL) s) (hd : decode cc pc = .ok (.getfield 42, 3))
    (kk : jv_V p l e R s m args below meth c D jClasses A nL cells slots Q (cw ad cI cA σ F) lv (pc + 3) (.int (σ 8 5) :: st)) : jv_V p l e R s m args below meth c D jClasses A nL cells slots Q (cw ad cI cA σ F) lv pc (.ref (ad 8) :: st) := jv_get B hts in_K hown hK 8 rfl rfl 5 (by decide) (hts _ kw_76) (fun _ h => h) rfl hd kk
theorem fs_K_round (B : jv_B p c cc) (hts : ∀ w ∈ wb, w.before args s = true) (hown : s.vm.findClass rn_K = some m.cls) (hK : va_K D jClasses (jTy cI cA cL) s) {v : Int32} (hd : decode cc pc = .ok (.putfield 42, 3))
    (kk : jv_V p l e R s m args below meth c D jClasses A nL cells slots Q (cw ad cI cA (up2 σ 8 5 v) F) lv (pc + 3) st) : jv_V p l e R s m args below meth c D jClasses A nL cells slots Q (cw ad cI cA σ F) lv pc (.int v :: .ref (ad 8) :: st) := jv_put (ty := .int) (ci := 0) (fs := [.ref (ad 1), .ref (ad 6), .int (σ 8 2), .int (σ 8 3), .int (σ 8 4), .int (σ 8 5), .int (σ 8 6), .int (σ 8 7)]) (ws' := cw ad cI cA (up2 σ 8 5 v) F) B hts in_K ty_K tyok_K nm_K hown hK 8 rfl rfl 5 (by decide) (hts _ kw_76) (fun _ h => h) rfl (by decide +kernel) rfl rfl (Nat.le_of_ble_eq_true rfl) hd rfl kk
theorem fg_K_retryRounds (B : jv_B p c cc) (hts : ∀ w ∈ wb, w.before args s = true) (hown : s.vm.findClass rn_K = some m.cls) (hK : va_K D jClasses (jTy cI cA cL) s) (hd : decode cc pc = .ok (.getfield 23, 3))
    (kk : jv_V p l e R s m args below meth c D jClasses A nL cells slots Q (cw ad cI cA σ F) lv (pc + 3) (.int (σ 8 6) :: st)) : jv_V p l e R s m args below meth c D jClasses A nL cells slots Q (cw ad cI cA σ F) lv pc (.ref (ad 8) :: st) := jv_get B hts in_K hown hK 8 rfl rfl 6 (by decide) (hts _ kw_77) (fun _ h => h) rfl hd kk
theorem fs_K_retryRounds (B : jv_B p c cc) (hts : ∀ w ∈ wb, w.before args s = true) (hown : s.vm.findClass rn_K = some m.cls) (hK : va_K D jClasses (jTy cI cA cL) s) {v : Int32} (hd : decode cc pc = .ok (.putfield 23, 3))
    (kk : jv_V p l e R s m args below meth c D jClasses A nL cells slots Q (cw ad cI cA (up2 σ 8 6 v) F) lv (pc + 3) st) : jv_V p l e R s m args below meth c D jClasses A nL cells slots Q (cw ad cI cA σ F) lv pc (.int v :: .ref (ad 8) :: st) := jv_put (ty := .int) (ci := 0) (fs := [.ref (ad 1), .ref (ad 6), .int (σ 8 2), .int (σ 8 3), .int (σ 8 4), .int (σ 8 5), .int (σ 8 6), .int (σ 8 7)]) (ws' := cw ad cI cA (up2 σ 8 6 v) F) B hts in_K ty_K tyok_K nm_K hown hK 8 rfl rfl 6 (by decide) (hts _ kw_77) (fun _ h => h) rfl (by decide +kernel) rfl rfl (Nat.le_of_ble_eq_true rfl) hd rfl kk
theorem fg_K_trimsLast (B : jv_B p c cc) (hts : ∀ w ∈ wb, w.before args s = true) (hown : s.vm.findClass rn_K = some m.cls) (hK : va_K D jClasses (jTy cI cA cL) s) (hd : decode cc pc = .ok (.getfield 45, 3))
    (kk : jv_V p l e R s m args below meth c D jClasses A nL cells slots Q (cw ad cI cA σ F) lv (pc + 3) (.int (σ 8 7) :: st)) : jv_V p l e R s m args below meth c D jClasses A nL cells slots Q (cw ad cI cA σ F) lv pc (.ref (ad 8) :: st) := jv_get B hts in_K hown hK 8 rfl rfl 7 (by decide) (hts _ kw_78) (fun _ h => h) rfl hd kk
theorem fs_K_trimsLast (B : jv_B p c cc) (hts : ∀ w ∈ wb, w.before args s = true) (hown : s.vm.findClass rn_K = some m.cls) (hK : va_K D jClasses (jTy cI cA cL) s) {v : Int32} (hz : v = 0 ∨ v = 1) (hd : decode cc pc = .ok (.putfield 45, 3))
    (kk : jv_V p l e R s m args below meth c D jClasses A nL cells slots Q (cw ad cI cA (up2 σ 8 7 v) F) lv (pc + 3) st) : jv_V p l e R s m args below meth c D jClasses A nL cells slots Q (cw ad cI cA σ F) lv pc (.int v :: .ref (ad 8) :: st) := jv_put (ty := .boolean) (ci := 0) (fs := [.ref (ad 1), .ref (ad 6), .int (σ 8 2), .int (σ 8 3), .int (σ 8 4), .int (σ 8 5), .int (σ 8 6), .int (σ 8 7)]) (ws' := cw ad cI cA (up2 σ 8 7 v) F) B hts in_K ty_K tyok_K nm_K hown hK 8 rfl rfl 7 (by decide) (hts _ kw_78) (fun _ h => h) rfl (by decide +kernel) (by rcases hz with rfl | rfl <;> rfl) (by rcases hz with rfl | rfl <;> rfl) (Nat.le_of_ble_eq_true rfl) hd rfl kk
theorem in_D : ∀ w ∈ u_ws rn_D tf_D 7, w ∈ wb := by
  intro w hw
  obtain ⟨j, hj, rfl⟩ := List.mem_map.mp hw
  have hj := List.mem_range.mp hj
  match j, hj with
  | 0, _ => exact kw_36
  | 1, _ => exact kw_38
  | 2, _ => exact kw_40
  | 3, _ => exact kw_42
  | 4, _ => exact kw_44
  | 5, _ => exact kw_46
  | 6, _ => exact kw_48
  | j + 7, hj => omega
theorem fg_D_words (B : jv_B p c cc) (hts : ∀ w ∈ wb, w.before args s = true) (hown : s.vm.findClass rn_D = some m.cls) (hK : va_K D jClasses (jTy cI cA cL) s) (hd : decode cc pc = .ok (.getfield 9, 3))
    (kk : jv_V p l e R s m args below meth c D jClasses A nL cells slots Q (cw ad cI cA σ F) lv (pc + 3) (.ref (ad 2) :: st)) : jv_V p l e R s m args below meth c D jClasses A nL cells slots Q (cw ad cI cA σ F) lv pc (.ref (ad 1) :: st) := jv_get B hts in_D hown hK 1 rfl rfl 0 (by decide) (hts _ kw_29) (fun _ h => h) rfl hd kk
theorem fg_D_failuresLeft (B : jv_B p c cc) (hts : ∀ w ∈ wb, w.before args s = true) (hown : s.vm.findClass rn_D = some m.cls) (hK : va_K D jClasses (jTy cI cA cL) s) (hd : decode cc pc = .ok (.getfield 15, 3))
    (kk : jv_V p l e R s m args below meth c D jClasses A nL cells slots Q (cw ad cI cA σ F) lv (pc + 3) (.ref (ad 3) :: st)) : jv_V p l e R s m args below meth c D jClasses A nL cells slots Q (cw ad cI cA σ F) lv pc (.ref (ad 1) :: st) := jv_get B hts in_D hown hK 1 rfl rfl 1 (by decide) (hts _ kw_30) (fun _ h => h) rfl hd kk
theorem fg_D_readCounts (B : jv_B p c cc) (hts : ∀ w ∈ wb, w.before args s = true) (hown : s.vm.findClass rn_D = some m.cls) (hK : va_K D jClasses (jTy cI cA cL) s) (hd : decode cc pc = .ok (.getfield 18, 3))
    (kk : jv_V p l e R s m args below meth c D jClasses A nL cells slots Q (cw ad cI cA σ F) lv (pc + 3) (.ref (ad 4) :: st)) : jv_V p l e R s m args below meth c D jClasses A nL cells slots Q (cw ad cI cA σ F) lv pc (.ref (ad 1) :: st) := jv_get B hts in_D hown hK 1 rfl rfl 2 (by decide) (hts _ kw_31) (fun _ h => h) rfl hd kk
theorem fg_D_target (B : jv_B p c cc) (hts : ∀ w ∈ wb, w.before args s = true) (hown : s.vm.findClass rn_D = some m.cls) (hK : va_K D jClasses (jTy cI cA cL) s) (hd : decode cc pc = .ok (.getfield 21, 3))
    (kk : jv_V p l e R s m args below meth c D jClasses A nL cells slots Q (cw ad cI cA σ F) lv (pc + 3) (.ref (ad 5) :: st)) : jv_V p l e R s m args below meth c D jClasses A nL cells slots Q (cw ad cI cA σ F) lv pc (.ref (ad 1) :: st) := jv_get B hts in_D hown hK 1 rfl rfl 3 (by decide) (hts _ kw_32) (fun _ h => h) rfl hd kk
theorem fg_D_sectors (B : jv_B p c cc) (hts : ∀ w ∈ wb, w.before args s = true) (hown : s.vm.findClass rn_D = some m.cls) (hK : va_K D jClasses (jTy cI cA cL) s) (hd : decode cc pc = .ok (.getfield 24, 3))
    (kk : jv_V p l e R s m args below meth c D jClasses A nL cells slots Q (cw ad cI cA σ F) lv (pc + 3) (.int (σ 1 4) :: st)) : jv_V p l e R s m args below meth c D jClasses A nL cells slots Q (cw ad cI cA σ F) lv pc (.ref (ad 1) :: st) := jv_get B hts in_D hown hK 1 rfl rfl 4 (by decide) (hts _ kw_33) (fun _ h => h) rfl hd kk
theorem fs_D_sectors (B : jv_B p c cc) (hts : ∀ w ∈ wb, w.before args s = true) (hown : s.vm.findClass rn_D = some m.cls) (hK : va_K D jClasses (jTy cI cA cL) s) {v : Int32} (hd : decode cc pc = .ok (.putfield 24, 3))
    (kk : jv_V p l e R s m args below meth c D jClasses A nL cells slots Q (cw ad cI cA (up2 σ 1 4 v) F) lv (pc + 3) st) : jv_V p l e R s m args below meth c D jClasses A nL cells slots Q (cw ad cI cA σ F) lv pc (.int v :: .ref (ad 1) :: st) := jv_put (ty := .int) (ci := 1) (fs := [.ref (ad 2), .ref (ad 3), .ref (ad 4), .ref (ad 5), .int (σ 1 4), .int (σ 1 5), .int (σ 1 6)]) (ws' := cw ad cI cA (up2 σ 1 4 v) F) B hts in_D ty_D tyok_D nm_D hown hK 1 rfl rfl 4 (by decide) (hts _ kw_33) (fun _ h => h) rfl (by decide +kernel) rfl rfl (Nat.le_of_ble_eq_true rfl) hd rfl kk
theorem fg_D_stretches (B : jv_B p c cc) (hts : ∀ w ∈ wb, w.before args s = true) (hown : s.vm.findClass rn_D = some m.cls) (hK : va_K D jClasses (jTy cI cA cL) s) (hd : decode cc pc = .ok (.getfield 28, 3))
    (kk : jv_V p l e R s m args below meth c D jClasses A nL cells slots Q (cw ad cI cA σ F) lv (pc + 3) (.int (σ 1 5) :: st)) : jv_V p l e R s m args below meth c D jClasses A nL cells slots Q (cw ad cI cA σ F) lv pc (.ref (ad 1) :: st) := jv_get B hts in_D hown hK 1 rfl rfl 5 (by decide) (hts _ kw_34) (fun _ h => h) rfl hd kk
theorem fs_D_stretches (B : jv_B p c cc) (hts : ∀ w ∈ wb, w.before args s = true) (hown : s.vm.findClass rn_D = some m.cls) (hK : va_K D jClasses (jTy cI cA cL) s) {v : Int32} (hd : decode cc pc = .ok (.putfield 28, 3))
    (kk : jv_V p l e R s m args below meth c D jClasses A nL cells slots Q (cw ad cI cA (up2 σ 1 5 v) F) lv (pc + 3) st) : jv_V p l e R s m args below meth c D jClasses A nL cells slots Q (cw ad cI cA σ F) lv pc (.int v :: .ref (ad 1) :: st) := jv_put (ty := .int) (ci := 1) (fs := [.ref (ad 2), .ref (ad 3), .ref (ad 4), .ref (ad 5), .int (σ 1 4), .int (σ 1 5), .int (σ 1 6)]) (ws' := cw ad cI cA (up2 σ 1 5 v) F) B hts in_D ty_D tyok_D nm_D hown hK 1 rfl rfl 5 (by decide) (hts _ kw_34) (fun _ h => h) rfl (by decide +kernel) rfl rfl (Nat.le_of_ble_eq_true rfl) hd rfl kk
theorem fg_D_failedStretches (B : jv_B p c cc) (hts : ∀ w ∈ wb, w.before args s = true) (hown : s.vm.findClass rn_D = some m.cls) (hK : va_K D jClasses (jTy cI cA cL) s) (hd : decode cc pc = .ok (.getfield 31, 3))
    (kk : jv_V p l e R s m args below meth c D jClasses A nL cells slots Q (cw ad cI cA σ F) lv (pc + 3) (.int (σ 1 6) :: st)) : jv_V p l e R s m args below meth c D jClasses A nL cells slots Q (cw ad cI cA σ F) lv pc (.ref (ad 1) :: st) := jv_get B hts in_D hown hK 1 rfl rfl 6 (by decide) (hts _ kw_35) (fun _ h => h) rfl hd kk
theorem fs_D_failedStretches (B : jv_B p c cc) (hts : ∀ w ∈ wb, w.before args s = true) (hown : s.vm.findClass rn_D = some m.cls) (hK : va_K D jClasses (jTy cI cA cL) s) {v : Int32} (hd : decode cc pc = .ok (.putfield 31, 3))
    (kk : jv_V p l e R s m args below meth c D jClasses A nL cells slots Q (cw ad cI cA (up2 σ 1 6 v) F) lv (pc + 3) st) : jv_V p l e R s m args below meth c D jClasses A nL cells slots Q (cw ad cI cA σ F) lv pc (.int v :: .ref (ad 1) :: st) := jv_put (ty := .int) (ci := 1) (fs := [.ref (ad 2), .ref (ad 3), .ref (ad 4), .ref (ad 5), .int (σ 1 4), .int (σ 1 5), .int (σ 1 6)]) (ws' := cw ad cI cA (up2 σ 1 6 v) F) B hts in_D ty_D tyok_D nm_D hown hK 1 rfl rfl 6 (by decide) (hts _ kw_35) (fun _ h => h) rfl (by decide +kernel) rfl rfl (Nat.le_of_ble_eq_true rfl) hd rfl kk
theorem in_V : ∀ w ∈ u_ws rn_V tf_V 3, w ∈ wb := by
  intro w hw
  obtain ⟨j, hj, rfl⟩ := List.mem_map.mp hw
  have hj := List.mem_range.mp hj
  match j, hj with
  | 0, _ => exact kw_107
  | 1, _ => exact kw_109
  | 2, _ => exact kw_111
  | j + 3, hj => omega
theorem fg_V_slots (B : jv_B p c cc) (hts : ∀ w ∈ wb, w.before args s = true) (hown : s.vm.findClass rn_V = some m.cls) (hK : va_K D jClasses (jTy cI cA cL) s) (hd : decode cc pc = .ok (.getfield 11, 3))
    (kk : jv_V p l e R s m args below meth c D jClasses A nL cells slots Q (cw ad cI cA σ F) lv (pc + 3) (.ref (ad 10) :: st)) : jv_V p l e R s m args below meth c D jClasses A nL cells slots Q (cw ad cI cA σ F) lv pc (.ref (ad 9) :: st) := jv_get B hts in_V hown hK 9 rfl rfl 0 (by decide) (hts _ kw_104) (fun _ h => h) rfl hd kk
theorem fg_V_drawn (B : jv_B p c cc) (hts : ∀ w ∈ wb, w.before args s = true) (hown : s.vm.findClass rn_V = some m.cls) (hK : va_K D jClasses (jTy cI cA cL) s) (hd : decode cc pc = .ok (.getfield 16, 3))
    (kk : jv_V p l e R s m args below meth c D jClasses A nL cells slots Q (cw ad cI cA σ F) lv (pc + 3) (.ref (ad 13) :: st)) : jv_V p l e R s m args below meth c D jClasses A nL cells slots Q (cw ad cI cA σ F) lv pc (.ref (ad 9) :: st) := jv_get B hts in_V hown hK 9 rfl rfl 1 (by decide) (hts _ kw_105) (fun _ h => h) rfl hd kk
theorem fg_V_lastNumber (B : jv_B p c cc) (hts : ∀ w ∈ wb, w.before args s = true) (hown : s.vm.findClass rn_V = some m.cls) (hK : va_K D jClasses (jTy cI cA cL) s) (hd : decode cc pc = .ok (.getfield 20, 3))
    (kk : jv_V p l e R s m args below meth c D jClasses A nL cells slots Q (cw ad cI cA σ F) lv (pc + 3) (.int (σ 9 2) :: st)) : jv_V p l e R s m args below meth c D jClasses A nL cells slots Q (cw ad cI cA σ F) lv pc (.ref (ad 9) :: st) := jv_get B hts in_V hown hK 9 rfl rfl 2 (by decide) (hts _ kw_106) (fun _ h => h) rfl hd kk
theorem fs_V_lastNumber (B : jv_B p c cc) (hts : ∀ w ∈ wb, w.before args s = true) (hown : s.vm.findClass rn_V = some m.cls) (hK : va_K D jClasses (jTy cI cA cL) s) {v : Int32} (hd : decode cc pc = .ok (.putfield 20, 3))
    (kk : jv_V p l e R s m args below meth c D jClasses A nL cells slots Q (cw ad cI cA (up2 σ 9 2 v) F) lv (pc + 3) st) : jv_V p l e R s m args below meth c D jClasses A nL cells slots Q (cw ad cI cA σ F) lv pc (.int v :: .ref (ad 9) :: st) := jv_put (ty := .int) (ci := 2) (fs := [.ref (ad 10), .ref (ad 13), .int (σ 9 2)]) (ws' := cw ad cI cA (up2 σ 9 2 v) F) B hts in_V ty_V tyok_V nm_V hown hK 9 rfl rfl 2 (by decide) (hts _ kw_106) (fun _ h => h) rfl (by decide +kernel) rfl rfl (Nat.le_of_ble_eq_true rfl) hd rfl kk
theorem in_S : ∀ w ∈ u_ws rn_S tf_S 2, w ∈ wb := by
  intro w hw
  obtain ⟨j, hj, rfl⟩ := List.mem_map.mp hw
  have hj := List.mem_range.mp hj
  match j, hj with
  | 0, _ => exact kw_60
  | 1, _ => exact kw_62
  | j + 2, hj => omega
theorem fg_S_states (B : jv_B p c cc) (hts : ∀ w ∈ wb, w.before args s = true) (hown : s.vm.findClass rn_S = some m.cls) (hK : va_K D jClasses (jTy cI cA cL) s) (hd : decode cc pc = .ok (.getfield 9, 3))
    (kk : jv_V p l e R s m args below meth c D jClasses A nL cells slots Q (cw ad cI cA σ F) lv (pc + 3) (.ref (ad 7) :: st)) : jv_V p l e R s m args below meth c D jClasses A nL cells slots Q (cw ad cI cA σ F) lv pc (.ref (ad 6) :: st) := jv_get B hts in_S hown hK 6 rfl rfl 0 (by decide) (hts _ kw_58) (fun _ h => h) rfl hd kk
theorem fg_S_sectors (B : jv_B p c cc) (hts : ∀ w ∈ wb, w.before args s = true) (hown : s.vm.findClass rn_S = some m.cls) (hK : va_K D jClasses (jTy cI cA cL) s) (hd : decode cc pc = .ok (.getfield 24, 3))
    (kk : jv_V p l e R s m args below meth c D jClasses A nL cells slots Q (cw ad cI cA σ F) lv (pc + 3) (.int (σ 6 1) :: st)) : jv_V p l e R s m args below meth c D jClasses A nL cells slots Q (cw ad cI cA σ F) lv pc (.ref (ad 6) :: st) := jv_get B hts in_S hown hK 6 rfl rfl 1 (by decide) (hts _ kw_59) (fun _ h => h) rfl hd kk
theorem fs_S_sectors (B : jv_B p c cc) (hts : ∀ w ∈ wb, w.before args s = true) (hown : s.vm.findClass rn_S = some m.cls) (hK : va_K D jClasses (jTy cI cA cL) s) {v : Int32} (hd : decode cc pc = .ok (.putfield 24, 3))
    (kk : jv_V p l e R s m args below meth c D jClasses A nL cells slots Q (cw ad cI cA (up2 σ 6 1 v) F) lv (pc + 3) st) : jv_V p l e R s m args below meth c D jClasses A nL cells slots Q (cw ad cI cA σ F) lv pc (.int v :: .ref (ad 6) :: st) := jv_put (ty := .int) (ci := 3) (fs := [.ref (ad 7), .int (σ 6 1)]) (ws' := cw ad cI cA (up2 σ 6 1 v) F) B hts in_S ty_S tyok_S nm_S hown hK 6 rfl rfl 1 (by decide) (hts _ kw_59) (fun _ h => h) rfl (by decide +kernel) rfl rfl (Nat.le_of_ble_eq_true rfl) hd rfl kk
theorem in_R : ∀ w ∈ u_ws rn_R tf_R 4, w ∈ wb := by
  intro w hw
  obtain ⟨j, hj, rfl⟩ := List.mem_map.mp hw
  have hj := List.mem_range.mp hj
  match j, hj with
  | 0, _ => exact kw_118
  | 1, _ => exact kw_120
  | 2, _ => exact kw_122
  | 3, _ => exact kw_124
  | j + 4, hj => omega
theorem fg_R_disk (B : jv_B p c cc) (hts : ∀ w ∈ wb, w.before args s = true) (hown : s.vm.findClass rn_R = some m.cls) (hK : va_K D jClasses (jTy cI cA cL) s) (hd : decode cc pc = .ok (.getfield 10, 3))
    (kk : jv_V p l e R s m args below meth c D jClasses A nL cells slots Q (cw ad cI cA σ F) lv (pc + 3) (.ref (ad 1) :: st)) : jv_V p l e R s m args below meth c D jClasses A nL cells slots Q (cw ad cI cA σ F) lv pc (.ref (ad 0) :: st) := jv_get B hts in_R hown hK 0 rfl rfl 0 (by decide) (hts _ kw_114) (fun _ h => h) rfl hd kk
theorem fg_R_map (B : jv_B p c cc) (hts : ∀ w ∈ wb, w.before args s = true) (hown : s.vm.findClass rn_R = some m.cls) (hK : va_K D jClasses (jTy cI cA cL) s) (hd : decode cc pc = .ok (.getfield 19, 3))
    (kk : jv_V p l e R s m args below meth c D jClasses A nL cells slots Q (cw ad cI cA σ F) lv (pc + 3) (.ref (ad 6) :: st)) : jv_V p l e R s m args below meth c D jClasses A nL cells slots Q (cw ad cI cA σ F) lv pc (.ref (ad 0) :: st) := jv_get B hts in_R hown hK 0 rfl rfl 1 (by decide) (hts _ kw_115) (fun _ h => h) rfl hd kk
theorem fg_R_copier (B : jv_B p c cc) (hts : ∀ w ∈ wb, w.before args s = true) (hown : s.vm.findClass rn_R = some m.cls) (hK : va_K D jClasses (jTy cI cA cL) s) (hd : decode cc pc = .ok (.getfield 28, 3))
    (kk : jv_V p l e R s m args below meth c D jClasses A nL cells slots Q (cw ad cI cA σ F) lv (pc + 3) (.ref (ad 8) :: st)) : jv_V p l e R s m args below meth c D jClasses A nL cells slots Q (cw ad cI cA σ F) lv pc (.ref (ad 0) :: st) := jv_get B hts in_R hown hK 0 rfl rfl 2 (by decide) (hts _ kw_116) (fun _ h => h) rfl hd kk
theorem fg_R_saves (B : jv_B p c cc) (hts : ∀ w ∈ wb, w.before args s = true) (hown : s.vm.findClass rn_R = some m.cls) (hK : va_K D jClasses (jTy cI cA cL) s) (hd : decode cc pc = .ok (.getfield 35, 3))
    (kk : jv_V p l e R s m args below meth c D jClasses A nL cells slots Q (cw ad cI cA σ F) lv (pc + 3) (.ref (ad 9) :: st)) : jv_V p l e R s m args below meth c D jClasses A nL cells slots Q (cw ad cI cA σ F) lv pc (.ref (ad 0) :: st) := jv_get B hts in_R hown hK 0 rfl rfl 3 (by decide) (hts _ kw_117) (fun _ h => h) rfl hd kk
theorem in_M : ∀ w ∈ u_ws rn_M tf_M 21, w ∈ wb := by
  intro w hw
  obtain ⟨j, hj, rfl⟩ := List.mem_map.mp hw
  have hj := List.mem_range.mp hj
  match j, hj with
  | 0, _ => exact kw_587
  | 1, _ => exact kw_589
  | 2, _ => exact kw_591
  | 3, _ => exact kw_593
  | 4, _ => exact kw_595
  | 5, _ => exact kw_597
  | 6, _ => exact kw_599
  | 7, _ => exact kw_601
  | 8, _ => exact kw_603
  | 9, _ => exact kw_605
  | 10, _ => exact kw_607
  | 11, _ => exact kw_609
  | 12, _ => exact kw_611
  | 13, _ => exact kw_613
  | 14, _ => exact kw_615
  | 15, _ => exact kw_617
  | 16, _ => exact kw_619
  | 17, _ => exact kw_621
  | 18, _ => exact kw_623
  | 19, _ => exact kw_625
  | 20, _ => exact kw_627
  | j + 21, hj => omega
theorem fg_M_code (B : jv_B p c cc) (hts : ∀ w ∈ wb, w.before args s = true) (hown : s.vm.findClass rn_M = some m.cls) (hK : va_K D jClasses (jTy cI cA cL) s) (hd : decode cc pc = .ok (.getfield 35, 3))
    (kk : jv_V p l e R s m args below meth c D jClasses A nL cells slots Q (mw ad cI cA σ F) lv (pc + 3) (.int (σ 0 0) :: st)) : jv_V p l e R s m args below meth c D jClasses A nL cells slots Q (mw ad cI cA σ F) lv pc (.ref (ad 0) :: st) := jv_get B hts in_M hown hK 0 rfl rfl 0 (by decide) (hts _ kw_566) (fun _ h => h) rfl hd kk
theorem fs_M_code (B : jv_B p c cc) (hts : ∀ w ∈ wb, w.before args s = true) (hown : s.vm.findClass rn_M = some m.cls) (hK : va_K D jClasses (jTy cI cA cL) s) {v : Int32} (hd : decode cc pc = .ok (.putfield 35, 3))
    (kk : jv_V p l e R s m args below meth c D jClasses A nL cells slots Q (mw ad cI cA (up2 σ 0 0 v) F) lv (pc + 3) st) : jv_V p l e R s m args below meth c D jClasses A nL cells slots Q (mw ad cI cA σ F) lv pc (.int v :: .ref (ad 0) :: st) := jv_put (ty := .int) (ci := 5) (fs := [.int (σ 0 0), .int (σ 0 1), .ref (ad 1), .ref (ad 2), .ref (ad 3), .ref (ad 4), .int (σ 0 6), .int (σ 0 7), .int (σ 0 8), .int (σ 0 9), .ref (ad 5), .int (σ 0 11), .int (σ 0 12), .int (σ 0 13), .int (σ 0 14), .int (σ 0 15), .int (σ 0 16), .int (σ 0 17), .ref (ad 6), .ref (ad 7), .int (σ 0 20)]) (ws' := mw ad cI cA (up2 σ 0 0 v) F) B hts in_M ty_M tyok_M nm_M hown hK 0 rfl rfl 0 (by decide) (hts _ kw_566) (fun _ h => h) rfl (by decide +kernel) rfl rfl (Nat.le_of_ble_eq_true rfl) hd rfl kk
theorem fg_M_sectors (B : jv_B p c cc) (hts : ∀ w ∈ wb, w.before args s = true) (hown : s.vm.findClass rn_M = some m.cls) (hK : va_K D jClasses (jTy cI cA cL) s) (hd : decode cc pc = .ok (.getfield 38, 3))
    (kk : jv_V p l e R s m args below meth c D jClasses A nL cells slots Q (mw ad cI cA σ F) lv (pc + 3) (.int (σ 0 1) :: st)) : jv_V p l e R s m args below meth c D jClasses A nL cells slots Q (mw ad cI cA σ F) lv pc (.ref (ad 0) :: st) := jv_get B hts in_M hown hK 0 rfl rfl 1 (by decide) (hts _ kw_567) (fun _ h => h) rfl hd kk
theorem fs_M_sectors (B : jv_B p c cc) (hts : ∀ w ∈ wb, w.before args s = true) (hown : s.vm.findClass rn_M = some m.cls) (hK : va_K D jClasses (jTy cI cA cL) s) {v : Int32} (hd : decode cc pc = .ok (.putfield 38, 3))
    (kk : jv_V p l e R s m args below meth c D jClasses A nL cells slots Q (mw ad cI cA (up2 σ 0 1 v) F) lv (pc + 3) st) : jv_V p l e R s m args below meth c D jClasses A nL cells slots Q (mw ad cI cA σ F) lv pc (.int v :: .ref (ad 0) :: st) := jv_put (ty := .int) (ci := 5) (fs := [.int (σ 0 0), .int (σ 0 1), .ref (ad 1), .ref (ad 2), .ref (ad 3), .ref (ad 4), .int (σ 0 6), .int (σ 0 7), .int (σ 0 8), .int (σ 0 9), .ref (ad 5), .int (σ 0 11), .int (σ 0 12), .int (σ 0 13), .int (σ 0 14), .int (σ 0 15), .int (σ 0 16), .int (σ 0 17), .ref (ad 6), .ref (ad 7), .int (σ 0 20)]) (ws' := mw ad cI cA (up2 σ 0 1 v) F) B hts in_M ty_M tyok_M nm_M hown hK 0 rfl rfl 1 (by decide) (hts _ kw_567) (fun _ h => h) rfl (by decide +kernel) rfl rfl (Nat.le_of_ble_eq_true rfl) hd rfl kk
theorem fg_M_words (B : jv_B p c cc) (hts : ∀ w ∈ wb, w.before args s = true) (hown : s.vm.findClass rn_M = some m.cls) (hK : va_K D jClasses (jTy cI cA cL) s) (hd : decode cc pc = .ok (.getfield 7, 3))
    (kk : jv_V p l e R s m args below meth c D jClasses A nL cells slots Q (mw ad cI cA σ F) lv (pc + 3) (.ref (ad 1) :: st)) : jv_V p l e R s m args below meth c D jClasses A nL cells slots Q (mw ad cI cA σ F) lv pc (.ref (ad 0) :: st) := jv_get B hts in_M hown hK 0 rfl rfl 2 (by decide) (hts _ kw_568) (fun _ h => h) rfl hd kk
theorem fg_M_failures (B : jv_B p c cc) (hts : ∀ w ∈ wb, w.before args s = true) (hown : s.vm.findClass rn_M = some m.cls) (hK : va_K D jClasses (jTy cI cA cL) s) (hd : decode cc pc = .ok (.getfield 13, 3))
    (kk : jv_V p l e R s m args below meth c D jClasses A nL cells slots Q (mw ad cI cA σ F) lv (pc + 3) (.ref (ad 2) :: st)) : jv_V p l e R s m args below meth c D jClasses A nL cells slots Q (mw ad cI cA σ F) lv pc (.ref (ad 0) :: st) := jv_get B hts in_M hown hK 0 rfl rfl 3 (by decide) (hts _ kw_569) (fun _ h => h) rfl hd kk
theorem fg_M_reads (B : jv_B p c cc) (hts : ∀ w ∈ wb, w.before args s = true) (hown : s.vm.findClass rn_M = some m.cls) (hK : va_K D jClasses (jTy cI cA cL) s) (hd : decode cc pc = .ok (.getfield 16, 3))
    (kk : jv_V p l e R s m args below meth c D jClasses A nL cells slots Q (mw ad cI cA σ F) lv (pc + 3) (.ref (ad 3) :: st)) : jv_V p l e R s m args below meth c D jClasses A nL cells slots Q (mw ad cI cA σ F) lv pc (.ref (ad 0) :: st) := jv_get B hts in_M hown hK 0 rfl rfl 4 (by decide) (hts _ kw_570) (fun _ h => h) rfl hd kk
theorem fg_M_target (B : jv_B p c cc) (hts : ∀ w ∈ wb, w.before args s = true) (hown : s.vm.findClass rn_M = some m.cls) (hK : va_K D jClasses (jTy cI cA cL) s) (hd : decode cc pc = .ok (.getfield 19, 3))
    (kk : jv_V p l e R s m args below meth c D jClasses A nL cells slots Q (mw ad cI cA σ F) lv (pc + 3) (.ref (ad 4) :: st)) : jv_V p l e R s m args below meth c D jClasses A nL cells slots Q (mw ad cI cA σ F) lv pc (.ref (ad 0) :: st) := jv_get B hts in_M hown hK 0 rfl rfl 5 (by decide) (hts _ kw_571) (fun _ h => h) rfl hd kk
theorem fg_M_made (B : jv_B p c cc) (hts : ∀ w ∈ wb, w.before args s = true) (hown : s.vm.findClass rn_M = some m.cls) (hK : va_K D jClasses (jTy cI cA cL) s) (hd : decode cc pc = .ok (.getfield 41, 3))
    (kk : jv_V p l e R s m args below meth c D jClasses A nL cells slots Q (mw ad cI cA σ F) lv (pc + 3) (.int (σ 0 6) :: st)) : jv_V p l e R s m args below meth c D jClasses A nL cells slots Q (mw ad cI cA σ F) lv pc (.ref (ad 0) :: st) := jv_get B hts in_M hown hK 0 rfl rfl 6 (by decide) (hts _ kw_572) (fun _ h => h) rfl hd kk
theorem fs_M_made (B : jv_B p c cc) (hts : ∀ w ∈ wb, w.before args s = true) (hown : s.vm.findClass rn_M = some m.cls) (hK : va_K D jClasses (jTy cI cA cL) s) {v : Int32} (hd : decode cc pc = .ok (.putfield 41, 3))
    (kk : jv_V p l e R s m args below meth c D jClasses A nL cells slots Q (mw ad cI cA (up2 σ 0 6 v) F) lv (pc + 3) st) : jv_V p l e R s m args below meth c D jClasses A nL cells slots Q (mw ad cI cA σ F) lv pc (.int v :: .ref (ad 0) :: st) := jv_put (ty := .int) (ci := 5) (fs := [.int (σ 0 0), .int (σ 0 1), .ref (ad 1), .ref (ad 2), .ref (ad 3), .ref (ad 4), .int (σ 0 6), .int (σ 0 7), .int (σ 0 8), .int (σ 0 9), .ref (ad 5), .int (σ 0 11), .int (σ 0 12), .int (σ 0 13), .int (σ 0 14), .int (σ 0 15), .int (σ 0 16), .int (σ 0 17), .ref (ad 6), .ref (ad 7), .int (σ 0 20)]) (ws' := mw ad cI cA (up2 σ 0 6 v) F) B hts in_M ty_M tyok_M nm_M hown hK 0 rfl rfl 6 (by decide) (hts _ kw_572) (fun _ h => h) rfl (by decide +kernel) rfl rfl (Nat.le_of_ble_eq_true rfl) hd rfl kk
theorem fg_M_failed (B : jv_B p c cc) (hts : ∀ w ∈ wb, w.before args s = true) (hown : s.vm.findClass rn_M = some m.cls) (hK : va_K D jClasses (jTy cI cA cL) s) (hd : decode cc pc = .ok (.getfield 44, 3))
    (kk : jv_V p l e R s m args below meth c D jClasses A nL cells slots Q (mw ad cI cA σ F) lv (pc + 3) (.int (σ 0 7) :: st)) : jv_V p l e R s m args below meth c D jClasses A nL cells slots Q (mw ad cI cA σ F) lv pc (.ref (ad 0) :: st) := jv_get B hts in_M hown hK 0 rfl rfl 7 (by decide) (hts _ kw_573) (fun _ h => h) rfl hd kk
theorem fs_M_failed (B : jv_B p c cc) (hts : ∀ w ∈ wb, w.before args s = true) (hown : s.vm.findClass rn_M = some m.cls) (hK : va_K D jClasses (jTy cI cA cL) s) {v : Int32} (hd : decode cc pc = .ok (.putfield 44, 3))
    (kk : jv_V p l e R s m args below meth c D jClasses A nL cells slots Q (mw ad cI cA (up2 σ 0 7 v) F) lv (pc + 3) st) : jv_V p l e R s m args below meth c D jClasses A nL cells slots Q (mw ad cI cA σ F) lv pc (.int v :: .ref (ad 0) :: st) := jv_put (ty := .int) (ci := 5) (fs := [.int (σ 0 0), .int (σ 0 1), .ref (ad 1), .ref (ad 2), .ref (ad 3), .ref (ad 4), .int (σ 0 6), .int (σ 0 7), .int (σ 0 8), .int (σ 0 9), .ref (ad 5), .int (σ 0 11), .int (σ 0 12), .int (σ 0 13), .int (σ 0 14), .int (σ 0 15), .int (σ 0 16), .int (σ 0 17), .ref (ad 6), .ref (ad 7), .int (σ 0 20)]) (ws' := mw ad cI cA (up2 σ 0 7 v) F) B hts in_M ty_M tyok_M nm_M hown hK 0 rfl rfl 7 (by decide) (hts _ kw_573) (fun _ h => h) rfl (by decide +kernel) rfl rfl (Nat.le_of_ble_eq_true rfl) hd rfl kk
theorem fg_M_phase (B : jv_B p c cc) (hts : ∀ w ∈ wb, w.before args s = true) (hown : s.vm.findClass rn_M = some m.cls) (hK : va_K D jClasses (jTy cI cA cL) s) (hd : decode cc pc = .ok (.getfield 22, 3))
    (kk : jv_V p l e R s m args below meth c D jClasses A nL cells slots Q (mw ad cI cA σ F) lv (pc + 3) (.int (σ 0 8) :: st)) : jv_V p l e R s m args below meth c D jClasses A nL cells slots Q (mw ad cI cA σ F) lv pc (.ref (ad 0) :: st) := jv_get B hts in_M hown hK 0 rfl rfl 8 (by decide) (hts _ kw_574) (fun _ h => h) rfl hd kk
theorem fs_M_phase (B : jv_B p c cc) (hts : ∀ w ∈ wb, w.before args s = true) (hown : s.vm.findClass rn_M = some m.cls) (hK : va_K D jClasses (jTy cI cA cL) s) {v : Int32} (hd : decode cc pc = .ok (.putfield 22, 3))
    (kk : jv_V p l e R s m args below meth c D jClasses A nL cells slots Q (mw ad cI cA (up2 σ 0 8 v) F) lv (pc + 3) st) : jv_V p l e R s m args below meth c D jClasses A nL cells slots Q (mw ad cI cA σ F) lv pc (.int v :: .ref (ad 0) :: st) := jv_put (ty := .int) (ci := 5) (fs := [.int (σ 0 0), .int (σ 0 1), .ref (ad 1), .ref (ad 2), .ref (ad 3), .ref (ad 4), .int (σ 0 6), .int (σ 0 7), .int (σ 0 8), .int (σ 0 9), .ref (ad 5), .int (σ 0 11), .int (σ 0 12), .int (σ 0 13), .int (σ 0 14), .int (σ 0 15), .int (σ 0 16), .int (σ 0 17), .ref (ad 6), .ref (ad 7), .int (σ 0 20)]) (ws' := mw ad cI cA (up2 σ 0 8 v) F) B hts in_M ty_M tyok_M nm_M hown hK 0 rfl rfl 8 (by decide) (hts _ kw_574) (fun _ h => h) rfl (by decide +kernel) rfl rfl (Nat.le_of_ble_eq_true rfl) hd rfl kk
theorem fg_M_retries (B : jv_B p c cc) (hts : ∀ w ∈ wb, w.before args s = true) (hown : s.vm.findClass rn_M = some m.cls) (hK : va_K D jClasses (jTy cI cA cL) s) (hd : decode cc pc = .ok (.getfield 73, 3))
    (kk : jv_V p l e R s m args below meth c D jClasses A nL cells slots Q (mw ad cI cA σ F) lv (pc + 3) (.int (σ 0 9) :: st)) : jv_V p l e R s m args below meth c D jClasses A nL cells slots Q (mw ad cI cA σ F) lv pc (.ref (ad 0) :: st) := jv_get B hts in_M hown hK 0 rfl rfl 9 (by decide) (hts _ kw_575) (fun _ h => h) rfl hd kk
theorem fs_M_retries (B : jv_B p c cc) (hts : ∀ w ∈ wb, w.before args s = true) (hown : s.vm.findClass rn_M = some m.cls) (hK : va_K D jClasses (jTy cI cA cL) s) {v : Int32} (hd : decode cc pc = .ok (.putfield 73, 3))
    (kk : jv_V p l e R s m args below meth c D jClasses A nL cells slots Q (mw ad cI cA (up2 σ 0 9 v) F) lv (pc + 3) st) : jv_V p l e R s m args below meth c D jClasses A nL cells slots Q (mw ad cI cA σ F) lv pc (.int v :: .ref (ad 0) :: st) := jv_put (ty := .int) (ci := 5) (fs := [.int (σ 0 0), .int (σ 0 1), .ref (ad 1), .ref (ad 2), .ref (ad 3), .ref (ad 4), .int (σ 0 6), .int (σ 0 7), .int (σ 0 8), .int (σ 0 9), .ref (ad 5), .int (σ 0 11), .int (σ 0 12), .int (σ 0 13), .int (σ 0 14), .int (σ 0 15), .int (σ 0 16), .int (σ 0 17), .ref (ad 6), .ref (ad 7), .int (σ 0 20)]) (ws' := mw ad cI cA (up2 σ 0 9 v) F) B hts in_M ty_M tyok_M nm_M hown hK 0 rfl rfl 9 (by decide) (hts _ kw_575) (fun _ h => h) rfl (by decide +kernel) rfl rfl (Nat.le_of_ble_eq_true rfl) hd rfl kk
theorem fg_M_states (B : jv_B p c cc) (hts : ∀ w ∈ wb, w.before args s = true) (hown : s.vm.findClass rn_M = some m.cls) (hK : va_K D jClasses (jTy cI cA cL) s) (hd : decode cc pc = .ok (.getfield 26, 3))
    (kk : jv_V p l e R s m args below meth c D jClasses A nL cells slots Q (mw ad cI cA σ F) lv (pc + 3) (.ref (ad 5) :: st)) : jv_V p l e R s m args below meth c D jClasses A nL cells slots Q (mw ad cI cA σ F) lv pc (.ref (ad 0) :: st) := jv_get B hts in_M hown hK 0 rfl rfl 10 (by decide) (hts _ kw_576) (fun _ h => h) rfl hd kk
theorem fg_M_position (B : jv_B p c cc) (hts : ∀ w ∈ wb, w.before args s = true) (hown : s.vm.findClass rn_M = some m.cls) (hK : va_K D jClasses (jTy cI cA cL) s) (hd : decode cc pc = .ok (.getfield 60, 3))
    (kk : jv_V p l e R s m args below meth c D jClasses A nL cells slots Q (mw ad cI cA σ F) lv (pc + 3) (.int (σ 0 11) :: st)) : jv_V p l e R s m args below meth c D jClasses A nL cells slots Q (mw ad cI cA σ F) lv pc (.ref (ad 0) :: st) := jv_get B hts in_M hown hK 0 rfl rfl 11 (by decide) (hts _ kw_577) (fun _ h => h) rfl hd kk
theorem fs_M_position (B : jv_B p c cc) (hts : ∀ w ∈ wb, w.before args s = true) (hown : s.vm.findClass rn_M = some m.cls) (hK : va_K D jClasses (jTy cI cA cL) s) {v : Int32} (hd : decode cc pc = .ok (.putfield 60, 3))
    (kk : jv_V p l e R s m args below meth c D jClasses A nL cells slots Q (mw ad cI cA (up2 σ 0 11 v) F) lv (pc + 3) st) : jv_V p l e R s m args below meth c D jClasses A nL cells slots Q (mw ad cI cA σ F) lv pc (.int v :: .ref (ad 0) :: st) := jv_put (ty := .int) (ci := 5) (fs := [.int (σ 0 0), .int (σ 0 1), .ref (ad 1), .ref (ad 2), .ref (ad 3), .ref (ad 4), .int (σ 0 6), .int (σ 0 7), .int (σ 0 8), .int (σ 0 9), .ref (ad 5), .int (σ 0 11), .int (σ 0 12), .int (σ 0 13), .int (σ 0 14), .int (σ 0 15), .int (σ 0 16), .int (σ 0 17), .ref (ad 6), .ref (ad 7), .int (σ 0 20)]) (ws' := mw ad cI cA (up2 σ 0 11 v) F) B hts in_M ty_M tyok_M nm_M hown hK 0 rfl rfl 11 (by decide) (hts _ kw_577) (fun _ h => h) rfl (by decide +kernel) rfl rfl (Nat.le_of_ble_eq_true rfl) hd rfl kk
theorem fg_M_leap (B : jv_B p c cc) (hts : ∀ w ∈ wb, w.before args s = true) (hown : s.vm.findClass rn_M = some m.cls) (hK : va_K D jClasses (jTy cI cA cL) s) (hd : decode cc pc = .ok (.getfield 63, 3))
    (kk : jv_V p l e R s m args below meth c D jClasses A nL cells slots Q (mw ad cI cA σ F) lv (pc + 3) (.int (σ 0 12) :: st)) : jv_V p l e R s m args below meth c D jClasses A nL cells slots Q (mw ad cI cA σ F) lv pc (.ref (ad 0) :: st) := jv_get B hts in_M hown hK 0 rfl rfl 12 (by decide) (hts _ kw_578) (fun _ h => h) rfl hd kk
theorem fs_M_leap (B : jv_B p c cc) (hts : ∀ w ∈ wb, w.before args s = true) (hown : s.vm.findClass rn_M = some m.cls) (hK : va_K D jClasses (jTy cI cA cL) s) {v : Int32} (hd : decode cc pc = .ok (.putfield 63, 3))
    (kk : jv_V p l e R s m args below meth c D jClasses A nL cells slots Q (mw ad cI cA (up2 σ 0 12 v) F) lv (pc + 3) st) : jv_V p l e R s m args below meth c D jClasses A nL cells slots Q (mw ad cI cA σ F) lv pc (.int v :: .ref (ad 0) :: st) := jv_put (ty := .int) (ci := 5) (fs := [.int (σ 0 0), .int (σ 0 1), .ref (ad 1), .ref (ad 2), .ref (ad 3), .ref (ad 4), .int (σ 0 6), .int (σ 0 7), .int (σ 0 8), .int (σ 0 9), .ref (ad 5), .int (σ 0 11), .int (σ 0 12), .int (σ 0 13), .int (σ 0 14), .int (σ 0 15), .int (σ 0 16), .int (σ 0 17), .ref (ad 6), .ref (ad 7), .int (σ 0 20)]) (ws' := mw ad cI cA (up2 σ 0 12 v) F) B hts in_M ty_M tyok_M nm_M hown hK 0 rfl rfl 12 (by decide) (hts _ kw_578) (fun _ h => h) rfl (by decide +kernel) rfl rfl (Nat.le_of_ble_eq_true rfl) hd rfl kk
theorem fg_M_round (B : jv_B p c cc) (hts : ∀ w ∈ wb, w.before args s = true) (hown : s.vm.findClass rn_M = some m.cls) (hK : va_K D jClasses (jTy cI cA cL) s) (hd : decode cc pc = .ok (.getfield 66, 3))
    (kk : jv_V p l e R s m args below meth c D jClasses A nL cells slots Q (mw ad cI cA σ F) lv (pc + 3) (.int (σ 0 13) :: st)) : jv_V p l e R s m args below meth c D jClasses A nL cells slots Q (mw ad cI cA σ F) lv pc (.ref (ad 0) :: st) := jv_get B hts in_M hown hK 0 rfl rfl 13 (by decide) (hts _ kw_579) (fun _ h => h) rfl hd kk
theorem fs_M_round (B : jv_B p c cc) (hts : ∀ w ∈ wb, w.before args s = true) (hown : s.vm.findClass rn_M = some m.cls) (hK : va_K D jClasses (jTy cI cA cL) s) {v : Int32} (hd : decode cc pc = .ok (.putfield 66, 3))
    (kk : jv_V p l e R s m args below meth c D jClasses A nL cells slots Q (mw ad cI cA (up2 σ 0 13 v) F) lv (pc + 3) st) : jv_V p l e R s m args below meth c D jClasses A nL cells slots Q (mw ad cI cA σ F) lv pc (.int v :: .ref (ad 0) :: st) := jv_put (ty := .int) (ci := 5) (fs := [.int (σ 0 0), .int (σ 0 1), .ref (ad 1), .ref (ad 2), .ref (ad 3), .ref (ad 4), .int (σ 0 6), .int (σ 0 7), .int (σ 0 8), .int (σ 0 9), .ref (ad 5), .int (σ 0 11), .int (σ 0 12), .int (σ 0 13), .int (σ 0 14), .int (σ 0 15), .int (σ 0 16), .int (σ 0 17), .ref (ad 6), .ref (ad 7), .int (σ 0 20)]) (ws' := mw ad cI cA (up2 σ 0 13 v) F) B hts in_M ty_M tyok_M nm_M hown hK 0 rfl rfl 13 (by decide) (hts _ kw_579) (fun _ h => h) rfl (by decide +kernel) rfl rfl (Nat.le_of_ble_eq_true rfl) hd rfl kk
theorem fg_M_backwards (B : jv_B p c cc) (hts : ∀ w ∈ wb, w.before args s = true) (hown : s.vm.findClass rn_M = some m.cls) (hK : va_K D jClasses (jTy cI cA cL) s) (hd : decode cc pc = .ok (.getfield 69, 3))
    (kk : jv_V p l e R s m args below meth c D jClasses A nL cells slots Q (mw ad cI cA σ F) lv (pc + 3) (.int (σ 0 14) :: st)) : jv_V p l e R s m args below meth c D jClasses A nL cells slots Q (mw ad cI cA σ F) lv pc (.ref (ad 0) :: st) := jv_get B hts in_M hown hK 0 rfl rfl 14 (by decide) (hts _ kw_580) (fun _ h => h) rfl hd kk
theorem fs_M_backwards (B : jv_B p c cc) (hts : ∀ w ∈ wb, w.before args s = true) (hown : s.vm.findClass rn_M = some m.cls) (hK : va_K D jClasses (jTy cI cA cL) s) {v : Int32} (hz : v = 0 ∨ v = 1) (hd : decode cc pc = .ok (.putfield 69, 3))
    (kk : jv_V p l e R s m args below meth c D jClasses A nL cells slots Q (mw ad cI cA (up2 σ 0 14 v) F) lv (pc + 3) st) : jv_V p l e R s m args below meth c D jClasses A nL cells slots Q (mw ad cI cA σ F) lv pc (.int v :: .ref (ad 0) :: st) := jv_put (ty := .boolean) (ci := 5) (fs := [.int (σ 0 0), .int (σ 0 1), .ref (ad 1), .ref (ad 2), .ref (ad 3), .ref (ad 4), .int (σ 0 6), .int (σ 0 7), .int (σ 0 8), .int (σ 0 9), .ref (ad 5), .int (σ 0 11), .int (σ 0 12), .int (σ 0 13), .int (σ 0 14), .int (σ 0 15), .int (σ 0 16), .int (σ 0 17), .ref (ad 6), .ref (ad 7), .int (σ 0 20)]) (ws' := mw ad cI cA (up2 σ 0 14 v) F) B hts in_M ty_M tyok_M nm_M hown hK 0 rfl rfl 14 (by decide) (hts _ kw_580) (fun _ h => h) rfl (by decide +kernel) (by rcases hz with rfl | rfl <;> rfl) (by rcases hz with rfl | rfl <;> rfl) (Nat.le_of_ble_eq_true rfl) hd rfl kk
theorem fg_M_from (B : jv_B p c cc) (hts : ∀ w ∈ wb, w.before args s = true) (hown : s.vm.findClass rn_M = some m.cls) (hK : va_K D jClasses (jTy cI cA cL) s) (hd : decode cc pc = .ok (.getfield 54, 3))
    (kk : jv_V p l e R s m args below meth c D jClasses A nL cells slots Q (mw ad cI cA σ F) lv (pc + 3) (.int (σ 0 15) :: st)) : jv_V p l e R s m args below meth c D jClasses A nL cells slots Q (mw ad cI cA σ F) lv pc (.ref (ad 0) :: st) := jv_get B hts in_M hown hK 0 rfl rfl 15 (by decide) (hts _ kw_581) (fun _ h => h) rfl hd kk
theorem fs_M_from (B : jv_B p c cc) (hts : ∀ w ∈ wb, w.before args s = true) (hown : s.vm.findClass rn_M = some m.cls) (hK : va_K D jClasses (jTy cI cA cL) s) {v : Int32} (hd : decode cc pc = .ok (.putfield 54, 3))
    (kk : jv_V p l e R s m args below meth c D jClasses A nL cells slots Q (mw ad cI cA (up2 σ 0 15 v) F) lv (pc + 3) st) : jv_V p l e R s m args below meth c D jClasses A nL cells slots Q (mw ad cI cA σ F) lv pc (.int v :: .ref (ad 0) :: st) := jv_put (ty := .int) (ci := 5) (fs := [.int (σ 0 0), .int (σ 0 1), .ref (ad 1), .ref (ad 2), .ref (ad 3), .ref (ad 4), .int (σ 0 6), .int (σ 0 7), .int (σ 0 8), .int (σ 0 9), .ref (ad 5), .int (σ 0 11), .int (σ 0 12), .int (σ 0 13), .int (σ 0 14), .int (σ 0 15), .int (σ 0 16), .int (σ 0 17), .ref (ad 6), .ref (ad 7), .int (σ 0 20)]) (ws' := mw ad cI cA (up2 σ 0 15 v) F) B hts in_M ty_M tyok_M nm_M hown hK 0 rfl rfl 15 (by decide) (hts _ kw_581) (fun _ h => h) rfl (by decide +kernel) rfl rfl (Nat.le_of_ble_eq_true rfl) hd rfl kk
theorem fg_M_to (B : jv_B p c cc) (hts : ∀ w ∈ wb, w.before args s = true) (hown : s.vm.findClass rn_M = some m.cls) (hK : va_K D jClasses (jTy cI cA cL) s) (hd : decode cc pc = .ok (.getfield 57, 3))
    (kk : jv_V p l e R s m args below meth c D jClasses A nL cells slots Q (mw ad cI cA σ F) lv (pc + 3) (.int (σ 0 16) :: st)) : jv_V p l e R s m args below meth c D jClasses A nL cells slots Q (mw ad cI cA σ F) lv pc (.ref (ad 0) :: st) := jv_get B hts in_M hown hK 0 rfl rfl 16 (by decide) (hts _ kw_582) (fun _ h => h) rfl hd kk
theorem fs_M_to (B : jv_B p c cc) (hts : ∀ w ∈ wb, w.before args s = true) (hown : s.vm.findClass rn_M = some m.cls) (hK : va_K D jClasses (jTy cI cA cL) s) {v : Int32} (hd : decode cc pc = .ok (.putfield 57, 3))
    (kk : jv_V p l e R s m args below meth c D jClasses A nL cells slots Q (mw ad cI cA (up2 σ 0 16 v) F) lv (pc + 3) st) : jv_V p l e R s m args below meth c D jClasses A nL cells slots Q (mw ad cI cA σ F) lv pc (.int v :: .ref (ad 0) :: st) := jv_put (ty := .int) (ci := 5) (fs := [.int (σ 0 0), .int (σ 0 1), .ref (ad 1), .ref (ad 2), .ref (ad 3), .ref (ad 4), .int (σ 0 6), .int (σ 0 7), .int (σ 0 8), .int (σ 0 9), .ref (ad 5), .int (σ 0 11), .int (σ 0 12), .int (σ 0 13), .int (σ 0 14), .int (σ 0 15), .int (σ 0 16), .int (σ 0 17), .ref (ad 6), .ref (ad 7), .int (σ 0 20)]) (ws' := mw ad cI cA (up2 σ 0 16 v) F) B hts in_M ty_M tyok_M nm_M hown hK 0 rfl rfl 16 (by decide) (hts _ kw_582) (fun _ h => h) rfl (by decide +kernel) rfl rfl (Nat.le_of_ble_eq_true rfl) hd rfl kk
theorem fg_M_number (B : jv_B p c cc) (hts : ∀ w ∈ wb, w.before args s = true) (hown : s.vm.findClass rn_M = some m.cls) (hK : va_K D jClasses (jTy cI cA cL) s) (hd : decode cc pc = .ok (.getfield 47, 3))
    (kk : jv_V p l e R s m args below meth c D jClasses A nL cells slots Q (mw ad cI cA σ F) lv (pc + 3) (.int (σ 0 17) :: st)) : jv_V p l e R s m args below meth c D jClasses A nL cells slots Q (mw ad cI cA σ F) lv pc (.ref (ad 0) :: st) := jv_get B hts in_M hown hK 0 rfl rfl 17 (by decide) (hts _ kw_583) (fun _ h => h) rfl hd kk
theorem fs_M_number (B : jv_B p c cc) (hts : ∀ w ∈ wb, w.before args s = true) (hown : s.vm.findClass rn_M = some m.cls) (hK : va_K D jClasses (jTy cI cA cL) s) {v : Int32} (hd : decode cc pc = .ok (.putfield 47, 3))
    (kk : jv_V p l e R s m args below meth c D jClasses A nL cells slots Q (mw ad cI cA (up2 σ 0 17 v) F) lv (pc + 3) st) : jv_V p l e R s m args below meth c D jClasses A nL cells slots Q (mw ad cI cA σ F) lv pc (.int v :: .ref (ad 0) :: st) := jv_put (ty := .int) (ci := 5) (fs := [.int (σ 0 0), .int (σ 0 1), .ref (ad 1), .ref (ad 2), .ref (ad 3), .ref (ad 4), .int (σ 0 6), .int (σ 0 7), .int (σ 0 8), .int (σ 0 9), .ref (ad 5), .int (σ 0 11), .int (σ 0 12), .int (σ 0 13), .int (σ 0 14), .int (σ 0 15), .int (σ 0 16), .int (σ 0 17), .ref (ad 6), .ref (ad 7), .int (σ 0 20)]) (ws' := mw ad cI cA (up2 σ 0 17 v) F) B hts in_M ty_M tyok_M nm_M hown hK 0 rfl rfl 17 (by decide) (hts _ kw_583) (fun _ h => h) rfl (by decide +kernel) rfl rfl (Nat.le_of_ble_eq_true rfl) hd rfl kk
theorem fg_M_slots (B : jv_B p c cc) (hts : ∀ w ∈ wb, w.before args s = true) (hown : s.vm.findClass rn_M = some m.cls) (hK : va_K D jClasses (jTy cI cA cL) s) (hd : decode cc pc = .ok (.getfield 29, 3))
    (kk : jv_V p l e R s m args below meth c D jClasses A nL cells slots Q (mw ad cI cA σ F) lv (pc + 3) (.ref (ad 6) :: st)) : jv_V p l e R s m args below meth c D jClasses A nL cells slots Q (mw ad cI cA σ F) lv pc (.ref (ad 0) :: st) := jv_get B hts in_M hown hK 0 rfl rfl 18 (by decide) (hts _ kw_584) (fun _ h => h) rfl hd kk
theorem fg_M_image (B : jv_B p c cc) (hts : ∀ w ∈ wb, w.before args s = true) (hown : s.vm.findClass rn_M = some m.cls) (hK : va_K D jClasses (jTy cI cA cL) s) (hd : decode cc pc = .ok (.getfield 32, 3))
    (kk : jv_V p l e R s m args below meth c D jClasses A nL cells slots Q (mw ad cI cA σ F) lv (pc + 3) (.ref (ad 7) :: st)) : jv_V p l e R s m args below meth c D jClasses A nL cells slots Q (mw ad cI cA σ F) lv pc (.ref (ad 0) :: st) := jv_get B hts in_M hown hK 0 rfl rfl 19 (by decide) (hts _ kw_585) (fun _ h => h) rfl hd kk
theorem fg_M_size (B : jv_B p c cc) (hts : ∀ w ∈ wb, w.before args s = true) (hown : s.vm.findClass rn_M = some m.cls) (hK : va_K D jClasses (jTy cI cA cL) s) (hd : decode cc pc = .ok (.getfield 114, 3))
    (kk : jv_V p l e R s m args below meth c D jClasses A nL cells slots Q (mw ad cI cA σ F) lv (pc + 3) (.int (σ 0 20) :: st)) : jv_V p l e R s m args below meth c D jClasses A nL cells slots Q (mw ad cI cA σ F) lv pc (.ref (ad 0) :: st) := jv_get B hts in_M hown hK 0 rfl rfl 20 (by decide) (hts _ kw_586) (fun _ h => h) rfl hd kk
theorem fs_M_size (B : jv_B p c cc) (hts : ∀ w ∈ wb, w.before args s = true) (hown : s.vm.findClass rn_M = some m.cls) (hK : va_K D jClasses (jTy cI cA cL) s) {v : Int32} (hd : decode cc pc = .ok (.putfield 114, 3))
    (kk : jv_V p l e R s m args below meth c D jClasses A nL cells slots Q (mw ad cI cA (up2 σ 0 20 v) F) lv (pc + 3) st) : jv_V p l e R s m args below meth c D jClasses A nL cells slots Q (mw ad cI cA σ F) lv pc (.int v :: .ref (ad 0) :: st) := jv_put (ty := .int) (ci := 5) (fs := [.int (σ 0 0), .int (σ 0 1), .ref (ad 1), .ref (ad 2), .ref (ad 3), .ref (ad 4), .int (σ 0 6), .int (σ 0 7), .int (σ 0 8), .int (σ 0 9), .ref (ad 5), .int (σ 0 11), .int (σ 0 12), .int (σ 0 13), .int (σ 0 14), .int (σ 0 15), .int (σ 0 16), .int (σ 0 17), .ref (ad 6), .ref (ad 7), .int (σ 0 20)]) (ws' := mw ad cI cA (up2 σ 0 20 v) F) B hts in_M ty_M tyok_M nm_M hown hK 0 rfl rfl 20 (by decide) (hts _ kw_586) (fun _ h => h) rfl (by decide +kernel) rfl rfl (Nat.le_of_ble_eq_true rfl) hd rfl kk
theorem ld_c_2 (B : jv_B p c cc) (hK : va_K D jClasses (jTy cI cA cL) s) {i : Int32} (hi : vp_in i 64) (hd : decode cc pc = .ok (.iaload, 1))
    (kk : jv_V p l e R s m args below meth c D jClasses A nL cells slots Q (cw ad cI cA σ F) lv (pc + 1) (.int (σ 2 i.toNatClampNeg) :: st)) : jv_V p l e R s m args below meth c D jClasses A nL cells slots Q (cw ad cI cA σ F) lv pc (.int i :: .ref (ad 2) :: st) := jv_iald B hK 2 0 rfl rfl hi hd kk
theorem al_c_2 (B : jv_B p c cc) (hK : va_K D jClasses (jTy cI cA cL) s) (hd : decode cc pc = .ok (.arraylength, 1))
    (kk : jv_V p l e R s m args below meth c D jClasses A nL cells slots Q (cw ad cI cA σ F) lv (pc + 1) (.int 64 :: st)) : jv_V p l e R s m args below meth c D jClasses A nL cells slots Q (cw ad cI cA σ F) lv pc (.ref (ad 2) :: st) := jv_alen (v := 64) B hK 2 0 rfl rfl rfl hd kk
theorem sd_c_2 (B : jv_B p c cc) (hK : va_K D jClasses (jTy cI cA cL) s) {i v : Int32} (hi : vp_in i 64) (hd : decode cc pc = .ok (.iastore, 1))
    (kk : jv_V p l e R s m args below meth c D jClasses A nL cells slots Q (cw ad cI cA (up2 σ 2 i.toNatClampNeg v) F) lv (pc + 1) st) : jv_V p l e R s m args below meth c D jClasses A nL cells slots Q (cw ad cI cA σ F) lv pc (.int v :: .int i :: .ref (ad 2) :: st) := jv_iast B hK 2 0 rfl rfl hi hd rfl kk
theorem ld_c_3 (B : jv_B p c cc) (hK : va_K D jClasses (jTy cI cA cL) s) {i : Int32} (hi : vp_in i 64) (hd : decode cc pc = .ok (.iaload, 1))
    (kk : jv_V p l e R s m args below meth c D jClasses A nL cells slots Q (cw ad cI cA σ F) lv (pc + 1) (.int (σ 3 i.toNatClampNeg) :: st)) : jv_V p l e R s m args below meth c D jClasses A nL cells slots Q (cw ad cI cA σ F) lv pc (.int i :: .ref (ad 3) :: st) := jv_iald B hK 3 0 rfl rfl hi hd kk
theorem al_c_3 (B : jv_B p c cc) (hK : va_K D jClasses (jTy cI cA cL) s) (hd : decode cc pc = .ok (.arraylength, 1))
    (kk : jv_V p l e R s m args below meth c D jClasses A nL cells slots Q (cw ad cI cA σ F) lv (pc + 1) (.int 64 :: st)) : jv_V p l e R s m args below meth c D jClasses A nL cells slots Q (cw ad cI cA σ F) lv pc (.ref (ad 3) :: st) := jv_alen (v := 64) B hK 3 0 rfl rfl rfl hd kk
theorem sd_c_3 (B : jv_B p c cc) (hK : va_K D jClasses (jTy cI cA cL) s) {i v : Int32} (hi : vp_in i 64) (hd : decode cc pc = .ok (.iastore, 1))
    (kk : jv_V p l e R s m args below meth c D jClasses A nL cells slots Q (cw ad cI cA (up2 σ 3 i.toNatClampNeg v) F) lv (pc + 1) st) : jv_V p l e R s m args below meth c D jClasses A nL cells slots Q (cw ad cI cA σ F) lv pc (.int v :: .int i :: .ref (ad 3) :: st) := jv_iast B hK 3 0 rfl rfl hi hd rfl kk
theorem ld_c_4 (B : jv_B p c cc) (hK : va_K D jClasses (jTy cI cA cL) s) {i : Int32} (hi : vp_in i 64) (hd : decode cc pc = .ok (.iaload, 1))
    (kk : jv_V p l e R s m args below meth c D jClasses A nL cells slots Q (cw ad cI cA σ F) lv (pc + 1) (.int (σ 4 i.toNatClampNeg) :: st)) : jv_V p l e R s m args below meth c D jClasses A nL cells slots Q (cw ad cI cA σ F) lv pc (.int i :: .ref (ad 4) :: st) := jv_iald B hK 4 0 rfl rfl hi hd kk
theorem al_c_4 (B : jv_B p c cc) (hK : va_K D jClasses (jTy cI cA cL) s) (hd : decode cc pc = .ok (.arraylength, 1))
    (kk : jv_V p l e R s m args below meth c D jClasses A nL cells slots Q (cw ad cI cA σ F) lv (pc + 1) (.int 64 :: st)) : jv_V p l e R s m args below meth c D jClasses A nL cells slots Q (cw ad cI cA σ F) lv pc (.ref (ad 4) :: st) := jv_alen (v := 64) B hK 4 0 rfl rfl rfl hd kk
theorem sd_c_4 (B : jv_B p c cc) (hK : va_K D jClasses (jTy cI cA cL) s) {i v : Int32} (hi : vp_in i 64) (hd : decode cc pc = .ok (.iastore, 1))
    (kk : jv_V p l e R s m args below meth c D jClasses A nL cells slots Q (cw ad cI cA (up2 σ 4 i.toNatClampNeg v) F) lv (pc + 1) st) : jv_V p l e R s m args below meth c D jClasses A nL cells slots Q (cw ad cI cA σ F) lv pc (.int v :: .int i :: .ref (ad 4) :: st) := jv_iast B hK 4 0 rfl rfl hi hd rfl kk
theorem ld_c_5 (B : jv_B p c cc) (hK : va_K D jClasses (jTy cI cA cL) s) {i : Int32} (hi : vp_in i 64) (hd : decode cc pc = .ok (.iaload, 1))
    (kk : jv_V p l e R s m args below meth c D jClasses A nL cells slots Q (cw ad cI cA σ F) lv (pc + 1) (.int (σ 5 i.toNatClampNeg) :: st)) : jv_V p l e R s m args below meth c D jClasses A nL cells slots Q (cw ad cI cA σ F) lv pc (.int i :: .ref (ad 5) :: st) := jv_iald B hK 5 0 rfl rfl hi hd kk
theorem al_c_5 (B : jv_B p c cc) (hK : va_K D jClasses (jTy cI cA cL) s) (hd : decode cc pc = .ok (.arraylength, 1))
    (kk : jv_V p l e R s m args below meth c D jClasses A nL cells slots Q (cw ad cI cA σ F) lv (pc + 1) (.int 64 :: st)) : jv_V p l e R s m args below meth c D jClasses A nL cells slots Q (cw ad cI cA σ F) lv pc (.ref (ad 5) :: st) := jv_alen (v := 64) B hK 5 0 rfl rfl rfl hd kk
theorem sd_c_5 (B : jv_B p c cc) (hK : va_K D jClasses (jTy cI cA cL) s) {i v : Int32} (hi : vp_in i 64) (hd : decode cc pc = .ok (.iastore, 1))
    (kk : jv_V p l e R s m args below meth c D jClasses A nL cells slots Q (cw ad cI cA (up2 σ 5 i.toNatClampNeg v) F) lv (pc + 1) st) : jv_V p l e R s m args below meth c D jClasses A nL cells slots Q (cw ad cI cA σ F) lv pc (.int v :: .int i :: .ref (ad 5) :: st) := jv_iast B hK 5 0 rfl rfl hi hd rfl kk
theorem ld_c_7 (B : jv_B p c cc) (hK : va_K D jClasses (jTy cI cA cL) s) {i : Int32} (hi : vp_in i 64) (hd : decode cc pc = .ok (.iaload, 1))
    (kk : jv_V p l e R s m args below meth c D jClasses A nL cells slots Q (cw ad cI cA σ F) lv (pc + 1) (.int (σ 7 i.toNatClampNeg) :: st)) : jv_V p l e R s m args below meth c D jClasses A nL cells slots Q (cw ad cI cA σ F) lv pc (.int i :: .ref (ad 7) :: st) := jv_iald B hK 7 0 rfl rfl hi hd kk
theorem al_c_7 (B : jv_B p c cc) (hK : va_K D jClasses (jTy cI cA cL) s) (hd : decode cc pc = .ok (.arraylength, 1))
    (kk : jv_V p l e R s m args below meth c D jClasses A nL cells slots Q (cw ad cI cA σ F) lv (pc + 1) (.int 64 :: st)) : jv_V p l e R s m args below meth c D jClasses A nL cells slots Q (cw ad cI cA σ F) lv pc (.ref (ad 7) :: st) := jv_alen (v := 64) B hK 7 0 rfl rfl rfl hd kk
theorem sd_c_7 (B : jv_B p c cc) (hK : va_K D jClasses (jTy cI cA cL) s) {i v : Int32} (hi : vp_in i 64) (hd : decode cc pc = .ok (.iastore, 1))
    (kk : jv_V p l e R s m args below meth c D jClasses A nL cells slots Q (cw ad cI cA (up2 σ 7 i.toNatClampNeg v) F) lv (pc + 1) st) : jv_V p l e R s m args below meth c D jClasses A nL cells slots Q (cw ad cI cA σ F) lv pc (.int v :: .int i :: .ref (ad 7) :: st) := jv_iast B hK 7 0 rfl rfl hi hd rfl kk
theorem ld_c_11 (B : jv_B p c cc) (hK : va_K D jClasses (jTy cI cA cL) s) {i : Int32} (hi : vp_in i 140) (hd : decode cc pc = .ok (.iaload, 1))
    (kk : jv_V p l e R s m args below meth c D jClasses A nL cells slots Q (cw ad cI cA σ F) lv (pc + 1) (.int (σ 11 i.toNatClampNeg) :: st)) : jv_V p l e R s m args below meth c D jClasses A nL cells slots Q (cw ad cI cA σ F) lv pc (.int i :: .ref (ad 11) :: st) := jv_iald B hK 11 0 rfl rfl hi hd kk
theorem al_c_11 (B : jv_B p c cc) (hK : va_K D jClasses (jTy cI cA cL) s) (hd : decode cc pc = .ok (.arraylength, 1))
    (kk : jv_V p l e R s m args below meth c D jClasses A nL cells slots Q (cw ad cI cA σ F) lv (pc + 1) (.int 140 :: st)) : jv_V p l e R s m args below meth c D jClasses A nL cells slots Q (cw ad cI cA σ F) lv pc (.ref (ad 11) :: st) := jv_alen (v := 140) B hK 11 0 rfl rfl rfl hd kk
theorem sd_c_11 (B : jv_B p c cc) (hK : va_K D jClasses (jTy cI cA cL) s) {i v : Int32} (hi : vp_in i 140) (hd : decode cc pc = .ok (.iastore, 1))
    (kk : jv_V p l e R s m args below meth c D jClasses A nL cells slots Q (cw ad cI cA (up2 σ 11 i.toNatClampNeg v) F) lv (pc + 1) st) : jv_V p l e R s m args below meth c D jClasses A nL cells slots Q (cw ad cI cA σ F) lv pc (.int v :: .int i :: .ref (ad 11) :: st) := jv_iast B hK 11 0 rfl rfl hi hd rfl kk
theorem ld_c_12 (B : jv_B p c cc) (hK : va_K D jClasses (jTy cI cA cL) s) {i : Int32} (hi : vp_in i 140) (hd : decode cc pc = .ok (.iaload, 1))
    (kk : jv_V p l e R s m args below meth c D jClasses A nL cells slots Q (cw ad cI cA σ F) lv (pc + 1) (.int (σ 12 i.toNatClampNeg) :: st)) : jv_V p l e R s m args below meth c D jClasses A nL cells slots Q (cw ad cI cA σ F) lv pc (.int i :: .ref (ad 12) :: st) := jv_iald B hK 12 0 rfl rfl hi hd kk
theorem al_c_12 (B : jv_B p c cc) (hK : va_K D jClasses (jTy cI cA cL) s) (hd : decode cc pc = .ok (.arraylength, 1))
    (kk : jv_V p l e R s m args below meth c D jClasses A nL cells slots Q (cw ad cI cA σ F) lv (pc + 1) (.int 140 :: st)) : jv_V p l e R s m args below meth c D jClasses A nL cells slots Q (cw ad cI cA σ F) lv pc (.ref (ad 12) :: st) := jv_alen (v := 140) B hK 12 0 rfl rfl rfl hd kk
theorem sd_c_12 (B : jv_B p c cc) (hK : va_K D jClasses (jTy cI cA cL) s) {i v : Int32} (hi : vp_in i 140) (hd : decode cc pc = .ok (.iastore, 1))
    (kk : jv_V p l e R s m args below meth c D jClasses A nL cells slots Q (cw ad cI cA (up2 σ 12 i.toNatClampNeg v) F) lv (pc + 1) st) : jv_V p l e R s m args below meth c D jClasses A nL cells slots Q (cw ad cI cA σ F) lv pc (.int v :: .int i :: .ref (ad 12) :: st) := jv_iast B hK 12 0 rfl rfl hi hd rfl kk
theorem ld_c_13 (B : jv_B p c cc) (hK : va_K D jClasses (jTy cI cA cL) s) {i : Int32} (hi : vp_in i 140) (hd : decode cc pc = .ok (.iaload, 1))
    (kk : jv_V p l e R s m args below meth c D jClasses A nL cells slots Q (cw ad cI cA σ F) lv (pc + 1) (.int (σ 13 i.toNatClampNeg) :: st)) : jv_V p l e R s m args below meth c D jClasses A nL cells slots Q (cw ad cI cA σ F) lv pc (.int i :: .ref (ad 13) :: st) := jv_iald B hK 13 0 rfl rfl hi hd kk
theorem al_c_13 (B : jv_B p c cc) (hK : va_K D jClasses (jTy cI cA cL) s) (hd : decode cc pc = .ok (.arraylength, 1))
    (kk : jv_V p l e R s m args below meth c D jClasses A nL cells slots Q (cw ad cI cA σ F) lv (pc + 1) (.int 140 :: st)) : jv_V p l e R s m args below meth c D jClasses A nL cells slots Q (cw ad cI cA σ F) lv pc (.ref (ad 13) :: st) := jv_alen (v := 140) B hK 13 0 rfl rfl rfl hd kk
theorem sd_c_13 (B : jv_B p c cc) (hK : va_K D jClasses (jTy cI cA cL) s) {i v : Int32} (hi : vp_in i 140) (hd : decode cc pc = .ok (.iastore, 1))
    (kk : jv_V p l e R s m args below meth c D jClasses A nL cells slots Q (cw ad cI cA (up2 σ 13 i.toNatClampNeg v) F) lv (pc + 1) st) : jv_V p l e R s m args below meth c D jClasses A nL cells slots Q (cw ad cI cA σ F) lv pc (.int v :: .int i :: .ref (ad 13) :: st) := jv_iast B hK 13 0 rfl rfl hi hd rfl kk
theorem ld_m_1 (B : jv_B p c cc) (hK : va_K D jClasses (jTy cI cA cL) s) {i : Int32} (hi : vp_in i 64) (hd : decode cc pc = .ok (.iaload, 1))
    (kk : jv_V p l e R s m args below meth c D jClasses A nL cells slots Q (mw ad cI cA σ F) lv (pc + 1) (.int (σ 1 i.toNatClampNeg) :: st)) : jv_V p l e R s m args below meth c D jClasses A nL cells slots Q (mw ad cI cA σ F) lv pc (.int i :: .ref (ad 1) :: st) := jv_iald B hK 1 0 rfl rfl hi hd kk
theorem al_m_1 (B : jv_B p c cc) (hK : va_K D jClasses (jTy cI cA cL) s) (hd : decode cc pc = .ok (.arraylength, 1))
    (kk : jv_V p l e R s m args below meth c D jClasses A nL cells slots Q (mw ad cI cA σ F) lv (pc + 1) (.int 64 :: st)) : jv_V p l e R s m args below meth c D jClasses A nL cells slots Q (mw ad cI cA σ F) lv pc (.ref (ad 1) :: st) := jv_alen (v := 64) B hK 1 0 rfl rfl rfl hd kk
theorem sd_m_1 (B : jv_B p c cc) (hK : va_K D jClasses (jTy cI cA cL) s) {i v : Int32} (hi : vp_in i 64) (hd : decode cc pc = .ok (.iastore, 1))
    (kk : jv_V p l e R s m args below meth c D jClasses A nL cells slots Q (mw ad cI cA (up2 σ 1 i.toNatClampNeg v) F) lv (pc + 1) st) : jv_V p l e R s m args below meth c D jClasses A nL cells slots Q (mw ad cI cA σ F) lv pc (.int v :: .int i :: .ref (ad 1) :: st) := jv_iast B hK 1 0 rfl rfl hi hd rfl kk
theorem ld_m_2 (B : jv_B p c cc) (hK : va_K D jClasses (jTy cI cA cL) s) {i : Int32} (hi : vp_in i 64) (hd : decode cc pc = .ok (.iaload, 1))
    (kk : jv_V p l e R s m args below meth c D jClasses A nL cells slots Q (mw ad cI cA σ F) lv (pc + 1) (.int (σ 2 i.toNatClampNeg) :: st)) : jv_V p l e R s m args below meth c D jClasses A nL cells slots Q (mw ad cI cA σ F) lv pc (.int i :: .ref (ad 2) :: st) := jv_iald B hK 2 0 rfl rfl hi hd kk
theorem al_m_2 (B : jv_B p c cc) (hK : va_K D jClasses (jTy cI cA cL) s) (hd : decode cc pc = .ok (.arraylength, 1))
    (kk : jv_V p l e R s m args below meth c D jClasses A nL cells slots Q (mw ad cI cA σ F) lv (pc + 1) (.int 64 :: st)) : jv_V p l e R s m args below meth c D jClasses A nL cells slots Q (mw ad cI cA σ F) lv pc (.ref (ad 2) :: st) := jv_alen (v := 64) B hK 2 0 rfl rfl rfl hd kk
theorem sd_m_2 (B : jv_B p c cc) (hK : va_K D jClasses (jTy cI cA cL) s) {i v : Int32} (hi : vp_in i 64) (hd : decode cc pc = .ok (.iastore, 1))
    (kk : jv_V p l e R s m args below meth c D jClasses A nL cells slots Q (mw ad cI cA (up2 σ 2 i.toNatClampNeg v) F) lv (pc + 1) st) : jv_V p l e R s m args below meth c D jClasses A nL cells slots Q (mw ad cI cA σ F) lv pc (.int v :: .int i :: .ref (ad 2) :: st) := jv_iast B hK 2 0 rfl rfl hi hd rfl kk
theorem ld_m_3 (B : jv_B p c cc) (hK : va_K D jClasses (jTy cI cA cL) s) {i : Int32} (hi : vp_in i 64) (hd : decode cc pc = .ok (.iaload, 1))
    (kk : jv_V p l e R s m args below meth c D jClasses A nL cells slots Q (mw ad cI cA σ F) lv (pc + 1) (.int (σ 3 i.toNatClampNeg) :: st)) : jv_V p l e R s m args below meth c D jClasses A nL cells slots Q (mw ad cI cA σ F) lv pc (.int i :: .ref (ad 3) :: st) := jv_iald B hK 3 0 rfl rfl hi hd kk
theorem al_m_3 (B : jv_B p c cc) (hK : va_K D jClasses (jTy cI cA cL) s) (hd : decode cc pc = .ok (.arraylength, 1))
    (kk : jv_V p l e R s m args below meth c D jClasses A nL cells slots Q (mw ad cI cA σ F) lv (pc + 1) (.int 64 :: st)) : jv_V p l e R s m args below meth c D jClasses A nL cells slots Q (mw ad cI cA σ F) lv pc (.ref (ad 3) :: st) := jv_alen (v := 64) B hK 3 0 rfl rfl rfl hd kk
theorem sd_m_3 (B : jv_B p c cc) (hK : va_K D jClasses (jTy cI cA cL) s) {i v : Int32} (hi : vp_in i 64) (hd : decode cc pc = .ok (.iastore, 1))
    (kk : jv_V p l e R s m args below meth c D jClasses A nL cells slots Q (mw ad cI cA (up2 σ 3 i.toNatClampNeg v) F) lv (pc + 1) st) : jv_V p l e R s m args below meth c D jClasses A nL cells slots Q (mw ad cI cA σ F) lv pc (.int v :: .int i :: .ref (ad 3) :: st) := jv_iast B hK 3 0 rfl rfl hi hd rfl kk
theorem ld_m_4 (B : jv_B p c cc) (hK : va_K D jClasses (jTy cI cA cL) s) {i : Int32} (hi : vp_in i 64) (hd : decode cc pc = .ok (.iaload, 1))
    (kk : jv_V p l e R s m args below meth c D jClasses A nL cells slots Q (mw ad cI cA σ F) lv (pc + 1) (.int (σ 4 i.toNatClampNeg) :: st)) : jv_V p l e R s m args below meth c D jClasses A nL cells slots Q (mw ad cI cA σ F) lv pc (.int i :: .ref (ad 4) :: st) := jv_iald B hK 4 0 rfl rfl hi hd kk
theorem al_m_4 (B : jv_B p c cc) (hK : va_K D jClasses (jTy cI cA cL) s) (hd : decode cc pc = .ok (.arraylength, 1))
    (kk : jv_V p l e R s m args below meth c D jClasses A nL cells slots Q (mw ad cI cA σ F) lv (pc + 1) (.int 64 :: st)) : jv_V p l e R s m args below meth c D jClasses A nL cells slots Q (mw ad cI cA σ F) lv pc (.ref (ad 4) :: st) := jv_alen (v := 64) B hK 4 0 rfl rfl rfl hd kk
theorem sd_m_4 (B : jv_B p c cc) (hK : va_K D jClasses (jTy cI cA cL) s) {i v : Int32} (hi : vp_in i 64) (hd : decode cc pc = .ok (.iastore, 1))
    (kk : jv_V p l e R s m args below meth c D jClasses A nL cells slots Q (mw ad cI cA (up2 σ 4 i.toNatClampNeg v) F) lv (pc + 1) st) : jv_V p l e R s m args below meth c D jClasses A nL cells slots Q (mw ad cI cA σ F) lv pc (.int v :: .int i :: .ref (ad 4) :: st) := jv_iast B hK 4 0 rfl rfl hi hd rfl kk
theorem ld_m_5 (B : jv_B p c cc) (hK : va_K D jClasses (jTy cI cA cL) s) {i : Int32} (hi : vp_in i 64) (hd : decode cc pc = .ok (.iaload, 1))
    (kk : jv_V p l e R s m args below meth c D jClasses A nL cells slots Q (mw ad cI cA σ F) lv (pc + 1) (.int (σ 5 i.toNatClampNeg) :: st)) : jv_V p l e R s m args below meth c D jClasses A nL cells slots Q (mw ad cI cA σ F) lv pc (.int i :: .ref (ad 5) :: st) := jv_iald B hK 5 0 rfl rfl hi hd kk
theorem al_m_5 (B : jv_B p c cc) (hK : va_K D jClasses (jTy cI cA cL) s) (hd : decode cc pc = .ok (.arraylength, 1))
    (kk : jv_V p l e R s m args below meth c D jClasses A nL cells slots Q (mw ad cI cA σ F) lv (pc + 1) (.int 64 :: st)) : jv_V p l e R s m args below meth c D jClasses A nL cells slots Q (mw ad cI cA σ F) lv pc (.ref (ad 5) :: st) := jv_alen (v := 64) B hK 5 0 rfl rfl rfl hd kk
theorem sd_m_5 (B : jv_B p c cc) (hK : va_K D jClasses (jTy cI cA cL) s) {i v : Int32} (hi : vp_in i 64) (hd : decode cc pc = .ok (.iastore, 1))
    (kk : jv_V p l e R s m args below meth c D jClasses A nL cells slots Q (mw ad cI cA (up2 σ 5 i.toNatClampNeg v) F) lv (pc + 1) st) : jv_V p l e R s m args below meth c D jClasses A nL cells slots Q (mw ad cI cA σ F) lv pc (.int v :: .int i :: .ref (ad 5) :: st) := jv_iast B hK 5 0 rfl rfl hi hd rfl kk
theorem ld_m_6 (B : jv_B p c cc) (hK : va_K D jClasses (jTy cI cA cL) s) {i : Int32} (hi : vp_in i 280) (hd : decode cc pc = .ok (.iaload, 1))
    (kk : jv_V p l e R s m args below meth c D jClasses A nL cells slots Q (mw ad cI cA σ F) lv (pc + 1) (.int (σ 6 i.toNatClampNeg) :: st)) : jv_V p l e R s m args below meth c D jClasses A nL cells slots Q (mw ad cI cA σ F) lv pc (.int i :: .ref (ad 6) :: st) := jv_iald B hK 6 0 rfl rfl hi hd kk
theorem al_m_6 (B : jv_B p c cc) (hK : va_K D jClasses (jTy cI cA cL) s) (hd : decode cc pc = .ok (.arraylength, 1))
    (kk : jv_V p l e R s m args below meth c D jClasses A nL cells slots Q (mw ad cI cA σ F) lv (pc + 1) (.int 280 :: st)) : jv_V p l e R s m args below meth c D jClasses A nL cells slots Q (mw ad cI cA σ F) lv pc (.ref (ad 6) :: st) := jv_alen (v := 280) B hK 6 0 rfl rfl rfl hd kk
theorem sd_m_6 (B : jv_B p c cc) (hK : va_K D jClasses (jTy cI cA cL) s) {i v : Int32} (hi : vp_in i 280) (hd : decode cc pc = .ok (.iastore, 1))
    (kk : jv_V p l e R s m args below meth c D jClasses A nL cells slots Q (mw ad cI cA (up2 σ 6 i.toNatClampNeg v) F) lv (pc + 1) st) : jv_V p l e R s m args below meth c D jClasses A nL cells slots Q (mw ad cI cA σ F) lv pc (.int v :: .int i :: .ref (ad 6) :: st) := jv_iast B hK 6 0 rfl rfl hi hd rfl kk
theorem ld_m_7 (B : jv_B p c cc) (hK : va_K D jClasses (jTy cI cA cL) s) {i : Int32} (hi : vp_in i 140) (hd : decode cc pc = .ok (.iaload, 1))
    (kk : jv_V p l e R s m args below meth c D jClasses A nL cells slots Q (mw ad cI cA σ F) lv (pc + 1) (.int (σ 7 i.toNatClampNeg) :: st)) : jv_V p l e R s m args below meth c D jClasses A nL cells slots Q (mw ad cI cA σ F) lv pc (.int i :: .ref (ad 7) :: st) := jv_iald B hK 7 0 rfl rfl hi hd kk
theorem al_m_7 (B : jv_B p c cc) (hK : va_K D jClasses (jTy cI cA cL) s) (hd : decode cc pc = .ok (.arraylength, 1))
    (kk : jv_V p l e R s m args below meth c D jClasses A nL cells slots Q (mw ad cI cA σ F) lv (pc + 1) (.int 140 :: st)) : jv_V p l e R s m args below meth c D jClasses A nL cells slots Q (mw ad cI cA σ F) lv pc (.ref (ad 7) :: st) := jv_alen (v := 140) B hK 7 0 rfl rfl rfl hd kk
theorem sd_m_7 (B : jv_B p c cc) (hK : va_K D jClasses (jTy cI cA cL) s) {i v : Int32} (hi : vp_in i 140) (hd : decode cc pc = .ok (.iastore, 1))
    (kk : jv_V p l e R s m args below meth c D jClasses A nL cells slots Q (mw ad cI cA (up2 σ 7 i.toNatClampNeg v) F) lv (pc + 1) st) : jv_V p l e R s m args below meth c D jClasses A nL cells slots Q (mw ad cI cA σ F) lv pc (.int v :: .int i :: .ref (ad 7) :: st) := jv_iast B hK 7 0 rfl rfl hi hd rfl kk
theorem aa_c (B : jv_B p c cc) (hK : va_K D jClasses (jTy cI cA cL) s) {i : Int32} (hi : vp_in i 2) (hd : decode cc pc = .ok (.aaload, 1))
    (k0 : i = 0 → jv_V p l e R s m args below meth c D jClasses A nL cells slots Q (cw ad cI cA σ F) lv (pc + 1) (.ref (ad 11) :: st)) (k1 : ¬ i = 0 → jv_V p l e R s m args below meth c D jClasses A nL cells slots Q (cw ad cI cA σ F) lv (pc + 1) (.ref (ad 12) :: st)) : jv_V p l e R s m args below meth c D jClasses A nL cells slots Q (cw ad cI cA σ F) lv pc (.int i :: .ref (ad 10) :: st) := by
  have hi2 := hi
  obtain ⟨j, hj, rfl⟩ := vp_in_of hi (by decide)
  have hcl : (nI j).toNatClampNeg = j := nI_clamp (by omega)
  intro H locs ls hP hD hS hl
  have hP' : va_P D jClasses (cw ad cI cA σ F) H := hP
  have ha : (cw ad cI cA σ F)[10]? = some (ad 10, .inl (cA, 2, .inr (.inr (.inr (.inr (aaF (ad 11) (ad 12))))))) := rfl
  have hlt : (nI j).toNatClampNeg < 2 := by omega
  refine W.aald (v := va_rf (aaF (ad 11) (ad 12) (nI j).toNatClampNeg)) (ty := .array .int) B.1 B.2 (hP 10 _ ha) ((hK.2 1 _ rfl).1 2 (fun j => va_rf (aaF (ad 11) (ad 12) j))) rfl (fun q => by cases q) (by show ¬ (nI j < 0 ∨ (arrV _ _ _).slots.size ≤ _); rw [arrV_size]; exact hi2) (by show (arrV _ _ _).slots[_]? = _; rw [arrV_read _ _ hlt]) rfl rfl hd ?_
  rw [hcl]
  match j, hj with
  | 0, _ => exact k0 rfl H locs ls hP hD hS hl
  | 1, _ => exact k1 (by decide) H locs ls hP hD hS hl
end JW

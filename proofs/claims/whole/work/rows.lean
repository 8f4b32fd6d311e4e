section
-- ===== PART A: goes FIRST, ahead of the names: the tables' words, and 'selects' of the private methods out of them =====
/-- a private method of a class that the tables say can be made, by its rows of tables_1 -/
def lw_okq (q : MethodName × Nat) : Prop := (q.1.cls ≠ "java/lang/invoke/MethodHandle" ∧ q.1.cls ≠ "java/lang/invoke/VarHandle") ∧ Cond.instantiable q.1.cls q.2 ∈ tables_1 ∧ Cond.privateMethod q.1 ∈ tables_1 ∧ Cond.instanceMethod q.1 ∈ tables_1
theorem lw_p0 : lw_okq (⟨"java/lang/Throwable", "fillInStackTrace", "(I)Ljava/lang/Throwable;"⟩, 6) := ⟨⟨by decide +kernel, by decide +kernel⟩, List.mem_of_getElem? (i := 258) (by decide +kernel), List.mem_of_getElem? (i := 256) (by decide +kernel), List.mem_of_getElem? (i := 257) (by decide +kernel)⟩
theorem lw_p1 : lw_okq (⟨"RescueDesk$Copier", "readIn", "(I)Z"⟩, 8) := ⟨⟨by decide +kernel, by decide +kernel⟩, List.mem_of_getElem? (i := 66) (by decide +kernel), List.mem_of_getElem? (i := 382) (by decide +kernel), List.mem_of_getElem? (i := 383) (by decide +kernel)⟩
theorem lw_p2 : lw_okq (⟨"RescueDesk$Copier", "readForward", "(Z)Z"⟩, 8) := ⟨⟨by decide +kernel, by decide +kernel⟩, List.mem_of_getElem? (i := 66) (by decide +kernel), List.mem_of_getElem? (i := 386) (by decide +kernel), List.mem_of_getElem? (i := 387) (by decide +kernel)⟩
theorem lw_p3 : lw_okq (⟨"RescueDesk$Copier", "rescue", "(III)Z"⟩, 8) := ⟨⟨by decide +kernel, by decide +kernel⟩, List.mem_of_getElem? (i := 66) (by decide +kernel), List.mem_of_getElem? (i := 395) (by decide +kernel), List.mem_of_getElem? (i := 396) (by decide +kernel)⟩
theorem lw_p4 : lw_okq (⟨"RescueDesk$Copier", "takeLeap", "(Z)I"⟩, 8) := ⟨⟨by decide +kernel, by decide +kernel⟩, List.mem_of_getElem? (i := 66) (by decide +kernel), List.mem_of_getElem? (i := 410) (by decide +kernel), List.mem_of_getElem? (i := 411) (by decide +kernel)⟩
theorem lw_p5 : lw_okq (⟨"RescueDesk$Copier", "readBackward", "()Z"⟩, 8) := ⟨⟨by decide +kernel, by decide +kernel⟩, List.mem_of_getElem? (i := 66) (by decide +kernel), List.mem_of_getElem? (i := 415) (by decide +kernel), List.mem_of_getElem? (i := 416) (by decide +kernel)⟩
theorem lw_p6 : lw_okq (⟨"RescueDesk$Copier", "trim", "()Z"⟩, 8) := ⟨⟨by decide +kernel, by decide +kernel⟩, List.mem_of_getElem? (i := 66) (by decide +kernel), List.mem_of_getElem? (i := 427) (by decide +kernel), List.mem_of_getElem? (i := 428) (by decide +kernel)⟩
theorem lw_p7 : lw_okq (⟨"RescueDesk$Copier", "scrape", "()Z"⟩, 8) := ⟨⟨by decide +kernel, by decide +kernel⟩, List.mem_of_getElem? (i := 66) (by decide +kernel), List.mem_of_getElem? (i := 431) (by decide +kernel), List.mem_of_getElem? (i := 432) (by decide +kernel)⟩
theorem lw_p8 : lw_okq (⟨"RescueDesk$Copier", "retry", "()Z"⟩, 8) := ⟨⟨by decide +kernel, by decide +kernel⟩, List.mem_of_getElem? (i := 66) (by decide +kernel), List.mem_of_getElem? (i := 435) (by decide +kernel), List.mem_of_getElem? (i := 436) (by decide +kernel)⟩
theorem lw_p9 : lw_okq (⟨"RescueDesk$Copier", "nextBad", "()I"⟩, 8) := ⟨⟨by decide +kernel, by decide +kernel⟩, List.mem_of_getElem? (i := 66) (by decide +kernel), List.mem_of_getElem? (i := 439) (by decide +kernel), List.mem_of_getElem? (i := 440) (by decide +kernel)⟩
theorem lw_p10 : lw_okq (⟨"RescueDesk$Copier", "goesUp", "(I)Z"⟩, 8) := ⟨⟨by decide +kernel, by decide +kernel⟩, List.mem_of_getElem? (i := 66) (by decide +kernel), List.mem_of_getElem? (i := 443) (by decide +kernel), List.mem_of_getElem? (i := 444) (by decide +kernel)⟩
theorem lw_p11 : lw_okq (⟨"RescueDesk$Copier", "enterRound", "(I)V"⟩, 8) := ⟨⟨by decide +kernel, by decide +kernel⟩, List.mem_of_getElem? (i := 66) (by decide +kernel), List.mem_of_getElem? (i := 447) (by decide +kernel), List.mem_of_getElem? (i := 448) (by decide +kernel)⟩
theorem lw_p12 : lw_okq (⟨"RescueDesk$Saves", "behindNumber", "(I)I"⟩, 3) := ⟨⟨by decide +kernel, by decide +kernel⟩, List.mem_of_getElem? (i := 97) (by decide +kernel), List.mem_of_getElem? (i := 470) (by decide +kernel), List.mem_of_getElem? (i := 471) (by decide +kernel)⟩
theorem lw_p13 : lw_okq (⟨"RescueDesk$Saves", "draw", "(LRescueDesk$SectorMap;)I"⟩, 3) := ⟨⟨by decide +kernel, by decide +kernel⟩, List.mem_of_getElem? (i := 97) (by decide +kernel), List.mem_of_getElem? (i := 474) (by decide +kernel), List.mem_of_getElem? (i := 475) (by decide +kernel)⟩
theorem lw_p14 : lw_okq (⟨"RescueDesk$Saves", "placeOfRun", "(I)I"⟩, 3) := ⟨⟨by decide +kernel, by decide +kernel⟩, List.mem_of_getElem? (i := 97) (by decide +kernel), List.mem_of_getElem? (i := 480) (by decide +kernel), List.mem_of_getElem? (i := 481) (by decide +kernel)⟩
theorem lw_p15 : lw_okq (⟨"RescueDesk$Saves", "sumBefore", "([II)I"⟩, 3) := ⟨⟨by decide +kernel, by decide +kernel⟩, List.mem_of_getElem? (i := 97) (by decide +kernel), List.mem_of_getElem? (i := 486) (by decide +kernel), List.mem_of_getElem? (i := 487) (by decide +kernel)⟩
def lw_privs_1 : List (MethodName × Nat) := [(⟨"java/lang/Throwable", "fillInStackTrace", "(I)Ljava/lang/Throwable;"⟩, 6), (⟨"RescueDesk$Copier", "readIn", "(I)Z"⟩, 8), (⟨"RescueDesk$Copier", "readForward", "(Z)Z"⟩, 8), (⟨"RescueDesk$Copier", "rescue", "(III)Z"⟩, 8), (⟨"RescueDesk$Copier", "takeLeap", "(Z)I"⟩, 8), (⟨"RescueDesk$Copier", "readBackward", "()Z"⟩, 8), (⟨"RescueDesk$Copier", "trim", "()Z"⟩, 8), (⟨"RescueDesk$Copier", "scrape", "()Z"⟩, 8), (⟨"RescueDesk$Copier", "retry", "()Z"⟩, 8), (⟨"RescueDesk$Copier", "nextBad", "()I"⟩, 8), (⟨"RescueDesk$Copier", "goesUp", "(I)Z"⟩, 8), (⟨"RescueDesk$Copier", "enterRound", "(I)V"⟩, 8), (⟨"RescueDesk$Saves", "behindNumber", "(I)I"⟩, 3), (⟨"RescueDesk$Saves", "draw", "(LRescueDesk$SectorMap;)I"⟩, 3), (⟨"RescueDesk$Saves", "placeOfRun", "(I)I"⟩, 3), (⟨"RescueDesk$Saves", "sumBefore", "([II)I"⟩, 3)]
theorem lw_r1 : ∀ q ∈ lw_privs_1, lw_okq q := List.forall_mem_cons.mpr ⟨lw_p0, List.forall_mem_cons.mpr ⟨lw_p1, List.forall_mem_cons.mpr ⟨lw_p2, List.forall_mem_cons.mpr ⟨lw_p3, List.forall_mem_cons.mpr ⟨lw_p4, List.forall_mem_cons.mpr ⟨lw_p5, List.forall_mem_cons.mpr ⟨lw_p6, List.forall_mem_cons.mpr ⟨lw_p7, List.forall_mem_cons.mpr ⟨lw_p8, List.forall_mem_cons.mpr ⟨lw_p9, List.forall_mem_cons.mpr ⟨lw_p10, List.forall_mem_cons.mpr ⟨lw_p11, List.forall_mem_cons.mpr ⟨lw_p12, List.forall_mem_cons.mpr ⟨lw_p13, List.forall_mem_cons.mpr ⟨lw_p14, List.forall_mem_cons.mpr ⟨lw_p15, fun _ h => absurd h List.not_mem_nil⟩⟩⟩⟩⟩⟩⟩⟩⟩⟩⟩⟩⟩⟩⟩⟩
theorem lw_p16 : lw_okq (⟨"RescueDesk$Saves", "isWhole", "(II)Z"⟩, 3) := ⟨⟨by decide +kernel, by decide +kernel⟩, List.mem_of_getElem? (i := 97) (by decide +kernel), List.mem_of_getElem? (i := 519) (by decide +kernel), List.mem_of_getElem? (i := 520) (by decide +kernel)⟩
theorem lw_p17 : lw_okq (⟨"RescueDesk$Saves", "hasRuns", "(III)Z"⟩, 3) := ⟨⟨by decide +kernel, by decide +kernel⟩, List.mem_of_getElem? (i := 97) (by decide +kernel), List.mem_of_getElem? (i := 524) (by decide +kernel), List.mem_of_getElem? (i := 525) (by decide +kernel)⟩
theorem lw_p18 : lw_okq (⟨"RescueDeskModel", "isSector", "(I)Z"⟩, 21) := ⟨⟨by decide +kernel, by decide +kernel⟩, List.mem_of_getElem? (i := 557) (by decide +kernel), List.mem_of_getElem? (i := 639) (by decide +kernel), List.mem_of_getElem? (i := 640) (by decide +kernel)⟩
theorem lw_p19 : lw_okq (⟨"RescueDeskModel", "enter", "(I)V"⟩, 21) := ⟨⟨by decide +kernel, by decide +kernel⟩, List.mem_of_getElem? (i := 557) (by decide +kernel), List.mem_of_getElem? (i := 647) (by decide +kernel), List.mem_of_getElem? (i := 648) (by decide +kernel)⟩
theorem lw_p20 : lw_okq (⟨"RescueDeskModel", "goesOn", "()Z"⟩, 21) := ⟨⟨by decide +kernel, by decide +kernel⟩, List.mem_of_getElem? (i := 557) (by decide +kernel), List.mem_of_getElem? (i := 655) (by decide +kernel), List.mem_of_getElem? (i := 656) (by decide +kernel)⟩
theorem lw_p21 : lw_okq (⟨"RescueDeskModel", "one", "()I"⟩, 21) := ⟨⟨by decide +kernel, by decide +kernel⟩, List.mem_of_getElem? (i := 557) (by decide +kernel), List.mem_of_getElem? (i := 659) (by decide +kernel), List.mem_of_getElem? (i := 660) (by decide +kernel)⟩
theorem lw_p22 : lw_okq (⟨"RescueDeskModel", "find", "()Z"⟩, 21) := ⟨⟨by decide +kernel, by decide +kernel⟩, List.mem_of_getElem? (i := 557) (by decide +kernel), List.mem_of_getElem? (i := 663) (by decide +kernel), List.mem_of_getElem? (i := 664) (by decide +kernel)⟩
theorem lw_p23 : lw_okq (⟨"RescueDeskModel", "firstIn", "(II)I"⟩, 21) := ⟨⟨by decide +kernel, by decide +kernel⟩, List.mem_of_getElem? (i := 557) (by decide +kernel), List.mem_of_getElem? (i := 667) (by decide +kernel), List.mem_of_getElem? (i := 668) (by decide +kernel)⟩
theorem lw_p24 : lw_okq (⟨"RescueDeskModel", "lastIn", "(II)I"⟩, 21) := ⟨⟨by decide +kernel, by decide +kernel⟩, List.mem_of_getElem? (i := 557) (by decide +kernel), List.mem_of_getElem? (i := 671) (by decide +kernel), List.mem_of_getElem? (i := 672) (by decide +kernel)⟩
theorem lw_p25 : lw_okq (⟨"RescueDeskModel", "findBad", "()I"⟩, 21) := ⟨⟨by decide +kernel, by decide +kernel⟩, List.mem_of_getElem? (i := 557) (by decide +kernel), List.mem_of_getElem? (i := 675) (by decide +kernel), List.mem_of_getElem? (i := 676) (by decide +kernel)⟩
theorem lw_p26 : lw_okq (⟨"RescueDeskModel", "work", "()V"⟩, 21) := ⟨⟨by decide +kernel, by decide +kernel⟩, List.mem_of_getElem? (i := 557) (by decide +kernel), List.mem_of_getElem? (i := 679) (by decide +kernel), List.mem_of_getElem? (i := 680) (by decide +kernel)⟩
theorem lw_p27 : lw_okq (⟨"RescueDeskModel", "reading", "()Z"⟩, 21) := ⟨⟨by decide +kernel, by decide +kernel⟩, List.mem_of_getElem? (i := 557) (by decide +kernel), List.mem_of_getElem? (i := 683) (by decide +kernel), List.mem_of_getElem? (i := 684) (by decide +kernel)⟩
theorem lw_p28 : lw_okq (⟨"RescueDeskModel", "mark", "(I)V"⟩, 21) := ⟨⟨by decide +kernel, by decide +kernel⟩, List.mem_of_getElem? (i := 557) (by decide +kernel), List.mem_of_getElem? (i := 687) (by decide +kernel), List.mem_of_getElem? (i := 688) (by decide +kernel)⟩
theorem lw_p29 : lw_okq (⟨"RescueDeskModel", "trimmed", "(Z)V"⟩, 21) := ⟨⟨by decide +kernel, by decide +kernel⟩, List.mem_of_getElem? (i := 557) (by decide +kernel), List.mem_of_getElem? (i := 691) (by decide +kernel), List.mem_of_getElem? (i := 692) (by decide +kernel)⟩
theorem lw_p30 : lw_okq (⟨"RescueDeskModel", "makeImage", "(I)V"⟩, 21) := ⟨⟨by decide +kernel, by decide +kernel⟩, List.mem_of_getElem? (i := 557) (by decide +kernel), List.mem_of_getElem? (i := 706) (by decide +kernel), List.mem_of_getElem? (i := 707) (by decide +kernel)⟩
theorem lw_p31 : lw_okq (⟨"RescueDeskModel", "put", "(I)V"⟩, 21) := ⟨⟨by decide +kernel, by decide +kernel⟩, List.mem_of_getElem? (i := 557) (by decide +kernel), List.mem_of_getElem? (i := 710) (by decide +kernel), List.mem_of_getElem? (i := 711) (by decide +kernel)⟩
def lw_privs_2 : List (MethodName × Nat) := [(⟨"RescueDesk$Saves", "isWhole", "(II)Z"⟩, 3), (⟨"RescueDesk$Saves", "hasRuns", "(III)Z"⟩, 3), (⟨"RescueDeskModel", "isSector", "(I)Z"⟩, 21), (⟨"RescueDeskModel", "enter", "(I)V"⟩, 21), (⟨"RescueDeskModel", "goesOn", "()Z"⟩, 21), (⟨"RescueDeskModel", "one", "()I"⟩, 21), (⟨"RescueDeskModel", "find", "()Z"⟩, 21), (⟨"RescueDeskModel", "firstIn", "(II)I"⟩, 21), (⟨"RescueDeskModel", "lastIn", "(II)I"⟩, 21), (⟨"RescueDeskModel", "findBad", "()I"⟩, 21), (⟨"RescueDeskModel", "work", "()V"⟩, 21), (⟨"RescueDeskModel", "reading", "()Z"⟩, 21), (⟨"RescueDeskModel", "mark", "(I)V"⟩, 21), (⟨"RescueDeskModel", "trimmed", "(Z)V"⟩, 21), (⟨"RescueDeskModel", "makeImage", "(I)V"⟩, 21), (⟨"RescueDeskModel", "put", "(I)V"⟩, 21)]
theorem lw_r2 : ∀ q ∈ lw_privs_2, lw_okq q := List.forall_mem_cons.mpr ⟨lw_p16, List.forall_mem_cons.mpr ⟨lw_p17, List.forall_mem_cons.mpr ⟨lw_p18, List.forall_mem_cons.mpr ⟨lw_p19, List.forall_mem_cons.mpr ⟨lw_p20, List.forall_mem_cons.mpr ⟨lw_p21, List.forall_mem_cons.mpr ⟨lw_p22, List.forall_mem_cons.mpr ⟨lw_p23, List.forall_mem_cons.mpr ⟨lw_p24, List.forall_mem_cons.mpr ⟨lw_p25, List.forall_mem_cons.mpr ⟨lw_p26, List.forall_mem_cons.mpr ⟨lw_p27, List.forall_mem_cons.mpr ⟨lw_p28, List.forall_mem_cons.mpr ⟨lw_p29, List.forall_mem_cons.mpr ⟨lw_p30, List.forall_mem_cons.mpr ⟨lw_p31, fun _ h => absurd h List.not_mem_nil⟩⟩⟩⟩⟩⟩⟩⟩⟩⟩⟩⟩⟩⟩⟩⟩
theorem lw_p32 : lw_okq (⟨"RescueDeskModel", "runs", "()I"⟩, 21) := ⟨⟨by decide +kernel, by decide +kernel⟩, List.mem_of_getElem? (i := 557) (by decide +kernel), List.mem_of_getElem? (i := 714) (by decide +kernel), List.mem_of_getElem? (i := 715) (by decide +kernel)⟩
theorem lw_p33 : lw_okq (⟨"RescueDeskModel", "endOf", "(I)I"⟩, 21) := ⟨⟨by decide +kernel, by decide +kernel⟩, List.mem_of_getElem? (i := 557) (by decide +kernel), List.mem_of_getElem? (i := 718) (by decide +kernel), List.mem_of_getElem? (i := 719) (by decide +kernel)⟩
theorem lw_p34 : lw_okq (⟨"RescueDeskModel", "write", "(I)V"⟩, 21) := ⟨⟨by decide +kernel, by decide +kernel⟩, List.mem_of_getElem? (i := 557) (by decide +kernel), List.mem_of_getElem? (i := 722) (by decide +kernel), List.mem_of_getElem? (i := 723) (by decide +kernel)⟩
theorem lw_p35 : lw_okq (⟨"RescueDeskModel", "isWhole", "(I)Z"⟩, 21) := ⟨⟨by decide +kernel, by decide +kernel⟩, List.mem_of_getElem? (i := 557) (by decide +kernel), List.mem_of_getElem? (i := 734) (by decide +kernel), List.mem_of_getElem? (i := 735) (by decide +kernel)⟩
theorem lw_p36 : lw_okq (⟨"RescueDeskModel", "at", "(II)I"⟩, 21) := ⟨⟨by decide +kernel, by decide +kernel⟩, List.mem_of_getElem? (i := 557) (by decide +kernel), List.mem_of_getElem? (i := 738) (by decide +kernel), List.mem_of_getElem? (i := 739) (by decide +kernel)⟩
def lw_privs_3 : List (MethodName × Nat) := [(⟨"RescueDeskModel", "runs", "()I"⟩, 21), (⟨"RescueDeskModel", "endOf", "(I)I"⟩, 21), (⟨"RescueDeskModel", "write", "(I)V"⟩, 21), (⟨"RescueDeskModel", "isWhole", "(I)Z"⟩, 21), (⟨"RescueDeskModel", "at", "(II)I"⟩, 21)]
theorem lw_r3 : ∀ q ∈ lw_privs_3, lw_okq q := List.forall_mem_cons.mpr ⟨lw_p32, List.forall_mem_cons.mpr ⟨lw_p33, List.forall_mem_cons.mpr ⟨lw_p34, List.forall_mem_cons.mpr ⟨lw_p35, List.forall_mem_cons.mpr ⟨lw_p36, fun _ h => absurd h List.not_mem_nil⟩⟩⟩⟩⟩
def lw_privs : List (MethodName × Nat) := lw_privs_1 ++ (lw_privs_2 ++ (lw_privs_3))
def lw_tbl : List Cond := k2_sels lw_privs ++ tables_1
theorem lw_privs_ok : ∀ q ∈ lw_privs, lw_okq q := by
  show ∀ q ∈ lw_privs_1 ++ (lw_privs_2 ++ (lw_privs_3)), lw_okq q
  exact List.forall_mem_append.mpr ⟨lw_r1, List.forall_mem_append.mpr ⟨lw_r2, lw_r3⟩⟩
end
section
/-! ===== BEGIN words of one list among another's, by their places ===== -/
theorem goodIn_r {big : List Cond} (ws : List Cond) (ps : List Nat) (hp : ws = ps.filterMap (fun i => big[i]?)) (h : ws.all goodWord = true) : GoodIn big ws := by
  intro w hw
  have h1 := List.all_eq_true.mp h w hw
  rw [hp] at hw
  obtain ⟨i, -, hi⟩ := List.mem_filterMap.mp hw
  have hm : w ∈ big := by first | exact List.mem_of_getElem? hi | exact List.getElem?_mem hi
  exact ⟨hm, good_of_word h1⟩
theorem goodIn_app {big a b : List Cond} (ha : GoodIn big a) (hb : GoodIn big b) : GoodIn big (a ++ b) := fun w h => (List.mem_append.mp h).elim (ha w) (hb w)
theorem goodIn_ca {big a b : List Cond} {c : Cond} (ha : GoodIn big (c :: a)) (hb : GoodIn big b) : GoodIn big (c :: (a ++ b)) := fun w h => (List.mem_cons.mp h).elim (fun e => ha w (List.mem_cons.mpr (Or.inl e))) (fun h => (List.mem_append.mp h).elim (fun h => ha w (List.mem_cons.mpr (Or.inr h))) (hb w))
theorem goodIn_sub {big ws : List Cond} (hm : ∀ w ∈ ws, w ∈ big) (h : ws.all goodWord = true) : GoodIn big ws := fun w hw => ⟨hm w hw, good_of_word (List.all_eq_true.mp h w hw)⟩
/-! ===== END ===== -/

/-! ===== BEGIN exceptions that leave a method, and their catching by the caller (launches without stack traces) ===== -/
section VXA
/-! The laws vx_back, vx_callV, vx_callS, vx_callSW, vx_throw0, vx_throwS follow proofs of the library, with one case more: JvmDerived/Free/Laws.lean (Back.of_free), Shelf42/LK1.lean (callV, callS), Shelf/KitTraced.lean (throwNew0V, throwNewS). -/
/-- where a method has thrown q: the class by its name, the cell, what was written, the world -/
def vx_T (XC : String → State → State → Prop) (st : State) (q : Addr) (t : State) (mc ms : Nat) (free : Addr → Prop) : Prop :=
  ∃ (E : String) (ce : Cell) (L : List Loc), XC E st t ∧ t.heap[q]? = some ce ∧ ce.vm = .none ∧ st.vm.findClass E = some ce.cls ∧ st.WarmedH t.vm ∧ st.sameButNew ({ t with vm := st.vm } : State) L mc ms ∧ ∀ z ∈ L, free z.base
def vx_Q (Qc : Array Value → State → Outcome → State → Prop) (XC : String → State → State → Prop) (mc ms : Nat) (free : Addr → Prop) : Array Value → State → Outcome → State → Prop := fun a st o t =>
  (Qc a st o t ∧ ∃ L, FrameEnd st o t L mc ms ∧ ∀ q ∈ L, free q.base) ∨ ∃ q, o = .threw q ∧ vx_T XC st q t mc ms free
/-- a callee that returns or throws -/
def vx_Met (l : Launch) (y : MethodName) (ws : List Cond) (rm : Room) (Pc : Array Value → State → Prop) (Qc : Array Value → State → Outcome → State → Prop) (XC : String → State → State → Prop) (mc ms : Nat) (free : Addr → Prop) : Prop :=
  MetFree l y (headSpec ws rm) Pc (fun _ _ _ _ _ => True) (vx_Q Qc XC mc ms free)
def vx_Post (XC : String → State → State → Prop) (mc ms : Nat) (free : Addr → Prop) : Pt → Array Value → Addr → Pt → Prop := fun A a q B =>
  ∃ (g : JFrame) (mk : MethodId) (t : State) (L : List Loc) (E : String) (ce : Cell), B.U.heap = t.heap ∧ B.U.vm = t.vm ∧ XC E (A.U.calling g mk a) t ∧ t.heap[q]? = some ce ∧ ce.vm = .none ∧ A.U.vm.findClass E = some ce.cls ∧ B.locs = A.locs ++ L ∧ (∀ z ∈ L, free z.base) ∧ B.cells = A.cells + mc ∧ B.slots = A.slots + ms
def vx_Back (l : Launch) (R : Room) (p : Program) (e : Env) (below : List Frame) (s : State) (sargs : Array Value) (y : MethodName) (len W9 : Nat)
    (Pre : Pt → Array Value → Prop) (Post : Pt → Array Value → Option Value → Pt → Prop) (PostX : Pt → Array Value → Addr → Pt → Prop) : Prop :=
  ∀ (m : MethodId) (meth : Method) (c : Code) (A : Pt) (g : JFrame) (ig : Instr) (mk : MethodId) (a : Array Value),
    Stand p l e R s m sargs below meth c A.U A.locs A.cells A.slots → g.method = m → g.locals.size = c.maxLocals → decode c.code g.pc = .ok (ig, len) →
    2 * g.monitorRoom + (g.stack.map fun v => v.category).sum ≤ W9 → A.U.methodNamed? y = some mk → Pre A a →
    (∃ (v : Option Value) (B : Pt), Stand p l e R s m sargs below meth c B.U B.locs B.cells B.slots ∧ Post A a v B ∧
      Steps p.tables e below (doInvoke e (A.U.setTop g) [] mk a).1 (B.U.setTop { g with pc := g.pc + len, stack := v.toList ++ g.stack })) ∨
    (∃ (q : Addr) (B : Pt), Stand p l e R s m sargs below meth c B.U B.locs B.cells B.slots ∧ PostX A a q B ∧
      Steps p.tables e below (doInvoke e (A.U.setTop g) [] mk a).1 ((B.U.setTop g).pushFrame (.throwing q)))
section Payer
variable {l : Launch} {R : Room} {p : Program} {e : Env} {below : List Frame} {s : State} {sargs : Array Value} {y : MethodName} {len W9 : Nat}
theorem vx_back {ws : List Cond} {rm : Room} {Pc : Array Value → State → Prop} {Qc : Array Value → State → Outcome → State → Prop} {XC : String → State → State → Prop} {mc ms : Nat} {free : Addr → Prop} {bytes : ByteArray} {maxL : Nat} {ret : Option FieldType}
    (hM : vx_Met l y ws rm Pc Qc XC mc ms free) (hblind : FrameBlind Pc) (hrc : rm.cells = mc) (hrs : rm.slots = ms)
    (hframes : rm.frames + 1 ≤ R.frames) (hlocals : W9 + (maxL + 11) + rm.locals ≤ R.locals)
    (hws : ∀ w ∈ ws, ∀ a' U, s.WarmedH U.vm → w.before a' U = true) (hcode : Cond.code y bytes maxL ret ∈ ws) (hinit : ∀ a' U, s.WarmedH U.vm → (Cond.initialized y.cls).before a' U = true) :
    vx_Back l R p e below s sargs y len W9 (PreOf R mc ms Pc) (PostOf Qc mc ms free) (vx_Post XC mc ms free) := by
  intro m meth c A g ig mk a X hg hsize hdg hW hn hp
  have h1 : (headSpec ws rm).pre.before a A.U = true := atoms_intro fun w hw => hws w hw _ _ X.warmed
  have h2 : (Cond.code y bytes maxL ret).before a A.U = true := hws _ hcode _ _ X.warmed
  have h3 : (Cond.initialized y.cls).before a A.U = true := hinit _ _ X.warmed
  have h4 : A.cells + (headSpec ws rm).room.cells ≤ R.cells := by rw [show (headSpec ws rm).room.cells = mc from hrc]; exact hp.1
  have h5 : A.slots + (headSpec ws rm).room.slots ≤ R.slots := by rw [show (headSpec ws rm).room.slots = ms from hrs]; exact hp.2.1
  have hPc : Pc a (A.U.calling g mk a) := hblind _ _ _ _ hp.2.2
  obtain ⟨U, Ls, c0, s0⟩ := A
  dsimp only [Pt.U, Pt.locs, Pt.cells, Pt.slots] at h1 h2 h3 h4 h5 X hn hPc ⊢
  obtain ⟨methY, cY, hmY, hcY, -, hlY, -, -, -, -⟩ := Cond.code_spec hn h2
  obtain ⟨kY, hkY, -⟩ := className_of_methodNamed hn
  have hinitY : kY.init = .initialized := Cond.initialized_spec (findClass_of_methodNamed hn) hkY h3
  have h : At U g.method c below := by rw [hg]; exact X.here
  have hlocals9 : W9 + (maxL + 11) + (headSpec ws rm).room.locals ≤ R.locals := hlocals
  have happ : (headSpec ws rm).appliesLoose y e.platform (U.calling g mk a) = true :=
    Spec.appliesLoose_calling (g := g) h hdg hn hkY hinitY
      (X.room_calling (g := g) (R' := (headSpec ws rm).room) hsize hmY hcY hframes (by rw [hlY]; omega) h4 h5) h1
  obtain ⟨mid, hmid⟩ := h.above
  have hfr : (U.setTop g).frames = (.java g :: mid) ++ below := by rw [State.frames_setTop' g h.top, hmid]; rfl
  obtain ⟨o, s₂, hsteps, -, hend, hq⟩ := Steps.callFree hM p X.admits X.cas X.clock (acts := []) hfr happ hPc trivial
  have hq' : vx_Q Qc XC mc ms free a (U.calling g mk a) o s₂ := hq
  rw [State.frames_setTop' g h.top] at hend
  obtain ⟨g₀, hg0⟩ := Option.isSome_iff_exists.mp h.top
  obtain ⟨r, hr⟩ := State.topJava?_eq_some.mp hg0
  have hr' : (({ U with heap := s₂.heap, slotsUsed := s₂.slotsUsed } : State).setVm s₂.vm).frames = .java g₀ :: r := hr
  rcases hq' with ⟨hqc, L, hfe, hL⟩ | ⟨q, rfl, E, ce, L, hx, hce, hcv, hcl, hW₂, hsm, hL⟩
  · obtain ⟨⟨v, rfl⟩, hW₂, e2, q2, q3, q4, q5, q6⟩ := id hfe
    have e3 : s₂ = ({ (U.calling g mk a).setFrames s₂.frames with heap := s₂.heap, slotsUsed := s₂.slotsUsed } : State).setVm s₂.vm := by
      have : s₂ = ({ s₂ with vm := (U.calling g mk a).vm } : State).setVm s₂.vm := rfl
      rw [e2] at this
      exact this
    obtain ⟨c₂, i₂, len₂, hc₂, hd₂, hf₂⟩ := hend
    have hW' : U.WarmedH s₂.vm := hW₂
    have hcc : c₂ = c := by
      have h1 : s₂.code? g.method = U.code? g.method := by
        rw [State.code?_eq, State.code?_eq, hW'.alike.method?]
      exact Option.some.inj (hc₂.symm.trans (h1.trans h.code))
    subst hcc
    have hlen : len₂ = len := by rw [hdg] at hd₂; cases hd₂; rfl
    subst hlen
    have hs₂ : s₂ = (({ U with heap := s₂.heap, slotsUsed := s₂.slotsUsed } : State).setVm s₂.vm).setTop { g with pc := g.pc + len₂, stack := v.toList ++ g.stack } := by
      refine e3.trans ?_
      rw [hf₂, State.calling_eq h.top, State.setFrames_setFrames, State.setTop_of_frames _ hr', hr]
      rfl
    have hsame : U.sameButNew ({ U with heap := s₂.heap, slotsUsed := s₂.slotsUsed } : State) L mc ms := by
      refine ⟨?_, q2, q3, q4, q5, q6⟩
      obtain ⟨t, ht, -⟩ := State.frames_cons hr
      show ({ U with heap := s₂.heap, slotsUsed := s₂.slotsUsed } : State) = { U.setFrames U.frames with heap := s₂.heap, slotsUsed := s₂.slotsUsed }
      rw [State.setFrames_self ht]
    subst hg
    refine Or.inl ⟨v, ⟨(({ U with heap := s₂.heap, slotsUsed := s₂.slotsUsed } : State).setVm s₂.vm), Ls ++ L, c0 + mc, s0 + ms⟩,
      ⟨X.admits, X.cas, X.clock, X.frames, X.room, X.hears, X.method, X.code, (X.here.setHeapUsed s₂.heap s₂.slotsUsed).setVm hW'.alike, X.tail, State.WarmedH.trans X.warmed hW', X.limits, X.bytes, X.same.trans (hsame.setVm s.vm)⟩,
      ⟨g, mk, s₂, L, rfl, rfl, hqc, rfl, hL, rfl, rfl⟩, ?_⟩
    show Steps p.tables e below _ ((({ U with heap := s₂.heap, slotsUsed := s₂.slotsUsed } : State).setVm s₂.vm).setTop { g with pc := g.pc + len₂, stack := v.toList ++ g.stack })
    rw [← hs₂]
    exact hsteps
  · obtain ⟨e2, q2, q3, q4, q5, q6⟩ := id hsm
    have e3 : s₂ = ({ (U.calling g mk a).setFrames s₂.frames with heap := s₂.heap, slotsUsed := s₂.slotsUsed } : State).setVm s₂.vm := by
      have : s₂ = ({ s₂ with vm := (U.calling g mk a).vm } : State).setVm s₂.vm := rfl
      rw [e2] at this
      exact this
    have hf₂ : s₂.frames = .throwing q :: .java g :: U.frames.tail := hend
    have hW' : U.WarmedH s₂.vm := hW₂
    have hs₂ : s₂ = ((({ U with heap := s₂.heap, slotsUsed := s₂.slotsUsed } : State).setVm s₂.vm).setTop g).pushFrame (.throwing q) := by
      refine e3.trans ?_
      rw [hf₂, State.calling_eq h.top, State.setFrames_setFrames, State.pushFrame, State.frames_setTop _ hr', State.setTop_of_frames _ hr', State.setFrames_setFrames, hr]
      rfl
    have hsame : U.sameButNew ({ U with heap := s₂.heap, slotsUsed := s₂.slotsUsed } : State) L mc ms := by
      refine ⟨?_, q2, q3, q4, q5, q6⟩
      obtain ⟨t, ht, -⟩ := State.frames_cons hr
      show ({ U with heap := s₂.heap, slotsUsed := s₂.slotsUsed } : State) = { U.setFrames U.frames with heap := s₂.heap, slotsUsed := s₂.slotsUsed }
      rw [State.setFrames_self ht]
    subst hg
    refine Or.inr ⟨q, ⟨(({ U with heap := s₂.heap, slotsUsed := s₂.slotsUsed } : State).setVm s₂.vm), Ls ++ L, c0 + mc, s0 + ms⟩,
      ⟨X.admits, X.cas, X.clock, X.frames, X.room, X.hears, X.method, X.code, (X.here.setHeapUsed s₂.heap s₂.slotsUsed).setVm hW'.alike, X.tail, State.WarmedH.trans X.warmed hW', X.limits, X.bytes, X.same.trans (hsame.setVm s.vm)⟩,
      ⟨g, mk, s₂, L, E, ce, rfl, rfl, hx, hce, hcv, hcl, rfl, hL, rfl, rfl⟩, ?_⟩
    show Steps p.tables e below _ (((({ U with heap := s₂.heap, slotsUsed := s₂.slotsUsed } : State).setVm s₂.vm).setTop g).pushFrame (.throwing q))
    rw [← hs₂]
    exact hsteps
end Payer
section Calls
variable {p : Program} {l : Launch} {e : Env} {R : Room} {s : State} {m : MethodId} {args : Array Value} {below : List Frame} {meth : Method} {c : Code} {T : State} {locs : List Loc} {cells slots : Nat}
theorem vx_callV (X : Stand p l e R s m args below meth c T locs cells slots) (hexec : p.tables.exec = Jvm.exec) {own C : String} {index : Nat} {y : MethodName} {bytes : ByteArray} {maxL : Nat} {ret : Option FieldType}
    (hown : s.vm.findClass own = some m.cls) (hlink : (Cond.methodLink own index y).before args s = true) (hinst : (Cond.instanceMethod y).before args s = true) (hsel : (Cond.selects C y y).before args s = true)
    (hcode : (Cond.code y bytes maxL ret).before args s = true) (hy : y.cls ≠ "java/lang/invoke/MethodHandle" ∧ y.cls ≠ "java/lang/invoke/VarHandle")
    {W9 : Nat} {Pre : Pt → Array Value → Prop} {Post : Pt → Array Value → Option Value → Pt → Prop} {PostX : Pt → Array Value → Addr → Pt → Prop} (hK : vx_Back l R p e below s args y 3 W9 Pre Post PostX)
    {b : Addr} {cellB : Cell} (hcell : T.heap[b]? = some cellB) (hobj : cellB.vm.isStatics = false) (hcls : s.vm.findClass C = some cellB.cls)
    {g : JFrame} (hg : g.method = m) (hsize : g.locals.size = c.maxLocals) {argsL rest : List Value} (hlen : ∀ sig, parseMethodDescriptor y.desc = some sig → argsL.length = sig.parameters.length)
    (hstack : g.stack = argsL.reverse ++ .ref b :: rest) (hW : 2 * g.monitorRoom + (rest.map fun v => v.category).sum ≤ W9) (hdg : decode c.code g.pc = .ok (.invokevirtual index, 3))
    (hpre : ∀ vm₁, s.WarmedH vm₁ → Pre ⟨T.setVm vm₁, locs, cells, slots⟩ (Value.ref b :: argsL).toArray) :
    (∃ (v : Option Value) (vm₁ : Vm) (B : Pt), s.WarmedH vm₁ ∧ Stand p l e R s m args below meth c B.U B.locs B.cells B.slots ∧ Post ⟨T.setVm vm₁, locs, cells, slots⟩ (Value.ref b :: argsL).toArray v B ∧
      ∀ target, Steps p.tables e below (B.U.setTop { g with pc := g.pc + 3, stack := v.toList ++ rest }) target → Steps p.tables e below (T.setTop g) target) ∨
    (∃ (q : Addr) (vm₁ : Vm) (B : Pt), s.WarmedH vm₁ ∧ Stand p l e R s m args below meth c B.U B.locs B.cells B.slots ∧ PostX ⟨T.setVm vm₁, locs, cells, slots⟩ (Value.ref b :: argsL).toArray q B ∧
      Steps p.tables e below (T.setTop g) ((B.U.setTop { g with stack := rest }).pushFrame (.throwing q))) := by
  obtain ⟨mk, methM, hnamed, hmethM, hstM, habM⟩ := Cond.instanceMethod_spec hinst
  obtain ⟨methM', cM, hmethM', -, -, -, -, -, -, hsigM⟩ := Cond.code_spec hnamed hcode
  cases hmethM.symm.trans hmethM'
  obtain ⟨c2, r2, m2, q1, q2, q3, q4, kP, hkP, hkPi⟩ := Cond.selects_spec hsel
  cases hcls.symm.trans q1
  cases (State.methodFound?_of_named hnamed hy).symm.trans q2
  cases hnamed.symm.trans q3
  have hselP : selectMethod e.platform s.vm cellB.cls mk = .method mk := by rw [Launch.admits_selectMethod X.admits]; exact q4
  obtain ⟨vm₁, X₁, hstep₁⟩ := X.invokevirtual hexec hown hlink hnamed hmethM hstM hkP hkPi hy (a := b) (cell := cellB) hcell
    (fun z h => by rw [h] at hobj; cases hobj) hselP hmethM habM hkP hkPi (g := g) hg (argsL := argsL) (rest := rest) (hlen _ hsigM) hstack hdg
  rcases hK m meth c ⟨T.setVm vm₁, locs, cells, slots⟩ { g with stack := rest } (.invokevirtual index) mk (Value.ref b :: argsL).toArray X₁ hg hsize hdg hW (X₁.named hnamed) (hpre vm₁ X₁.warmed) with ⟨v, B, X', hpost, hsteps⟩ | ⟨q, B, X', hpost, hsteps⟩
  · exact Or.inl ⟨v, vm₁, B, X₁.warmed, X', hpost, fun target h => hstep₁ _ fun acts => by rw [doInvoke_state]; exact hsteps.trans h⟩
  · exact Or.inr ⟨q, vm₁, B, X₁.warmed, X', hpost, hstep₁ _ fun acts => by rw [doInvoke_state]; exact hsteps⟩
theorem vx_callS (X : Stand p l e R s m args below meth c T locs cells slots) (hexec : p.tables.exec = Jvm.exec) {own : String} {index : Nat} {y : MethodName} {bytes : ByteArray} {maxL : Nat} {ret : Option FieldType}
    (hown : s.vm.findClass own = some m.cls) (hlink : (Cond.methodLink own index y).before args s = true) (hstat : (Cond.static y).before args s = true) (hinit : (Cond.initialized y.cls).before args s = true)
    (hcode : (Cond.code y bytes maxL ret).before args s = true) (hy : y.cls ≠ "java/lang/invoke/MethodHandle" ∧ y.cls ≠ "java/lang/invoke/VarHandle")
    {W9 : Nat} {Pre : Pt → Array Value → Prop} {Post : Pt → Array Value → Option Value → Pt → Prop} {PostX : Pt → Array Value → Addr → Pt → Prop} (hK : vx_Back l R p e below s args y 3 W9 Pre Post PostX)
    {g : JFrame} (hg : g.method = m) (hsize : g.locals.size = c.maxLocals) {argsL rest : List Value} (hlen : ∀ sig, parseMethodDescriptor y.desc = some sig → argsL.length = sig.parameters.length)
    (hstack : g.stack = argsL.reverse ++ rest) (hW : 2 * g.monitorRoom + (rest.map fun v => v.category).sum ≤ W9) (hdg : decode c.code g.pc = .ok (.invokestatic index, 3))
    (hpre : ∀ vm₁, s.WarmedH vm₁ → Pre ⟨T.setVm vm₁, locs, cells, slots⟩ argsL.toArray) :
    (∃ (v : Option Value) (vm₁ : Vm) (B : Pt), s.WarmedH vm₁ ∧ Stand p l e R s m args below meth c B.U B.locs B.cells B.slots ∧ Post ⟨T.setVm vm₁, locs, cells, slots⟩ argsL.toArray v B ∧
      ∀ target, Steps p.tables e below (B.U.setTop { g with pc := g.pc + 3, stack := v.toList ++ rest }) target → Steps p.tables e below (T.setTop g) target) ∨
    (∃ (q : Addr) (vm₁ : Vm) (B : Pt), s.WarmedH vm₁ ∧ Stand p l e R s m args below meth c B.U B.locs B.cells B.slots ∧ PostX ⟨T.setVm vm₁, locs, cells, slots⟩ argsL.toArray q B ∧
      Steps p.tables e below (T.setTop g) ((B.U.setTop { g with stack := rest }).pushFrame (.throwing q))) := by
  obtain ⟨mk, hnamed⟩ := Cond.code_named hcode
  obtain ⟨methM, cM, hmethM, -, -, -, -, -, -, hsigM⟩ := Cond.code_spec hnamed hcode
  have hstatic : methM.isStatic = true := Cond.static_spec hnamed hmethM hstat
  obtain ⟨kP, hkP, -⟩ := className_of_methodNamed hnamed
  have hinitP : kP.init = .initialized := Cond.initialized_spec (findClass_of_methodNamed hnamed) hkP hinit
  obtain ⟨vm₁, X₁, hstep₁⟩ := X.invokestatic hexec hown hlink hnamed hmethM hstatic hkP hinitP hy (g := g) hg (argsL := argsL) (rest := rest) (hlen _ hsigM) hstack hdg
  rcases hK m meth c ⟨T.setVm vm₁, locs, cells, slots⟩ { g with stack := rest } (.invokestatic index) mk argsL.toArray X₁ hg hsize hdg hW (X₁.named hnamed) (hpre vm₁ X₁.warmed) with ⟨v, B, X', hpost, hsteps⟩ | ⟨q, B, X', hpost, hsteps⟩
  · exact Or.inl ⟨v, vm₁, B, X₁.warmed, X', hpost, fun target h => hstep₁ _ fun acts => by rw [doInvoke_state]; exact hsteps.trans h⟩
  · exact Or.inr ⟨q, vm₁, B, X₁.warmed, X', hpost, hstep₁ _ fun acts => by rw [doInvoke_state]; exact hsteps⟩
end Calls
theorem vx_cls {s : State} {T : State} {vm₁ : Vm} {E : String} {k : ClassId} (hW : s.WarmedH vm₁) (h : (T.setVm vm₁).vm.findClass E = some k) : s.vm.findClass E = some k := by
  have h1 : vm₁.findClass E = some k := h
  rw [hW.alike.findClass] at h1
  exact h1
/-- the method's frame g, with q thrown over it -/
def vx_W (p : Program) (l : Launch) (e : Env) (R : Room) (s : State) (m : MethodId) (args : Array Value) (below : List Frame) (meth : Method) (c : Code) (H : Heap) (locs : List Loc) (cells slots : Nat) (Q : State → Prop) (g : JFrame) (q : Addr) : Prop :=
  ∀ T : State, T.heap = H → Stand p l e R s m args below meth c T locs cells slots → ∃ t, Steps p.tables e below ((T.setTop g).pushFrame (.throwing q)) t ∧ Q t
def vx_Run (p : Program) (l : Launch) (e : Env) (R : Room) (s : State) (m : MethodId) (args : Array Value) (below : List Frame) (meth : Method) (c : Code) (H : Heap) (locs : List Loc) (cells slots mc ms : Nat) (g : JFrame) (rest : List Value) (Qa : State → Outcome → State → Prop) (XC : String → State → State → Prop) (free : Addr → Prop) : Prop :=
  ∀ T : State, T.heap = H → Stand p l e R s m args below meth c T locs cells slots →
    (∃ (v : Option Value) (st₀ t T' : State) (L : List Loc), st₀.heap = H ∧ Stand p l e R s m args below meth c T' (locs ++ L) (cells + mc) (slots + ms) ∧ (∀ q ∈ L, free q.base) ∧ T'.heap = t.heap ∧ T'.vm = t.vm ∧ Qa st₀ (.returned v) t ∧
      Goes p e below T g T' { g with pc := g.pc + 3, stack := v.toList ++ rest }) ∨
    (∃ (q : Addr) (st₀ t T' : State) (L : List Loc) (E : String) (ce : Cell), st₀.heap = H ∧ Stand p l e R s m args below meth c T' (locs ++ L) (cells + mc) (slots + ms) ∧ (∀ z ∈ L, free z.base) ∧ T'.heap = t.heap ∧ T'.vm = t.vm ∧ XC E st₀ t ∧ t.heap[q]? = some ce ∧ ce.vm = .none ∧ s.vm.findClass E = some ce.cls ∧
      Steps p.tables e below (T.setTop g) ((T'.setTop { g with stack := rest }).pushFrame (.throwing q)))
def vx_X {S : Type} (px : S → Prop) (B : String → S → State → Prop) (A : Nat → Prop) : String → State → State → Prop := fun E st t => ∃ u : S, px u ∧ B E u t ∧ va_F A st t
section Runs
variable {p : Program} {l : Launch} {e : Env} {R : Room} {s : State} {m : MethodId} {args : Array Value} {below : List Frame} {meth : Method} {c : Code} {H : Heap} {locs : List Loc} {cells slots : Nat}
variable {y : MethodName} {bytes cc : ByteArray} {maxL nL mc ms n index : Nat} {ret : Option FieldType} {ws : List Cond} {rm : Room} {Pc : Array Value → State → Prop} {Qc : Array Value → State → Outcome → State → Prop} {XC : String → State → State → Prop} {free : Addr → Prop} {Ts : List Cond} {own C : String} {b : Addr} {As rest : List Value} {g : JFrame}
theorem vx_callBack (cb : CallB R s args own index y bytes maxL ret ws rm mc ms n) (hM : vx_Met l y ws rm Pc Qc XC mc ms free) (hbl : FrameBlind Pc) : vx_Back l R p e below s args y 3 8 (PreOf R mc ms Pc) (PostOf Qc mc ms free) (vx_Post XC mc ms free) := by
  obtain ⟨hrc, hrs, hfr, hlo, hws, hcw, -, hini, -⟩ := cb
  exact vx_back (bytes := bytes) (maxL := maxL) (ret := ret) hM hbl hrc hrs hfr hlo hws hcw (fun a' U hW => word_at hW (Or.inl (by first | rfl | simp [Cond.onTables, Cond.keeps, Cond.steady])) hini)
theorem vx_runV (S : CallFix p m c cc nL s args Ts own) (hM : vx_Met l y ws rm Pc Qc XC mc ms free) (cw : CallW R s args own C index y bytes maxL ret ws rm mc ms n) (hp : PreV s H C b Pc As)
    (hg : g.method = m) (hn : As.length = n) (hsize : g.locals.size = nL) (hstack : g.stack = As.reverse ++ .ref b :: rest) (hW : 2 * g.monitorRoom + (rest.map fun v => v.category).sum ≤ 8) (hdg : decode cc g.pc = .ok (.invokevirtual index, 3)) (hf : cells + mc ≤ R.cells ∧ slots + ms ≤ R.slots) :
    vx_Run p l e R s m args below meth c H locs cells slots mc ms g rest (Qc (Value.ref b :: As).toArray) XC free := by
  have hK : vx_Back l R p e below s args y 3 8 (PreOf R mc ms Pc) (PostOf Qc mc ms free) (vx_Post XC mc ms free) := vx_callBack cw.1 hM hp.1
  obtain ⟨⟨-, -, -, -, -, -, hcode, -, hy, hlen, hl⟩, hin, hse⟩ := cw
  obtain ⟨hx, hb, hml, ho, -⟩ := S
  obtain ⟨-, ⟨cellB, hcB, hoB, hclB⟩, hPc⟩ := hp
  intro T hT X
  rcases vx_callV X hx (C := C) (bytes := bytes) (maxL := maxL) (ret := ret) ho hl hin hse hcode hy hK (by rw [hT]; exact hcB) hoB hclB hg (hsize.trans hml.symm) (argsL := As) (rest := rest) (fun sig h => hn.trans (hlen sig h)) hstack hW (by rw [hb]; exact hdg)
    (fun vm₁ hW₁ => ⟨hf.1, hf.2, hPc (T.setVm vm₁) hT hW₁⟩) with ⟨v, vm₁, ⟨U', l2, c2, s2⟩, hW₁, X', ⟨g', mk, t, L, e1, e2, hq, h1, hL, h2, h3⟩, st⟩ | ⟨q, vm₁, ⟨U', l2, c2, s2⟩, hW₁, X', ⟨g', mk, t, L, E, ce, e1, e2, hq, hce, hcv, hcl, h1, hL, h2, h3⟩, st⟩
  · dsimp only [Pt.U, Pt.locs, Pt.cells, Pt.slots] at X' e1 e2 h1 h2 h3 st
    subst h1; subst h2; subst h3
    exact Or.inl ⟨v, (T.setVm vm₁).calling g' mk (Value.ref b :: As).toArray, t, U', L, hT, X', hL, e1, e2, hq, st⟩
  · dsimp only [Pt.U, Pt.locs, Pt.cells, Pt.slots] at X' e1 e2 h1 h2 h3 st hcl
    subst h1; subst h2; subst h3
    exact Or.inr ⟨q, (T.setVm vm₁).calling g' mk (Value.ref b :: As).toArray, t, U', L, E, ce, hT, X', hL, e1, e2, hq, hce, hcv, vx_cls hW₁ hcl, st⟩
theorem vx_runS (S : CallFix p m c cc nL s args Ts own) (hM : vx_Met l y ws rm Pc Qc XC mc ms free) (cw : CallB R s args own index y bytes maxL ret ws rm mc ms n ∧ (Cond.static y).before args s = true) (hp : PreS s H Pc As)
    (hg : g.method = m) (hn : As.length = n) (hsize : g.locals.size = nL) (hstack : g.stack = As.reverse ++ rest) (hW : 2 * g.monitorRoom + (rest.map fun v => v.category).sum ≤ 8) (hdg : decode cc g.pc = .ok (.invokestatic index, 3)) (hf : cells + mc ≤ R.cells ∧ slots + ms ≤ R.slots) :
    vx_Run p l e R s m args below meth c H locs cells slots mc ms g rest (Qc As.toArray) XC free := by
  have hK : vx_Back l R p e below s args y 3 8 (PreOf R mc ms Pc) (PostOf Qc mc ms free) (vx_Post XC mc ms free) := vx_callBack cw.1 hM hp.1
  obtain ⟨⟨-, -, -, -, -, -, hcode, hini, hy, hlen, hl⟩, hstt⟩ := cw
  obtain ⟨hx, hb, hml, ho, -⟩ := S
  intro T hT X
  rcases vx_callS X hx (bytes := bytes) (maxL := maxL) (ret := ret) ho hl hstt hini hcode hy hK hg (hsize.trans hml.symm) (argsL := As) (rest := rest) (fun sig h => hn.trans (hlen sig h)) hstack hW (by rw [hb]; exact hdg)
    (fun vm₁ hW₁ => ⟨hf.1, hf.2, hp.2 (T.setVm vm₁) hT hW₁⟩) with ⟨v, vm₁, ⟨U', l2, c2, s2⟩, hW₁, X', ⟨g', mk, t, L, e1, e2, hq, h1, hL, h2, h3⟩, st⟩ | ⟨q, vm₁, ⟨U', l2, c2, s2⟩, hW₁, X', ⟨g', mk, t, L, E, ce, e1, e2, hq, hce, hcv, hcl, h1, hL, h2, h3⟩, st⟩
  · dsimp only [Pt.U, Pt.locs, Pt.cells, Pt.slots] at X' e1 e2 h1 h2 h3 st
    subst h1; subst h2; subst h3
    exact Or.inl ⟨v, (T.setVm vm₁).calling g' mk As.toArray, t, U', L, hT, X', hL, e1, e2, hq, st⟩
  · dsimp only [Pt.U, Pt.locs, Pt.cells, Pt.slots] at X' e1 e2 h1 h2 h3 st hcl
    subst h1; subst h2; subst h3
    exact Or.inr ⟨q, (T.setVm vm₁).calling g' mk As.toArray, t, U', L, E, ce, hT, X', hL, e1, e2, hq, hce, hcv, vx_cls hW₁ hcl, st⟩
end Runs
section Rows
variable {p : Program} {l : Launch} {e : Env} {R : Room} {s : State} {m : MethodId} {args : Array Value} {below : List Frame} {meth : Method} {c : Code} {H : Heap} {locs : List Loc} {cells slots : Nat} {Q : State → Prop}
variable {mc ms : Nat} {free : Addr → Prop} {A0 A1 : Nat → Prop} {H0 : Heap} {a : Array Value} {pc : Nat} {ls : Array Slot} {st0 rest : List Value}
theorem vx_keep {st₀ t T' : State} {L : List Loc} (h0 : st₀.heap = H) (e1 : T'.heap = t.heap) (hS : va_S A0 H0 H locs) (hA : ∀ q, q < H.size → A1 q → A0 q) (hf : ∀ q, free q → A0 q) (hL : ∀ q ∈ L, free q.base) (hF : va_F A1 st₀ t) :
    H.size ≤ T'.heap.size ∧ (∀ q : Nat, q < H.size → ¬ A1 q → T'.heap[q]? = H[q]?) ∧ va_S A0 H0 T'.heap (locs ++ L) := by
  obtain ⟨hz, hk⟩ := hF
  rw [h0] at hz hk
  exact ⟨by rw [e1]; exact hz, fun q h1 h2 => by rw [e1]; exact hk q h1 h2,
    ⟨Nat.le_trans hS.1 (by rw [e1]; exact hz), fun q h1 h2 => by rw [e1, hk q (Nat.lt_of_lt_of_le h1 hS.1) (fun z => h2 (hA q (Nat.lt_of_lt_of_le h1 hS.1) z))]; exact hS.2.1 q h1 h2, fun q hq => by
      rcases List.mem_append.mp hq with h | h
      · exact hS.2.2 q h
      · exact hf _ (hL q h)⟩⟩
theorem vx_calli {S SX : Type} {post : Int32 → S → Prop} {px : SX → Prop} {B : S → State → Prop} {BX : String → SX → State → Prop} {AX : Nat → Prop} (hr : vx_Run p l e R s m args below meth c H locs cells slots mc ms (F0 m pc ls st0) rest (va_Qi post B A1 a) (vx_X px BX AX) free) (hS : va_S A0 H0 H locs) (hA : ∀ q, q < H.size → A1 q → A0 q) (hf : ∀ q, free q → A0 q) (hAX : ∀ q, q < H.size → AX q → A0 q)
    (kx : ∀ (E : String) (ce : Cell) (q9 : Addr) (u : SX) (t : State) (H1 : Heap) (locs1 : List Loc), t.heap = H1 → s.vm.Alike t.vm → px u → BX E u t → H.size ≤ H1.size → (∀ q : Nat, q < H.size → ¬ AX q → H1[q]? = H[q]?) → va_S A0 H0 H1 locs1 → H1[q9]? = some ce → ce.vm = .none → s.vm.findClass E = some ce.cls → vx_W p l e R s m args below meth c H1 locs1 (cells + mc) (slots + ms) Q (F0 m pc ls rest) q9)
    (kk : ∀ (r : Int32) (u : S) (t : State) (H1 : Heap) (locs1 : List Loc), t.heap = H1 → s.vm.Alike t.vm → post r u → B u t → H.size ≤ H1.size → (∀ q : Nat, q < H.size → ¬ A1 q → H1[q]? = H[q]?) → va_S A0 H0 H1 locs1 → W p l e R s m args below meth c H1 locs1 (cells + mc) (slots + ms) Q (F0 m (pc + 3) ls (.int r :: rest))) : W p l e R s m args below meth c H locs cells slots Q (F0 m pc ls st0) := by
  intro T hT X
  rcases hr T hT X with ⟨v, st₀, t, T', L, h0, X', hL, e1, e2, ⟨⟨r, u, hv, hp, hb⟩, hF⟩, st⟩ | ⟨q, st₀, t, T', L, E, ce, h0, X', hL, e1, e2, ⟨u, hp, hb, hF⟩, hce, hcv, hcl, st⟩
  · cases hv
    obtain ⟨k1, k2, k3⟩ := vx_keep h0 e1 hS hA hf hL hF
    obtain ⟨t2, a1, b1⟩ := kk r u t T'.heap (locs ++ L) e1.symm (by rw [← e2]; exact X'.warmed.alike) hp hb k1 k2 k3 T' rfl X'
    exact ⟨t2, st t2 a1, b1⟩
  · obtain ⟨k1, k2, k3⟩ := vx_keep h0 e1 hS hAX hf hL hF
    obtain ⟨t2, a1, b1⟩ := kx E ce q u t T'.heap (locs ++ L) e1.symm (by rw [← e2]; exact X'.warmed.alike) hp hb k1 k2 k3 (by rw [e1]; exact hce) hcv hcl T' rfl X'
    exact ⟨t2, st.trans a1, b1⟩
theorem vx_calll {S SX : Type} {post : Int64 → S → Prop} {px : SX → Prop} {B : S → State → Prop} {BX : String → SX → State → Prop} {AX : Nat → Prop} (hr : vx_Run p l e R s m args below meth c H locs cells slots mc ms (F0 m pc ls st0) rest (va_Ql post B A1 a) (vx_X px BX AX) free) (hS : va_S A0 H0 H locs) (hA : ∀ q, q < H.size → A1 q → A0 q) (hf : ∀ q, free q → A0 q) (hAX : ∀ q, q < H.size → AX q → A0 q)
    (kx : ∀ (E : String) (ce : Cell) (q9 : Addr) (u : SX) (t : State) (H1 : Heap) (locs1 : List Loc), t.heap = H1 → s.vm.Alike t.vm → px u → BX E u t → H.size ≤ H1.size → (∀ q : Nat, q < H.size → ¬ AX q → H1[q]? = H[q]?) → va_S A0 H0 H1 locs1 → H1[q9]? = some ce → ce.vm = .none → s.vm.findClass E = some ce.cls → vx_W p l e R s m args below meth c H1 locs1 (cells + mc) (slots + ms) Q (F0 m pc ls rest) q9)
    (kk : ∀ (r : Int64) (u : S) (t : State) (H1 : Heap) (locs1 : List Loc), t.heap = H1 → s.vm.Alike t.vm → post r u → B u t → H.size ≤ H1.size → (∀ q : Nat, q < H.size → ¬ A1 q → H1[q]? = H[q]?) → va_S A0 H0 H1 locs1 → W p l e R s m args below meth c H1 locs1 (cells + mc) (slots + ms) Q (F0 m (pc + 3) ls (.long r :: rest))) : W p l e R s m args below meth c H locs cells slots Q (F0 m pc ls st0) := by
  intro T hT X
  rcases hr T hT X with ⟨v, st₀, t, T', L, h0, X', hL, e1, e2, ⟨⟨r, u, hv, hp, hb⟩, hF⟩, st⟩ | ⟨q, st₀, t, T', L, E, ce, h0, X', hL, e1, e2, ⟨u, hp, hb, hF⟩, hce, hcv, hcl, st⟩
  · cases hv
    obtain ⟨k1, k2, k3⟩ := vx_keep h0 e1 hS hA hf hL hF
    obtain ⟨t2, a1, b1⟩ := kk r u t T'.heap (locs ++ L) e1.symm (by rw [← e2]; exact X'.warmed.alike) hp hb k1 k2 k3 T' rfl X'
    exact ⟨t2, st t2 a1, b1⟩
  · obtain ⟨k1, k2, k3⟩ := vx_keep h0 e1 hS hAX hf hL hF
    obtain ⟨t2, a1, b1⟩ := kx E ce q u t T'.heap (locs ++ L) e1.symm (by rw [← e2]; exact X'.warmed.alike) hp hb k1 k2 k3 (by rw [e1]; exact hce) hcv hcl T' rfl X'
    exact ⟨t2, st.trans a1, b1⟩
theorem vx_callf {S SX : Type} {post : UInt32 → S → Prop} {px : SX → Prop} {B : S → State → Prop} {BX : String → SX → State → Prop} {AX : Nat → Prop} (hr : vx_Run p l e R s m args below meth c H locs cells slots mc ms (F0 m pc ls st0) rest (va_Qf post B A1 a) (vx_X px BX AX) free) (hS : va_S A0 H0 H locs) (hA : ∀ q, q < H.size → A1 q → A0 q) (hf : ∀ q, free q → A0 q) (hAX : ∀ q, q < H.size → AX q → A0 q)
    (kx : ∀ (E : String) (ce : Cell) (q9 : Addr) (u : SX) (t : State) (H1 : Heap) (locs1 : List Loc), t.heap = H1 → s.vm.Alike t.vm → px u → BX E u t → H.size ≤ H1.size → (∀ q : Nat, q < H.size → ¬ AX q → H1[q]? = H[q]?) → va_S A0 H0 H1 locs1 → H1[q9]? = some ce → ce.vm = .none → s.vm.findClass E = some ce.cls → vx_W p l e R s m args below meth c H1 locs1 (cells + mc) (slots + ms) Q (F0 m pc ls rest) q9)
    (kk : ∀ (r : UInt32) (u : S) (t : State) (H1 : Heap) (locs1 : List Loc), t.heap = H1 → s.vm.Alike t.vm → post r u → B u t → H.size ≤ H1.size → (∀ q : Nat, q < H.size → ¬ A1 q → H1[q]? = H[q]?) → va_S A0 H0 H1 locs1 → W p l e R s m args below meth c H1 locs1 (cells + mc) (slots + ms) Q (F0 m (pc + 3) ls (.float r :: rest))) : W p l e R s m args below meth c H locs cells slots Q (F0 m pc ls st0) := by
  intro T hT X
  rcases hr T hT X with ⟨v, st₀, t, T', L, h0, X', hL, e1, e2, ⟨⟨r, u, hv, hp, hb⟩, hF⟩, st⟩ | ⟨q, st₀, t, T', L, E, ce, h0, X', hL, e1, e2, ⟨u, hp, hb, hF⟩, hce, hcv, hcl, st⟩
  · cases hv
    obtain ⟨k1, k2, k3⟩ := vx_keep h0 e1 hS hA hf hL hF
    obtain ⟨t2, a1, b1⟩ := kk r u t T'.heap (locs ++ L) e1.symm (by rw [← e2]; exact X'.warmed.alike) hp hb k1 k2 k3 T' rfl X'
    exact ⟨t2, st t2 a1, b1⟩
  · obtain ⟨k1, k2, k3⟩ := vx_keep h0 e1 hS hAX hf hL hF
    obtain ⟨t2, a1, b1⟩ := kx E ce q u t T'.heap (locs ++ L) e1.symm (by rw [← e2]; exact X'.warmed.alike) hp hb k1 k2 k3 (by rw [e1]; exact hce) hcv hcl T' rfl X'
    exact ⟨t2, st.trans a1, b1⟩
theorem vx_calld {S SX : Type} {post : UInt64 → S → Prop} {px : SX → Prop} {B : S → State → Prop} {BX : String → SX → State → Prop} {AX : Nat → Prop} (hr : vx_Run p l e R s m args below meth c H locs cells slots mc ms (F0 m pc ls st0) rest (va_Qd post B A1 a) (vx_X px BX AX) free) (hS : va_S A0 H0 H locs) (hA : ∀ q, q < H.size → A1 q → A0 q) (hf : ∀ q, free q → A0 q) (hAX : ∀ q, q < H.size → AX q → A0 q)
    (kx : ∀ (E : String) (ce : Cell) (q9 : Addr) (u : SX) (t : State) (H1 : Heap) (locs1 : List Loc), t.heap = H1 → s.vm.Alike t.vm → px u → BX E u t → H.size ≤ H1.size → (∀ q : Nat, q < H.size → ¬ AX q → H1[q]? = H[q]?) → va_S A0 H0 H1 locs1 → H1[q9]? = some ce → ce.vm = .none → s.vm.findClass E = some ce.cls → vx_W p l e R s m args below meth c H1 locs1 (cells + mc) (slots + ms) Q (F0 m pc ls rest) q9)
    (kk : ∀ (r : UInt64) (u : S) (t : State) (H1 : Heap) (locs1 : List Loc), t.heap = H1 → s.vm.Alike t.vm → post r u → B u t → H.size ≤ H1.size → (∀ q : Nat, q < H.size → ¬ A1 q → H1[q]? = H[q]?) → va_S A0 H0 H1 locs1 → W p l e R s m args below meth c H1 locs1 (cells + mc) (slots + ms) Q (F0 m (pc + 3) ls (.double r :: rest))) : W p l e R s m args below meth c H locs cells slots Q (F0 m pc ls st0) := by
  intro T hT X
  rcases hr T hT X with ⟨v, st₀, t, T', L, h0, X', hL, e1, e2, ⟨⟨r, u, hv, hp, hb⟩, hF⟩, st⟩ | ⟨q, st₀, t, T', L, E, ce, h0, X', hL, e1, e2, ⟨u, hp, hb, hF⟩, hce, hcv, hcl, st⟩
  · cases hv
    obtain ⟨k1, k2, k3⟩ := vx_keep h0 e1 hS hA hf hL hF
    obtain ⟨t2, a1, b1⟩ := kk r u t T'.heap (locs ++ L) e1.symm (by rw [← e2]; exact X'.warmed.alike) hp hb k1 k2 k3 T' rfl X'
    exact ⟨t2, st t2 a1, b1⟩
  · obtain ⟨k1, k2, k3⟩ := vx_keep h0 e1 hS hAX hf hL hF
    obtain ⟨t2, a1, b1⟩ := kx E ce q u t T'.heap (locs ++ L) e1.symm (by rw [← e2]; exact X'.warmed.alike) hp hb k1 k2 k3 (by rw [e1]; exact hce) hcv hcl T' rfl X'
    exact ⟨t2, st.trans a1, b1⟩
theorem vx_callv {S SX : Type} {post : S → Prop} {px : SX → Prop} {B : S → State → Prop} {BX : String → SX → State → Prop} {AX : Nat → Prop} (hr : vx_Run p l e R s m args below meth c H locs cells slots mc ms (F0 m pc ls st0) rest (va_Qv post B A1 a) (vx_X px BX AX) free) (hS : va_S A0 H0 H locs) (hA : ∀ q, q < H.size → A1 q → A0 q) (hf : ∀ q, free q → A0 q) (hAX : ∀ q, q < H.size → AX q → A0 q)
    (kx : ∀ (E : String) (ce : Cell) (q9 : Addr) (u : SX) (t : State) (H1 : Heap) (locs1 : List Loc), t.heap = H1 → s.vm.Alike t.vm → px u → BX E u t → H.size ≤ H1.size → (∀ q : Nat, q < H.size → ¬ AX q → H1[q]? = H[q]?) → va_S A0 H0 H1 locs1 → H1[q9]? = some ce → ce.vm = .none → s.vm.findClass E = some ce.cls → vx_W p l e R s m args below meth c H1 locs1 (cells + mc) (slots + ms) Q (F0 m pc ls rest) q9)
    (kk : ∀ (u : S) (t : State) (H1 : Heap) (locs1 : List Loc), t.heap = H1 → s.vm.Alike t.vm → post u → B u t → H.size ≤ H1.size → (∀ q : Nat, q < H.size → ¬ A1 q → H1[q]? = H[q]?) → va_S A0 H0 H1 locs1 → W p l e R s m args below meth c H1 locs1 (cells + mc) (slots + ms) Q (F0 m (pc + 3) ls (rest))) : W p l e R s m args below meth c H locs cells slots Q (F0 m pc ls st0) := by
  intro T hT X
  rcases hr T hT X with ⟨v, st₀, t, T', L, h0, X', hL, e1, e2, ⟨⟨u, hv, hp, hb⟩, hF⟩, st⟩ | ⟨q, st₀, t, T', L, E, ce, h0, X', hL, e1, e2, ⟨u, hp, hb, hF⟩, hce, hcv, hcl, st⟩
  · cases hv
    obtain ⟨k1, k2, k3⟩ := vx_keep h0 e1 hS hA hf hL hF
    obtain ⟨t2, a1, b1⟩ := kk u t T'.heap (locs ++ L) e1.symm (by rw [← e2]; exact X'.warmed.alike) hp hb k1 k2 k3 T' rfl X'
    exact ⟨t2, st t2 a1, b1⟩
  · obtain ⟨k1, k2, k3⟩ := vx_keep h0 e1 hS hAX hf hL hF
    obtain ⟨t2, a1, b1⟩ := kx E ce q u t T'.heap (locs ++ L) e1.symm (by rw [← e2]; exact X'.warmed.alike) hp hb k1 k2 k3 (by rw [e1]; exact hce) hcv hcl T' rfl X'
    exact ⟨t2, st.trans a1, b1⟩
/-- caught by the row x of this method's table; the rows ahead don't take it -/
theorem vx_catch {own name : String} {E : String} {ce : Cell} {q : Addr} (hown : s.vm.findClass own = some m.cls) (pre : List ExceptionTableEntry) (x : ExceptionTableEntry) (suf : List ExceptionTableEntry) (hsplit : c.exceptionTable.toList = pre ++ x :: suf)
    (hpass : ∀ z ∈ pre, covers z pc = false ∨ (z.catchType ≠ 0 ∧ ∃ nm : String, (Cond.classLink own z.catchType nm).before args s = true ∧ va_Nc E nm s)) (hx : covers x pc = true) (h0 : x.catchType ≠ 0)
    (hlink : (Cond.classLink own x.catchType name).before args s = true) (hcast : (Cond.castable E name).before args s = true) (hcell : H[q]? = some ce) (hv : ce.vm = .none) (hcl : s.vm.findClass E = some ce.cls)
    (kk : W p l e R s m args below meth c H locs cells slots Q (F0 m x.handlerPc ls [.ref q])) : vx_W p l e R s m args below meth c H locs cells slots Q (F0 m pc ls rest) q := by
  intro T hT X
  have hpl : e.platform.magicAccessors = ({} : Platform).magicAccessors := by rw [X.admits.platform]
  obtain ⟨c3, c4, hc3, hc4, hasg⟩ := Cond.castable_spec hcast
  cases Option.some.inj (hc3.symm.trans hcl)
  obtain ⟨c5, hc5, hcl5⟩ := Cond.classLink_spec hown hlink e.platform hpl
  cases Option.some.inj (hc4.symm.trans hc5)
  obtain ⟨vm', X', st⟩ := X.thenCaughtThrough q (g := F0 m pc ls rest) rfl (Steps.refl _) (by rw [hT]; exact hcell) (by rw [hv]; rfl) (by obtain ⟨k9, h9, -⟩ := Vm.findClass_spec hcl; exact ⟨k9, h9⟩) pre x suf hsplit
    (fun z hz => by
      rcases hpass z hz with h | ⟨hz0, nm, hl1, hn1⟩
      · exact Or.inl h
      · obtain ⟨c6, hc6, hcl6⟩ := Cond.classLink_spec hown hl1 e.platform hpl
        obtain ⟨a8, b8, h1, h2, h3⟩ := hn1
        cases Option.some.inj (h1.symm.trans hcl)
        cases Option.some.inj (h2.symm.trans hc6)
        exact Or.inr ⟨hz0, _, hcl6, h3⟩) hx (Or.inr ⟨h0, c4, hcl5, hasg⟩)
  obtain ⟨t, a1, b1⟩ := kk (T.setVm vm') hT X'
  exact ⟨t, st.trans a1, b1⟩
end Rows
section Ends
variable {p : Program} {l : Launch} {e : Env} {R : Room} {s : State} {m : MethodId} {args : Array Value} {below : List Frame} {meth : Method} {c : Code} {H : Heap} {locs : List Loc} {cells slots : Nat} {Q : State → Prop}
variable {mc ms : Nat} {free : Addr → Prop} {A0 A1 : Nat → Prop} {H0 : Heap} {a : Array Value} {ls : Array Slot} {st0 rest : List Value}
variable {Qc : Array Value → State → Outcome → State → Prop} {XC : String → State → State → Prop}
/-- what a body that may throw owes at its end -/
def vx_MQ (below : List Frame) (Qc : Array Value → State → Outcome → State → Prop) (XC : String → State → State → Prop) (a : Array Value) (s : State) (mc ms : Nat) (free : Addr → Prop) : State → Prop := fun t =>
  ∃ o, t.status = .running ∧ Ended t below o ∧ vx_Q Qc XC mc ms free a s o t
theorem vx_ret {g : JFrame} {mc ms : Nat} (k : W p l e R s m args below meth c H locs cells slots (MQ below Qc args s mc ms free) g) : W p l e R s m args below meth c H locs cells slots (vx_MQ below Qc XC args s mc ms free) g := by
  intro T hT X
  obtain ⟨t, a1, o, b1, b2, b3, b4⟩ := k T hT X
  exact ⟨t, a1, o, b1, b2, Or.inl ⟨b3, b4⟩⟩
/-- not caught here: it goes on to the caller -/
theorem vx_widen {g : JFrame} {q : Addr} {k n : Nat} (h1 : cells ≤ k) (h2 : slots ≤ n) (kk : vx_W p l e R s m args below meth c H locs k n Q g q) : vx_W p l e R s m args below meth c H locs cells slots Q g q := fun T hT X => kk T hT (stand_widen X h1 h2)
theorem vx_out {pc : Nat} {E : String} {ce : Cell} {q : Addr} {mc ms : Nat} (hout : ∀ x ∈ c.exceptionTable.toList, covers x pc = false) (hlocks : meth.locks = false) (hcell : H[q]? = some ce) (hv : ce.vm = .none) (hcl : s.vm.findClass E = some ce.cls)
    (hx : ∀ t : State, t.heap = H → s.vm.Alike t.vm → XC E s t) (hf : ∀ z ∈ locs, free z.base) (hc : cells ≤ mc) (hs : slots ≤ ms) :
    vx_W p l e R s m args below meth c H locs cells slots (vx_MQ below Qc XC args s mc ms free) (F0 m pc ls rest) q := by
  intro T hT X
  obtain ⟨st1, hrun, hend, hW, hsm⟩ := X.leaveThrown q (g := F0 m pc ls rest) rfl rfl rfl hout hlocks
  have hcell9 : (T.setFrames (.throwing q :: below)).heap[q]? = some ce := by
    show T.heap[q]? = some ce
    rw [hT]; exact hcell
  exact ⟨_, st1, .threw q, hrun, hend, Or.inr ⟨q, rfl, E, ce, locs, hx _ hT hW.alike, hcell9, hv, hcl, hW, hsm.mono hc hs, hf⟩⟩
theorem vx_frame {U : State} {k n : Nat} (h : s.sameButNew ({ U with vm := s.vm } : State) locs k n) : s.heap.size ≤ U.heap.size ∧ ∀ q : Nat, q < s.heap.size → (∀ z ∈ locs, z.base ≠ q) → U.heap[q]? = s.heap[q]? := by
  obtain ⟨-, h2, -, -, -, h6⟩ := h
  refine ⟨h2, fun q hq hz => ?_⟩
  obtain ⟨c9, e1, e2, e3, e4⟩ := h6 q _ (Array.getElem?_eq_getElem hq)
  have hs : c9.slots = (s.heap[q]).slots := Array.ext_getElem? fun i => e4 i fun hm => hz _ hm rfl
  have h9 : c9 = s.heap[q] := by
    rw [hs] at e2
    exact e2
  have e5 : U.heap[q]? = some c9 := e1
  rw [e5, h9, Array.getElem?_eq_getElem hq]
/-- the words of a throw but the four that speak of the heap -/
def vx_no (w : Cond) : Bool := decide (w ≠ .isRef (.static Bundle.tN "UNASSIGNED_STACK" Bundle.steD)) && decide (w ≠ .isRef (.static Bundle.tN "SUPPRESSED_SENTINEL" Bundle.listD)) && decide (w ≠ .laysStatic Bundle.tN "UNASSIGNED_STACK" Bundle.steD) && decide (w ≠ .laysStatic Bundle.tN "SUPPRESSED_SENTINEL" Bundle.listD)
def vx_at0 (own : String) (ic : Nat) (X : String) (names : List String) : List Cond := (Bundle.ownAtoms0 own ic X names).filter vx_no
def vx_atS (own : String) (ic : Nat) (X : String) (names : List String) : List Cond := (Bundle.ownAtoms own ic X names).filter vx_no
/-- a word that the tables alone decide, or a good one -/
def vx_ot (w : Cond) : Bool := w.onTables || goodWord w
theorem vx_ot_at {args a' : Array Value} {s U : State} {w : Cond} (hW : s.WarmedH U.vm) (hvm : s.vm = U.vm) (hg : vx_ot w = true) (h : w.before args s = true) : w.before a' U = true := by
  simp only [vx_ot, Bool.or_eq_true] at hg
  rcases hg with hg | hg
  · exact va_tabs hg hvm h
  · exact word_at hW (good_of_word hg) h
/-- a list's words: the good ones out of the method's own list, the others by premises of their own -/
theorem vx_hat {args : Array Value} {s : State} {L B : List Cond} (h1 : ∀ w ∈ L.filter goodWord, w.before args s = true) (h2 : ∀ w ∈ L.filter (fun w => !goodWord w), w ∈ B) (h3 : ∀ w ∈ B, w.before args s = true) : ∀ w ∈ L, w.before args s = true := by
  intro w hw
  by_cases g : goodWord w = true
  · exact h1 w (List.mem_filter.mpr ⟨hw, g⟩)
  · refine h3 w (h2 w (List.mem_filter.mpr ⟨hw, ?_⟩))
    show (!goodWord w) = true
    cases hgw : goodWord w
    · rfl
    · exact absurd hgw g
theorem vx_c {args : Array Value} {s : State} {w : Cond} {B : List Cond} (h : w.before args s = true) (t : ∀ w ∈ B, w.before args s = true) : ∀ w' ∈ w :: B, w'.before args s = true := fun w' h' => (List.mem_cons.mp h').elim (fun e => by rw [e]; exact h) (t w')
theorem vx_n {args : Array Value} {s : State} : ∀ w ∈ ([] : List Cond), w.before args s = true := fun _ h => nomatch h
theorem vx_own {args : Array Value} {s : State} {L : List Cond} (h1 : ∀ w ∈ L.filter vx_no, w.before args s = true)
    (hU : (Cond.isRef (.static Bundle.tN "UNASSIGNED_STACK" Bundle.steD)).before args s = true) (hN : (Cond.isRef (.static Bundle.tN "SUPPRESSED_SENTINEL" Bundle.listD)).before args s = true)
    (lU : (Cond.laysStatic Bundle.tN "UNASSIGNED_STACK" Bundle.steD).before args s = true) (lN : (Cond.laysStatic Bundle.tN "SUPPRESSED_SENTINEL" Bundle.listD).before args s = true) : ∀ w ∈ L, w.before args s = true := by
  intro w hw
  by_cases e1 : w = .isRef (.static Bundle.tN "UNASSIGNED_STACK" Bundle.steD)
  · rw [e1]; exact hU
  · by_cases e2 : w = .isRef (.static Bundle.tN "SUPPRESSED_SENTINEL" Bundle.listD)
    · rw [e2]; exact hN
    · by_cases e3 : w = .laysStatic Bundle.tN "UNASSIGNED_STACK" Bundle.steD
      · rw [e3]; exact lU
      · by_cases e4 : w = .laysStatic Bundle.tN "SUPPRESSED_SENTINEL" Bundle.listD
        · rw [e4]; exact lN
        · exact h1 w (List.mem_filter.mpr ⟨hw, by unfold vx_no; rw [decide_eq_true e1, decide_eq_true e2, decide_eq_true e3, decide_eq_true e4]; rfl⟩)
/-- where a static field lies, its class's statics cell in H -/
def vx_L (C n d : String) (A : Nat → Prop) (U : State) (H : Heap) : Prop := ∃ (c : ClassId) (k : Class) (i : Nat) (f : Field) (a : Nat) (cell : Cell), U.vm.findClass C = some c ∧ U.fieldFound? C n d = some (c, k, i, f) ∧ f.isStatic = true ∧ k.statics = some a ∧ H[a]? = some cell ∧ cell.vm.isStatics = true ∧ cell.cls = c ∧ f.slot < cell.slots.size ∧ k.staticTypes[f.slot]? = some f.type ∧ ¬ A a
theorem vx_L.moved {C n d : String} {A : Nat → Prop} {u U : State} {H : Heap} (hvm : u.vm.Alike U.vm) (h : vx_L C n d A u H) : vx_L C n d A U H := by
  obtain ⟨c, k, i, f, a, cell, h1, h2, h3, h4, h5, h6, h7, h8, h9, h10⟩ := h
  obtain ⟨k', hi', he⟩ := State.fieldFound?_setVm hvm h2
  exact ⟨c, k', i, f, a, cell, by rw [hvm.findClass]; exact h1, hi', h3, by rw [he]; exact h4, h5, h6, h7, h8, by rw [he]; exact h9, h10⟩
theorem vx_L.kept {C n d : String} {A : Nat → Prop} {U : State} {H H1 : Heap} (h : vx_L C n d A U H) (hq : ∀ a : Nat, a < H.size → ¬ A a → H1[a]? = H[a]?) : vx_L C n d A U H1 := by
  obtain ⟨c, k, i, f, a, cell, h1, h2, h3, h4, h5, h6, h7, h8, h9, h10⟩ := h
  exact ⟨c, k, i, f, a, cell, h1, h2, h3, h4, by rw [hq a (Array.getElem?_eq_some_iff.mp h5).1 h10]; exact h5, h6, h7, h8, h9, h10⟩
theorem vx_L.narrow {C n d : String} {A B : Nat → Prop} {U : State} {H : Heap} (h : vx_L C n d A U H) (hAB : ∀ q, B q → A q) : vx_L C n d B U H := by
  obtain ⟨c, k, i, f, a, cell, h1, h2, h3, h4, h5, h6, h7, h8, h9, h10⟩ := h
  exact ⟨c, k, i, f, a, cell, h1, h2, h3, h4, h5, h6, h7, h8, h9, fun z => h10 (hAB _ z)⟩
theorem vx_L.word {C n d : String} {A : Nat → Prop} {s : State} {args : Array Value} (h : vx_L C n d A s s.heap) : (Cond.laysStatic C n d).before args s = true := by
  obtain ⟨c, k, i, f, a, cell, h1, h2, h3, h4, h5, h6, h7, h8, h9, -⟩ := h
  show (Cond.laysStatic C n d).holds args s none s [] = true
  exact Cond.laysStatic_of h1 h2 h3 h4 h5 h6 h7 h8 h9
/-- .. and what it holds: null or some reference -/
def vx_Zq (C n d : String) (A : Nat → Prop) (U : State) (H : Heap) : Prop := va_Zq C n d A U H ∧ vx_L C n d A U H
theorem vx_Zq.moved {C n d : String} {A : Nat → Prop} {u U : State} {H : Heap} (hvm : u.vm.Alike U.vm) (h : vx_Zq C n d A u H) : vx_Zq C n d A U H := ⟨va_Zq.moved hvm h.1, vx_L.moved hvm h.2⟩
theorem vx_Zq.kept {C n d : String} {A : Nat → Prop} {U : State} {H H1 : Heap} (h : vx_Zq C n d A U H) (hq : ∀ a : Nat, a < H.size → ¬ A a → H1[a]? = H[a]?) : vx_Zq C n d A U H1 := ⟨va_Zq.kept h.1 hq, vx_L.kept h.2 hq⟩
theorem vx_Zq.narrow {C n d : String} {A B : Nat → Prop} {U : State} {H : Heap} (h : vx_Zq C n d A U H) (hAB : ∀ q, B q → A q) : vx_Zq C n d B U H := ⟨va_Zq.narrow h.1 hAB, vx_L.narrow h.2 hAB⟩
theorem vx_Zqof {args : Array Value} {s : State} {C n d : String} {A : Nat → Prop} (hl : (Cond.laysStatic C n d).before args s = true) (hini : (Cond.initialized C).before args s = true) (h : (Cond.isRef (.static C n d)).before args s = true) (hA : ∀ a : Nat, a < s.heap.size → ¬ A a) : vx_Zq C n d A s s.heap := by
  refine ⟨va_Zqof hl hini h hA, ?_⟩
  obtain ⟨c, k, i, f, a, cell, h1, h2, h3, h4, h5, h6, h7, h8, h9⟩ := Cond.laysStatic_spec hl
  exact ⟨c, k, i, f, a, cell, h1, h2, h3, h4, h5, h6, h7, h8, h9, hA a (Array.getElem?_eq_some_iff.mp h5).1⟩
theorem vx_isRef {C n d : String} {v : Value} {A : Nat → Prop} {s : State} {args : Array Value} (h : va_Z C n d v A s s.heap) (hv : v.isRef = true) : (Cond.isRef (.static C n d)).before args s = true := by
  obtain ⟨cf, kf, fi, f, a, cell, h1, h2, h3, h4, h5, h6, h7, -⟩ := h
  have he : (Term.static C n d).eval args s none [] s = some v := by
    simp [Term.eval, State.fieldNamed?, h1, h2, h4, h5, h6, h7]
  simp only [Cond.before, Cond.holds, Cond.value, he]
  cases v <;> simp_all [Value.isRef]
theorem vx_isRefq {C n d : String} {A : Nat → Prop} {s : State} {args : Array Value} (h : va_Zq C n d A s s.heap) : (Cond.isRef (.static C n d)).before args s = true := by
  rcases h with h | ⟨t, h⟩
  · exact vx_isRef h rfl
  · exact vx_isRef h rfl
/-- the same frame, seen from here: as if the method were called anew in this heap -/
theorem vx_rebase {T : State} (X : Stand p l e R s m args below meth c T locs cells slots) {R' : Room} (hf : R'.frames ≤ R.frames) (hl : R'.locals ≤ R.locals) (hc : cells + R'.cells ≤ R.cells) (hs : slots + R'.slots ≤ R.slots) :
    Stand p l e R' ((T.setVm s.vm).setFrames (.invoking m args :: below)) m args below meth c T [] 0 0 := by
  have htop : (T.setVm s.vm).topJava?.isSome := X.here.top
  have hF : ((T.setVm s.vm).setFrames (.invoking m args :: below)).frames = .invoking m args :: below := State.frames_setFrames _ (State.cur_lt_of_top htop)
  obtain ⟨g₀, hg0⟩ := Option.isSome_iff_exists.mp htop
  obtain ⟨r, hr⟩ := State.topJava?_eq_some.mp hg0
  have hl9 : e.platform.stackLimits (T.setVm s.vm).me = e.platform.stackLimits s.me := X.limits
  have hb9 : (T.setVm s.vm).me.stackBytes = s.me.stackBytes := X.bytes
  refine ⟨X.admits, X.cas, X.clock, hF, ?_, X.hears, X.method, X.code, X.here, X.tail, X.warmed, ?_, ?_, ?_⟩
  · have h := X.room
    have hU : ((T.setVm s.vm).setFrames (.invoking m args :: below)).localsInUse = s.localsInUse := by
      rw [State.localsInUse_invoking hF (meth := meth) (c := c) X.method X.code, State.localsInUse_invoking X.frames X.method X.code]
    simp only [State.hasRoom, Bool.and_eq_true, decide_eq_true_eq] at h ⊢
    obtain ⟨⟨⟨⟨h1, h2, h3, h4, h5, h6⟩, h7⟩, h8⟩, h9⟩ := h
    rw [X.frames, List.length_cons] at h2 h3
    have q1 := X.heapSize
    have q2 := X.used
    simp only [hF, hU, List.length_cons, State.stackLimits_setFrames, State.stackBytes_setFrames, hl9, hb9]
    refine ⟨⟨⟨⟨by omega, by omega, by omega, by omega, by omega, h6⟩, ?_⟩, ?_⟩, X.book⟩
    · show T.heap.size + R'.cells ≤ e.platform.maxCells
      omega
    · show T.slotsUsed + R'.slots ≤ e.platform.maxSlots
      omega
  · rw [State.stackLimits_setFrames]; rfl
  · rw [State.stackBytes_setFrames]; rfl
  · refine ⟨?_, Nat.le_refl _, Nat.le_refl _, ?_, ?_, fun a c9 h9 => ⟨c9, h9, rfl, rfl, fun _ _ => rfl⟩⟩
    · obtain ⟨t, ht, -⟩ := State.frames_cons hr
      show T.setVm s.vm = { ((T.setVm s.vm).setFrames (.invoking m args :: below)).setFrames (T.setVm s.vm).frames with heap := T.heap, slotsUsed := T.slotsUsed }
      rw [State.setFrames_setFrames, State.setFrames_self ht]
      rfl
    · show T.slotsUsed = T.slotsUsed + ((T.heap.toList.drop T.heap.size).map (·.slots.size)).sum
      rw [List.drop_eq_nil_of_le (Nat.le_of_eq Array.length_toList)]
      rfl
    · show ((T.heap.toList.drop T.heap.size).map (·.slots.size)).sum ≤ 0
      rw [List.drop_eq_nil_of_le (Nat.le_of_eq Array.length_toList)]
      exact Nat.le_refl _
/-- 'throw new E()': new; dup; invokespecial; athrow -/
theorem vx_throw0 {cc : ByteArray} {pc : Nat} (hexec : p.tables.exec = Jvm.exec) (hb : c.code = cc) (hl : l.stackTraces = false) {own cls : String} {names : List String} {ik ic mc ms : Nat} {A : Nat → Prop}
    (hown : s.vm.findClass own = some m.cls) (hcls : Bundle.fit cls = true) (hnames : ∀ n ∈ names, Bundle.fit n = true)
    (hk : (Cond.classLink own ik cls).before args s = true) (hini : (Cond.initialized cls).before args s = true) (hat : ∀ w ∈ vx_at0 own ic cls names, w.before args s = true)
    (hgood : ∀ w ∈ Cond.classLink own ik cls :: Cond.initialized cls :: vx_at0 own ic cls names, vx_ot w = true)
    (hU : vx_Zq Bundle.tN "UNASSIGNED_STACK" Bundle.steD A s s.heap) (hN : vx_Zq Bundle.tN "SUPPRESSED_SENTINEL" Bundle.listD A s s.heap) (hS : va_S A s.heap H locs) (hsize : ls.size = c.maxLocals)
    (d0 : decode cc pc = .ok (.new ik, 3)) (d3 : decode cc (pc + 3) = .ok (.dup, 1)) (d4 : decode cc (pc + 4) = .ok (.invokespecial ic, 3)) (d7 : decode cc (pc + 7) = .ok (.athrow, 1))
    (hout : ∀ x ∈ c.exceptionTable.toList, covers x (pc + 7) = false)
    (hRframes : names.length + 3 < R.frames) (hRlocals : (rest.map fun v => v.category).sum + (13 * (names.length + 1) + 42) ≤ R.locals) (hRcells : cells + 1 ≤ R.cells) (hRslots : slots + 6 ≤ R.slots) (hlocks : meth.locks = false)
    (hx : ∀ t : State, s.vm.Alike t.vm → H.size ≤ t.heap.size → (∀ q : Nat, q < H.size → t.heap[q]? = H[q]?) → XC cls s t)
    (hf : ∀ z ∈ locs, free z.base) (hc : cells + 1 ≤ mc) (hs : slots + 6 ≤ ms) :
    W p l e R s m args below meth c H locs cells slots (vx_MQ below Qc XC args s mc ms free) (F0 m pc ls rest) := by
  intro T hT X
  have htr : e.platform.stackTraces = false := (show e.platform.stackTraces = l.stackTraces by rw [X.admits.platform]).trans hl
  have Y := vx_rebase X (R' := { frames := R.frames, locals := R.locals, cells := 1, slots := 6 }) (Nat.le_refl _) (Nat.le_refl _) hRcells hRslots
  obtain ⟨s', hA⟩ : ∃ z, z = (T.setVm s.vm).setFrames (.invoking m args :: below) := ⟨_, rfl⟩
  rw [← hA] at Y
  have hvm : s'.vm = s.vm := by rw [hA]; rfl
  have hhp : s'.heap = H := by rw [hA]; exact hT
  have hW0 : s.WarmedH s'.vm := by rw [hvm]; exact State.WarmedH.refl s
  have hat' : ∀ w ∈ vx_at0 own ic cls names, w.before args s' = true := fun w hw => vx_ot_at hW0 hvm.symm (hgood w (List.mem_cons_of_mem _ (List.mem_cons_of_mem _ hw))) (hat w hw)
  have hk' : (Cond.classLink own ik cls).before args s' = true := vx_ot_at hW0 hvm.symm (hgood _ List.mem_cons_self) hk
  have hini' : (Cond.initialized cls).before args s' = true := vx_ot_at hW0 hvm.symm (hgood _ (List.mem_cons_of_mem _ List.mem_cons_self)) hini
  have hU' : vx_Zq Bundle.tN "UNASSIGNED_STACK" Bundle.steD A s' s'.heap := by rw [hhp]; exact vx_Zq.moved hW0.alike (hU.kept hS.2.1)
  have hN' : vx_Zq Bundle.tN "SUPPRESSED_SENTINEL" Bundle.listD A s' s'.heap := by rw [hhp]; exact vx_Zq.moved hW0.alike (hN.kept hS.2.1)
  have h : ∀ w ∈ Bundle.ownAtoms0 own ic cls names, w.before args s' = true := vx_own hat' (vx_isRefq hU'.1) (vx_isRefq hN'.1) hU'.2.word hN'.2.word
  have hown' : s'.vm.findClass own = some m.cls := by rw [hvm]; exact hown
  have hins : (Cond.instantiable cls 6).before args s' = true := h _ (by simp [Bundle.ownAtoms0])
  obtain ⟨vm₁, cX, kX, hfX, hkX, -, -, X₁, st1⟩ := Y.newCold hexec (own := own) (C := cls) (index := ik) (n := 6) hown' hk' hins hini'
    (g := F0 m pc ls rest) rfl (by rw [hb]; exact d0) (Nat.le_refl _) (Nat.le_refl _)
  generalize hT1 : (T.setVm vm₁).pushCell { cls := cX, slots := kX.instanceTypes.map defaultValue, vm := .none } = T1 at X₁ st1
  have hcat : (Value.ref T.heap.size).category = 1 := rfl
  have hcellA : T1.heap[T.heap.size]? = some (freshCell cX kX) := by rw [← hT1]; exact State.heap_pushCell_size _ _
  have d3' : decode c.code (pc + 3) = .ok (.dup, 1) := by rw [hb]; exact d3
  obtain ⟨U, hsteps, hrun, hend, hW, hsame, ce, hce, hO⟩ := X₁.ctorThrow0 hexec htr (own := own) (cls := cls) (names := names) (ic := ic) hown' hcls hnames h (fun x hx => nomatch hx) hfX hkX hcellA (by rw [hhp, hT]; exact Nat.le_refl _)
    (g := { method := m, pc := pc + 4, locals := ls, stack := .ref T.heap.size :: .ref T.heap.size :: rest, locked := none }) rfl hsize rfl rfl (rest := rest) rfl
    (by rw [hb]; exact d4) (by rw [hb]; exact d7) hout hRframes (by simp only [List.map_cons, List.sum_cons, hcat]; omega) hlocks
  obtain ⟨f1, f2⟩ := vx_frame hsame
  rw [hhp] at f1 f2
  have hWs : s.WarmedH U.vm := State.WarmedH.trans hW0 hW
  have hcl : s.vm.findClass cls = some ce.cls := by
    have h9 := hO.cls
    rw [hvm] at h9
    exact h9
  have hall : s.sameButNew ({ U with vm := s.vm } : State) locs mc ms := by
    subst hA
    obtain ⟨e1, e2⟩ := hsame
    rw [State.setFrames_setFrames] at e1
    have h2 : (T.setVm s.vm).sameButNew ({ U with vm := s.vm } : State) [] (0 + 1) (0 + 6) := ⟨e1, e2⟩
    have h3 := X.same.trans h2
    rw [List.append_nil] at h3
    exact h3.mono hc hs
  refine ⟨U, ?_, .threw T.heap.size, hrun, hend, Or.inr ⟨T.heap.size, rfl, cls, ce, locs, hx U hWs.alike f1 (fun q hq => f2 q hq (fun z hz => nomatch hz)), hce, hO.vm, hcl, hWs, hall, hf⟩⟩
  refine st1 _ ?_
  show Steps p.tables e below (T1.setTop { method := m, pc := pc + 3, locals := ls, stack := .ref T.heap.size :: rest, locked := none }) _
  jvm_step X₁.here [X₁.here.top, hexec, d3', Value.category]
  exact hsteps
/-- 'throw new E("text")': new; dup; ldc; invokespecial; athrow -/
theorem vx_throwS {cc : ByteArray} {pc : Nat} (hexec : p.tables.exec = Jvm.exec) (hb : c.code = cc) (hl : l.stackTraces = false) {own cls text : String} {names : List String} {ik is ic mc ms sa : Nat} {A : Nat → Prop}
    (hown : s.vm.findClass own = some m.cls) (hcls : Bundle.fit cls = true) (hnames : ∀ n ∈ names, Bundle.fit n = true)
    (hk : (Cond.classLink own ik cls).before args s = true) (hini : (Cond.initialized cls).before args s = true) (hstr : vk_R own is text sa s) (hat : ∀ w ∈ vx_atS own ic cls names, w.before args s = true)
    (hgood : ∀ w ∈ Cond.classLink own ik cls :: Cond.initialized cls :: vx_atS own ic cls names, vx_ot w = true)
    (hU : vx_Zq Bundle.tN "UNASSIGNED_STACK" Bundle.steD A s s.heap) (hN : vx_Zq Bundle.tN "SUPPRESSED_SENTINEL" Bundle.listD A s s.heap) (hS : va_S A s.heap H locs) (hsize : ls.size = c.maxLocals)
    (d0 : decode cc pc = .ok (.new ik, 3)) (d3 : decode cc (pc + 3) = .ok (.dup, 1)) (d4 : decode cc (pc + 4) = .ok (.ldc is, 2)) (d6 : decode cc (pc + 6) = .ok (.invokespecial ic, 3)) (d9 : decode cc (pc + 9) = .ok (.athrow, 1))
    (hout : ∀ x ∈ c.exceptionTable.toList, covers x (pc + 9) = false)
    (hRframes : names.length + 3 < R.frames) (hRlocals : (rest.map fun v => v.category).sum + (13 * (names.length + 1) + 43) ≤ R.locals) (hRcells : cells + 1 ≤ R.cells) (hRslots : slots + 6 ≤ R.slots) (hlocks : meth.locks = false)
    (hx : ∀ t : State, s.vm.Alike t.vm → H.size ≤ t.heap.size → (∀ q : Nat, q < H.size → t.heap[q]? = H[q]?) → XC cls s t)
    (hf : ∀ z ∈ locs, free z.base) (hc : cells + 1 ≤ mc) (hs : slots + 6 ≤ ms) :
    W p l e R s m args below meth c H locs cells slots (vx_MQ below Qc XC args s mc ms free) (F0 m pc ls rest) := by
  intro T hT X
  have htr : e.platform.stackTraces = false := (show e.platform.stackTraces = l.stackTraces by rw [X.admits.platform]).trans hl
  have Y := vx_rebase X (R' := { frames := R.frames, locals := R.locals, cells := 1, slots := 6 }) (Nat.le_refl _) (Nat.le_refl _) hRcells hRslots
  obtain ⟨s', hA⟩ : ∃ z, z = (T.setVm s.vm).setFrames (.invoking m args :: below) := ⟨_, rfl⟩
  rw [← hA] at Y
  have hvm : s'.vm = s.vm := by rw [hA]; rfl
  have hhp : s'.heap = H := by rw [hA]; exact hT
  have hW0 : s.WarmedH s'.vm := by rw [hvm]; exact State.WarmedH.refl s
  have hat' : ∀ w ∈ vx_atS own ic cls names, w.before args s' = true := fun w hw => vx_ot_at hW0 hvm.symm (hgood w (List.mem_cons_of_mem _ (List.mem_cons_of_mem _ hw))) (hat w hw)
  have hk' : (Cond.classLink own ik cls).before args s' = true := vx_ot_at hW0 hvm.symm (hgood _ List.mem_cons_self) hk
  have hini' : (Cond.initialized cls).before args s' = true := vx_ot_at hW0 hvm.symm (hgood _ (List.mem_cons_of_mem _ List.mem_cons_self)) hini
  have hU' : vx_Zq Bundle.tN "UNASSIGNED_STACK" Bundle.steD A s' s'.heap := by rw [hhp]; exact vx_Zq.moved hW0.alike (hU.kept hS.2.1)
  have hN' : vx_Zq Bundle.tN "SUPPRESSED_SENTINEL" Bundle.listD A s' s'.heap := by rw [hhp]; exact vx_Zq.moved hW0.alike (hN.kept hS.2.1)
  have h : ∀ w ∈ Bundle.ownAtoms own ic cls names, w.before args s' = true := vx_own hat' (vx_isRefq hU'.1) (vx_isRefq hN'.1) hU'.2.word hN'.2.word
  have hown' : s'.vm.findClass own = some m.cls := by rw [hvm]; exact hown
  have hins : (Cond.instantiable cls 6).before args s' = true := h _ (by simp [Bundle.ownAtoms])
  obtain ⟨vm₁, cX, kX, hfX, hkX, -, -, X₁, st1⟩ := Y.newCold hexec (own := own) (C := cls) (index := ik) (n := 6) hown' hk' hins hini'
    (g := F0 m pc ls rest) rfl (by rw [hb]; exact d0) (Nat.le_refl _) (Nat.le_refl _)
  generalize hT1 : (T.setVm vm₁).pushCell { cls := cX, slots := kX.instanceTypes.map defaultValue, vm := .none } = T1 at X₁ st1
  have hcat : (Value.ref T.heap.size).category = 1 := rfl
  have hcellA : T1.heap[T.heap.size]? = some (freshCell cX kX) := by rw [← hT1]; exact State.heap_pushCell_size _ _
  have d3' : decode c.code (pc + 3) = .ok (.dup, 1) := by rw [hb]; exact d3
  have d4' : decode c.code (pc + 4) = .ok (.ldc is, 2) := by rw [hb]; exact d4
  have hstr' : vk_R own is text sa s' := vk_R.warm hW0 hstr
  obtain ⟨U, hsteps, hrun, hend, hW, hsame, ce, hce, hO⟩ := X₁.ctorThrowS hexec htr (own := own) (cls := cls) (names := names) (ic := ic) hown' hcls hnames h (fun x hx => nomatch hx) hfX hkX hcellA (by rw [hhp, hT]; exact Nat.le_refl _) (msg := .ref sa) rfl
    (g := { method := m, pc := pc + 6, locals := ls, stack := .ref sa :: .ref T.heap.size :: .ref T.heap.size :: rest, locked := none }) rfl hsize rfl rfl (rest := rest) rfl
    (by rw [hb]; exact d6) (by rw [hb]; exact d9) hout hRframes (by simp only [List.map_cons, List.sum_cons, hcat]; omega) hlocks
  obtain ⟨f1, f2⟩ := vx_frame hsame
  rw [hhp] at f1 f2
  have hWs : s.WarmedH U.vm := State.WarmedH.trans hW0 hW
  have hcl : s.vm.findClass cls = some ce.cls := by
    have h9 := hO.cls
    rw [hvm] at h9
    exact h9
  have hall : s.sameButNew ({ U with vm := s.vm } : State) locs mc ms := by
    subst hA
    obtain ⟨e1, e2⟩ := hsame
    rw [State.setFrames_setFrames] at e1
    have h2 : (T.setVm s.vm).sameButNew ({ U with vm := s.vm } : State) [] (0 + 1) (0 + 6) := ⟨e1, e2⟩
    have h3 := X.same.trans h2
    rw [List.append_nil] at h3
    exact h3.mono hc hs
  refine ⟨U, ?_, .threw T.heap.size, hrun, hend, Or.inr ⟨T.heap.size, rfl, cls, ce, locs, hx U hWs.alike f1 (fun q hq => f2 q hq (fun z hz => nomatch hz)), hce, hO.vm, hcl, hWs, hall, hf⟩⟩
  refine st1 _ ?_
  show Steps p.tables e below (T1.setTop { method := m, pc := pc + 3, locals := ls, stack := .ref T.heap.size :: rest, locked := none }) _
  jvm_step X₁.here [X₁.here.top, hexec, d3', Value.category]
  exact X₁.ldcString hexec (own := own) (text := text) (index := is) (a := sa) hown' hstr'.1 hstr'.2
    (g := { method := m, pc := pc + 4, locals := ls, stack := .ref T.heap.size :: .ref T.heap.size :: rest, locked := none }) rfl d4' _ hsteps
/-- 'throw new E("text")', the text by a wide index -/
theorem vx_throwSW {cc : ByteArray} {pc : Nat} (hexec : p.tables.exec = Jvm.exec) (hb : c.code = cc) (hl : l.stackTraces = false) {own cls text : String} {names : List String} {ik is ic mc ms sa : Nat} {A : Nat → Prop}
    (hown : s.vm.findClass own = some m.cls) (hcls : Bundle.fit cls = true) (hnames : ∀ n ∈ names, Bundle.fit n = true)
    (hk : (Cond.classLink own ik cls).before args s = true) (hini : (Cond.initialized cls).before args s = true) (hstr : vk_R own is text sa s) (hat : ∀ w ∈ vx_atS own ic cls names, w.before args s = true)
    (hgood : ∀ w ∈ Cond.classLink own ik cls :: Cond.initialized cls :: vx_atS own ic cls names, vx_ot w = true)
    (hU : vx_Zq Bundle.tN "UNASSIGNED_STACK" Bundle.steD A s s.heap) (hN : vx_Zq Bundle.tN "SUPPRESSED_SENTINEL" Bundle.listD A s s.heap) (hS : va_S A s.heap H locs) (hsize : ls.size = c.maxLocals)
    (d0 : decode cc pc = .ok (.new ik, 3)) (d3 : decode cc (pc + 3) = .ok (.dup, 1)) (d4 : decode cc (pc + 4) = .ok (.ldc_w is, 3)) (d7 : decode cc (pc + 7) = .ok (.invokespecial ic, 3)) (d10 : decode cc (pc + 10) = .ok (.athrow, 1))
    (hout : ∀ x ∈ c.exceptionTable.toList, covers x (pc + 10) = false)
    (hRframes : names.length + 3 < R.frames) (hRlocals : (rest.map fun v => v.category).sum + (13 * (names.length + 1) + 43) ≤ R.locals) (hRcells : cells + 1 ≤ R.cells) (hRslots : slots + 6 ≤ R.slots) (hlocks : meth.locks = false)
    (hx : ∀ t : State, s.vm.Alike t.vm → H.size ≤ t.heap.size → (∀ q : Nat, q < H.size → t.heap[q]? = H[q]?) → XC cls s t)
    (hf : ∀ z ∈ locs, free z.base) (hc : cells + 1 ≤ mc) (hs : slots + 6 ≤ ms) :
    W p l e R s m args below meth c H locs cells slots (vx_MQ below Qc XC args s mc ms free) (F0 m pc ls rest) := by
  intro T hT X
  have htr : e.platform.stackTraces = false := (show e.platform.stackTraces = l.stackTraces by rw [X.admits.platform]).trans hl
  have Y := vx_rebase X (R' := { frames := R.frames, locals := R.locals, cells := 1, slots := 6 }) (Nat.le_refl _) (Nat.le_refl _) hRcells hRslots
  obtain ⟨s', hA⟩ : ∃ z, z = (T.setVm s.vm).setFrames (.invoking m args :: below) := ⟨_, rfl⟩
  rw [← hA] at Y
  have hvm : s'.vm = s.vm := by rw [hA]; rfl
  have hhp : s'.heap = H := by rw [hA]; exact hT
  have hW0 : s.WarmedH s'.vm := by rw [hvm]; exact State.WarmedH.refl s
  have hat' : ∀ w ∈ vx_atS own ic cls names, w.before args s' = true := fun w hw => vx_ot_at hW0 hvm.symm (hgood w (List.mem_cons_of_mem _ (List.mem_cons_of_mem _ hw))) (hat w hw)
  have hk' : (Cond.classLink own ik cls).before args s' = true := vx_ot_at hW0 hvm.symm (hgood _ List.mem_cons_self) hk
  have hini' : (Cond.initialized cls).before args s' = true := vx_ot_at hW0 hvm.symm (hgood _ (List.mem_cons_of_mem _ List.mem_cons_self)) hini
  have hU' : vx_Zq Bundle.tN "UNASSIGNED_STACK" Bundle.steD A s' s'.heap := by rw [hhp]; exact vx_Zq.moved hW0.alike (hU.kept hS.2.1)
  have hN' : vx_Zq Bundle.tN "SUPPRESSED_SENTINEL" Bundle.listD A s' s'.heap := by rw [hhp]; exact vx_Zq.moved hW0.alike (hN.kept hS.2.1)
  have h : ∀ w ∈ Bundle.ownAtoms own ic cls names, w.before args s' = true := vx_own hat' (vx_isRefq hU'.1) (vx_isRefq hN'.1) hU'.2.word hN'.2.word
  have hown' : s'.vm.findClass own = some m.cls := by rw [hvm]; exact hown
  have hins : (Cond.instantiable cls 6).before args s' = true := h _ (by simp [Bundle.ownAtoms])
  obtain ⟨vm₁, cX, kX, hfX, hkX, -, -, X₁, st1⟩ := Y.newCold hexec (own := own) (C := cls) (index := ik) (n := 6) hown' hk' hins hini'
    (g := F0 m pc ls rest) rfl (by rw [hb]; exact d0) (Nat.le_refl _) (Nat.le_refl _)
  generalize hT1 : (T.setVm vm₁).pushCell { cls := cX, slots := kX.instanceTypes.map defaultValue, vm := .none } = T1 at X₁ st1
  have hcat : (Value.ref T.heap.size).category = 1 := rfl
  have hcellA : T1.heap[T.heap.size]? = some (freshCell cX kX) := by rw [← hT1]; exact State.heap_pushCell_size _ _
  have d3' : decode c.code (pc + 3) = .ok (.dup, 1) := by rw [hb]; exact d3
  have d4' : decode c.code (pc + 4) = .ok (.ldc_w is, 3) := by rw [hb]; exact d4
  have hstr' : vk_R own is text sa s' := vk_R.warm hW0 hstr
  obtain ⟨U, hsteps, hrun, hend, hW, hsame, ce, hce, hO⟩ := X₁.ctorThrowS hexec htr (own := own) (cls := cls) (names := names) (ic := ic) hown' hcls hnames h (fun x hx => nomatch hx) hfX hkX hcellA (by rw [hhp, hT]; exact Nat.le_refl _) (msg := .ref sa) rfl
    (g := { method := m, pc := pc + 7, locals := ls, stack := .ref sa :: .ref T.heap.size :: .ref T.heap.size :: rest, locked := none }) rfl hsize rfl rfl (rest := rest) rfl
    (by rw [hb]; exact d7) (by rw [hb]; exact d10) hout hRframes (by simp only [List.map_cons, List.sum_cons, hcat]; omega) hlocks
  obtain ⟨f1, f2⟩ := vx_frame hsame
  rw [hhp] at f1 f2
  have hWs : s.WarmedH U.vm := State.WarmedH.trans hW0 hW
  have hcl : s.vm.findClass cls = some ce.cls := by
    have h9 := hO.cls
    rw [hvm] at h9
    exact h9
  have hall : s.sameButNew ({ U with vm := s.vm } : State) locs mc ms := by
    subst hA
    obtain ⟨e1, e2⟩ := hsame
    rw [State.setFrames_setFrames] at e1
    have h2 : (T.setVm s.vm).sameButNew ({ U with vm := s.vm } : State) [] (0 + 1) (0 + 6) := ⟨e1, e2⟩
    have h3 := X.same.trans h2
    rw [List.append_nil] at h3
    exact h3.mono hc hs
  refine ⟨U, ?_, .threw T.heap.size, hrun, hend, Or.inr ⟨T.heap.size, rfl, cls, ce, locs, hx U hWs.alike f1 (fun q hq => f2 q hq (fun z hz => nomatch hz)), hce, hO.vm, hcl, hWs, hall, hf⟩⟩
  refine st1 _ ?_
  show Steps p.tables e below (T1.setTop { method := m, pc := pc + 3, locals := ls, stack := .ref T.heap.size :: rest, locked := none }) _
  jvm_step X₁.here [X₁.here.top, hexec, d3', Value.category]
  exact X₁.ldcStringW hexec (own := own) (text := text) (index := is) (a := sa) hown' hstr'.1 hstr'.2
    (g := { method := m, pc := pc + 4, locals := ls, stack := .ref T.heap.size :: .ref T.heap.size :: rest, locked := none }) rfl d4' _ hsteps
end Ends
section Bodies
variable {l : Launch}
theorem vx_ofW {y : MethodName} {ws ws' : List Cond} {rm : Room} {Pc : Array Value → State → Prop} {Qc : Array Value → State → Outcome → State → Prop} {XC : String → State → State → Prop} {mc ms : Nat} {free : Addr → Prop} {cc : ByteArray} {maxL : Nat} {ret : Option FieldType}
    (hy : plainName y.cls = true) (hw : ws = Cond.code y cc maxL ret :: ws')
    (body : ∀ p e s m args below meth c s₁, BodyLoose p l y (headSpec ws rm) cc maxL ret e s m args below meth c s₁ → c.maxLocals = maxL → (∀ x ∈ c.exceptionTable.toList, False) → Pc args s →
      W p l e (headSpec ws rm).room s m args below meth c s.heap [] 0 0 (vx_MQ below Qc XC args s mc ms free) (entryFrame m args maxL)) : vx_Met l y ws rm Pc Qc XC mc ms free := by
  refine MetFree.of_bodyS (code := cc) (maxLocals := maxL) (ret := ret) hy ?_ ?_
  · intro args s m h hn
    obtain ⟨meth, c, h1, h2, h3, h4, h5, h6, -, -⟩ := Cond.code_spec hn (atoms_spec (ws := ws) h _ (by rw [hw]; exact List.mem_cons_self))
    exact ⟨meth, c, h1, h2, h3, h4, h5, h6⟩
  · intro p e s m args below meth c s₁ B hml hP _
    have hh0 : s₁.heap = s.heap := by rw [B.state]; rfl
    have ht : ∀ x ∈ c.exceptionTable.toList, False := by
      obtain ⟨meth9, c9, h1, h2, -, -, -, -, h7, -⟩ := Cond.code_spec B.named (atoms_spec (ws := ws) B.pre _ (by rw [hw]; exact List.mem_cons_self))
      cases Option.some.inj (h1.symm.trans B.method)
      cases Option.some.inj (h2.symm.trans (Stand.of_body B).code)
      intro x hx
      rw [Array.isEmpty_iff.mp h7] at hx
      cases hx
    obtain ⟨t, a1, o, b1, b2, b3⟩ := body p e s m args below meth c s₁ B hml ht hP s₁ hh0 (Stand.of_body B)
    exact ⟨t, o, a1, b1, b2, b3⟩
/-- the table of a body with handlers -/
theorem vx_table {p : Program} {x y : MethodName} {S : Spec} {cc bytes : ByteArray} {maxL maxL' : Nat} {ret ret' : Option FieldType} {e : Env} {s s₁ : State} {m : MethodId} {args : Array Value} {below : List Frame} {meth : Method} {c : Code} {hh : List (Nat × Nat × Nat × Nat)}
    (B : BodyLoose p l y S cc maxL ret e s m args below meth c s₁) (h : (Cond.codeWith y bytes maxL' ret' hh).before args s = true) : c.exceptionTable.toList = tableOf hh := by
  obtain ⟨m9, meth9, c9, hn9, h1, h2, -, -, h6, -⟩ := Cond.codeWith_spec h
  cases Option.some.inj (hn9.symm.trans B.named)
  cases Option.some.inj (h1.symm.trans B.method)
  cases Option.some.inj (h2.symm.trans (Stand.of_body B).code)
  rw [← h6, table_eq]
end Bodies
end VXA
/-! ===== END ===== -/
/-! ===== BEGIN a static call of a method with an exception table ===== -/
section VXS
variable {p : Program} {l : Launch} {e : Env} {R : Room} {s : State} {m : MethodId} {args : Array Value} {below : List Frame} {meth : Method} {c : Code} {T : State} {H : Heap} {locs : List Loc} {cells slots : Nat}
abbrev vx_CSW (R : Room) (s : State) (args : Array Value) (own : String) (index : Nat) (y : MethodName) (bytes : ByteArray) (maxL : Nat) (ret : Option FieldType) (hh : List (Nat × Nat × Nat × Nat)) (ws : List Cond) (rm : Room) (mc ms n : Nat) : Prop :=
  (rm.cells = mc ∧ rm.slots = ms ∧ rm.frames + 1 ≤ R.frames ∧ 8 + (maxL + 11) + rm.locals ≤ R.locals ∧ (∀ w ∈ ws, ∀ (a' : Array Value) (U : State), s.WarmedH U.vm → w.before a' U = true) ∧ Cond.codeWith y bytes maxL ret hh ∈ ws) ∧
  (Cond.codeWith y bytes maxL ret hh).before args s = true ∧ (Cond.initialized y.cls).before args s = true ∧ (y.cls ≠ "java/lang/invoke/MethodHandle" ∧ y.cls ≠ "java/lang/invoke/VarHandle") ∧
  (∀ sig, parseMethodDescriptor y.desc = some sig → n = sig.parameters.length) ∧ (Cond.methodLink own index y).before args s = true ∧ (Cond.static y).before args s = true
theorem vx_cwSW {own : String} {index maxL mc ms : Nat} {y : MethodName} {bytes : ByteArray} {ret : Option FieldType} {hh : List (Nat × Nat × Nat × Nat)} {Ts ws ws' : List Cond} {rm : Room} (n : Nat) (ht : ∀ w ∈ Ts, w.before args s = true) (hT : GoodIn Ts (va_wsS own index y ws)) (hw : ws = Cond.codeWith y bytes maxL ret hh :: ws') (hrc : rm.cells = mc) (hrs : rm.slots = ms)
    (hd : y.cls ≠ "java/lang/invoke/MethodHandle" ∧ y.cls ≠ "java/lang/invoke/VarHandle" ∧ (parseMethodDescriptor y.desc).map (fun d => d.parameters.length) = some n) (hR : rm.frames + 1 ≤ R.frames ∧ 8 + (maxL + 11) + rm.locals ≤ R.locals) :
    vx_CSW R s args own index y bytes maxL ret hh ws rm mc ms n := by
  have ok : ∀ w ∈ va_wsS own index y ws, w.before args s = true := fun w h => ht w (hT w h).1
  have hG : GoodIn Ts ws := fun w h => hT w (by unfold va_wsS; exact List.mem_append_right _ h)
  have hc : Cond.codeWith y bytes maxL ret hh ∈ ws := by rw [hw]; exact List.mem_cons_self
  refine ⟨⟨hrc, hrs, hR.1, hR.2, pay_in ht hG, hc⟩, ht _ (hG _ hc).1, ok _ (by simp [va_wsS]), ⟨hd.1, hd.2.1⟩, fun sig h => ?_, ok _ (by simp [va_wsS]), ok _ (by simp [va_wsS])⟩
  have h2 := hd.2.2
  rw [h] at h2
  exact (Option.some.inj h2).symm
theorem vx_callSW (X : Stand p l e R s m args below meth c T locs cells slots) (hexec : p.tables.exec = Jvm.exec) {own : String} {index : Nat} {y : MethodName} {bytes : ByteArray} {maxL : Nat} {ret : Option FieldType} {hh : List (Nat × Nat × Nat × Nat)}
    (hown : s.vm.findClass own = some m.cls) (hlink : (Cond.methodLink own index y).before args s = true) (hstat : (Cond.static y).before args s = true) (hinit : (Cond.initialized y.cls).before args s = true)
    (hcode : (Cond.codeWith y bytes maxL ret hh).before args s = true) (hy : y.cls ≠ "java/lang/invoke/MethodHandle" ∧ y.cls ≠ "java/lang/invoke/VarHandle")
    {W9 : Nat} {Pre : Pt → Array Value → Prop} {Post : Pt → Array Value → Option Value → Pt → Prop} (hK : Back l R p e below s args y 3 W9 Pre Post)
    {g : JFrame} (hg : g.method = m) (hsize : g.locals.size = c.maxLocals) {argsL rest : List Value} (hlen : ∀ sig, parseMethodDescriptor y.desc = some sig → argsL.length = sig.parameters.length)
    (hstack : g.stack = argsL.reverse ++ rest) (hW : 2 * g.monitorRoom + (rest.map fun v => v.category).sum ≤ W9) (hdg : decode c.code g.pc = .ok (.invokestatic index, 3))
    (hpre : ∀ vm₁, s.WarmedH vm₁ → Pre ⟨T.setVm vm₁, locs, cells, slots⟩ argsL.toArray) :
    ∃ (v : Option Value) (vm₁ : Vm) (B : Pt), s.WarmedH vm₁ ∧ Stand p l e R s m args below meth c B.U B.locs B.cells B.slots ∧ Post ⟨T.setVm vm₁, locs, cells, slots⟩ argsL.toArray v B ∧
      ∀ target, Steps p.tables e below (B.U.setTop { g with pc := g.pc + 3, stack := v.toList ++ rest }) target → Steps p.tables e below (T.setTop g) target := by
  obtain ⟨mk, methM, cM, hnamed, hmethM, -, -, -, -, -, -, hsigM⟩ := Cond.codeWith_spec hcode
  have hstatic : methM.isStatic = true := Cond.static_spec hnamed hmethM hstat
  obtain ⟨kP, hkP, -⟩ := className_of_methodNamed hnamed
  have hinitP : kP.init = .initialized := Cond.initialized_spec (findClass_of_methodNamed hnamed) hkP hinit
  obtain ⟨vm₁, X₁, hstep₁⟩ := X.invokestatic hexec hown hlink hnamed hmethM hstatic hkP hinitP hy (g := g) hg (argsL := argsL) (rest := rest) (hlen _ hsigM) hstack hdg
  obtain ⟨v, B, X', hpost, hsteps⟩ := hK m meth c ⟨T.setVm vm₁, locs, cells, slots⟩ { g with stack := rest } (.invokestatic index) mk argsL.toArray X₁ hg hsize hdg hW (X₁.named hnamed) (hpre vm₁ X₁.warmed)
  exact ⟨v, vm₁, B, X₁.warmed, X', hpost, fun target h => hstep₁ _ fun acts => by rw [doInvoke_state]; exact hsteps.trans h⟩
theorem vx_runSW {y : MethodName} {bytes cc : ByteArray} {maxL nL mc ms n index : Nat} {ret : Option FieldType} {hh : List (Nat × Nat × Nat × Nat)} {ws : List Cond} {rm : Room} {Pc : Array Value → State → Prop} {Qc : Array Value → State → Outcome → State → Prop} {free : Addr → Prop} {Ts : List Cond} {own : String} {As rest : List Value} {g : JFrame}
    (S : CallFix p m c cc nL s args Ts own) (hM : Met l y ws rm Pc Qc mc ms free) (cw : vx_CSW R s args own index y bytes maxL ret hh ws rm mc ms n) (hp : PreS s H Pc As)
    (hg : g.method = m) (hn : As.length = n) (hsize : g.locals.size = nL) (hstack : g.stack = As.reverse ++ rest) (hW : 2 * g.monitorRoom + (rest.map fun v => v.category).sum ≤ 8) (hdg : decode cc g.pc = .ok (.invokestatic index, 3)) (hf : cells + mc ≤ R.cells ∧ slots + ms ≤ R.slots) :
    va_Run p l e R s m args below meth c H locs cells slots mc ms g rest (Qc As.toArray) (free) := by
  obtain ⟨⟨hrc, hrs, hfr, hlo, hws, hcw⟩, hcode, hini, hy, hlen, hl, hstt⟩ := cw
  have hK : Back l R p e below s args y 3 8 (PreOf R mc ms Pc) (PostOf Qc mc ms free) := va_backW (hh := hh) (bytes := bytes) (maxL := maxL) (ret := ret) hM hp.1 hrc hrs hfr hlo hws hcw (fun a' U hW => word_at hW (Or.inl (by first | rfl | simp [Cond.onTables, Cond.keeps, Cond.steady])) hini)
  obtain ⟨hx, hb, hml, ho, -⟩ := S
  intro T hT X
  obtain ⟨v, vm₁, ⟨U', l2, c2, s2⟩, hW₁, X', ⟨g', mk, t, L, e1, e2, hq, h1, hL, h2, h3⟩, st⟩ := vx_callSW X hx (hh := hh) (bytes := bytes) (maxL := maxL) (ret := ret) ho hl hstt hini hcode hy hK hg (hsize.trans hml.symm) (argsL := As) (rest := rest) (fun sig h => hn.trans (hlen sig h)) hstack hW (by rw [hb]; exact hdg)
    (fun vm₁ hW₁ => ⟨hf.1, hf.2, hp.2 (T.setVm vm₁) hT hW₁⟩)
  dsimp only [Pt.U, Pt.locs, Pt.cells, Pt.slots] at X' e1 e2 h1 h2 h3 st
  subst h1; subst h2; subst h3
  exact ⟨v, (T.setVm vm₁).calling g' mk As.toArray, t, U', L, hT, X', hL, e1, e2, hq, st⟩
/-- not caught here, past rows that name other classes: it goes on to the caller -/
theorem vx_outP {p : Program} {l : Launch} {e : Env} {R : Room} {s : State} {m : MethodId} {args : Array Value} {below : List Frame} {meth : Method} {c : Code} {H : Heap} {locs : List Loc} {cells slots : Nat} {free : Addr → Prop} {ls : Array Slot} {rest : List Value} {Qc : Array Value → State → Outcome → State → Prop} {XC : String → State → State → Prop}
    {pc : Nat} {own E : String} {ce : Cell} {q : Addr} {mc ms : Nat} (hown : s.vm.findClass own = some m.cls) (hlocks : meth.locks = false)
    (hpass : ∀ z ∈ c.exceptionTable.toList, covers z pc = false ∨ (z.catchType ≠ 0 ∧ ∃ nm : String, (Cond.classLink own z.catchType nm).before args s = true ∧ va_Nc E nm s)) (hcell : H[q]? = some ce) (hv : ce.vm = .none) (hcl : s.vm.findClass E = some ce.cls)
    (hx : ∀ t : State, t.heap = H → s.vm.Alike t.vm → XC E s t) (hf : ∀ z ∈ locs, free z.base) (hc : cells ≤ mc) (hs : slots ≤ ms) :
    vx_W p l e R s m args below meth c H locs cells slots (vx_MQ below Qc XC args s mc ms free) (F0 m pc ls rest) q := by
  intro T hT X
  have hpl : e.platform.magicAccessors = ({} : Platform).magicAccessors := by rw [X.admits.platform]
  obtain ⟨vm', hW', X', st⟩ := X.outThrough hlocks q (g := F0 m pc ls rest) rfl rfl rfl (cell := ce) (by rw [hT]; exact hcell) (by rw [hv]; rfl)
    (by obtain ⟨k9, h9, -⟩ := Vm.findClass_spec hcl; exact ⟨k9, h9⟩) (fun z hz => by
      rcases hpass z hz with h | ⟨hz0, nm, hl1, hn1⟩
      · exact Or.inl h
      · obtain ⟨c6, hc6, hcl6⟩ := Cond.classLink_spec hown hl1 e.platform hpl
        obtain ⟨a8, b8, h1, h2, h3⟩ := hn1
        cases Option.some.inj (h1.symm.trans hcl)
        cases Option.some.inj (h2.symm.trans hc6)
        exact Or.inr ⟨hz0, _, hcl6, h3⟩)
  obtain ⟨g₀, hfr⟩ := X'.frames_eq
  have hcell9 : ((T.setVm vm').setFrames (.throwing q :: below)).heap[q]? = some ce := by
    show T.heap[q]? = some ce
    rw [hT]; exact hcell
  have hend : Ended ((T.setVm vm').setFrames (.throwing q :: below)) below (.threw q) := State.frames_setFrames _ (State.cur_lt_of_frames hfr)
  refine ⟨(T.setVm vm').setFrames (.throwing q :: below), ?_, .threw q, X'.here.running, hend, Or.inr ⟨q, rfl, E, ce, locs, hx _ hT (X'.ends _).1.alike, hcell9, hv, hcl, (X'.ends _).1, (X'.ends _).2.mono hc hs, hf⟩⟩
  rw [X.pushThrowing_eq]
  exact st
/-- a thing of a world lies in the heap -/
theorem vx_lt {D : va_G} {cl : List vw_C} {ws : va_W} {H1 : Heap} (h : va_P D cl ws H1) {k : Nat} {q : Nat × va_E} (hk : ws[k]? = some q) : q.1 < H1.size := (h k q hk).lt
end VXS
/-! ===== END ===== -/
/-! ===== BEGIN methods with a table of their own: called by a name, returning or throwing ===== -/
section VXH
/-! vx_backW, vx_callVX, vx_callSX, vx_callVW, vx_runVW, vx_runVX, vx_runSX, vx_ofWH follow the same proofs as their sisters above (Free/Laws.lean, Shelf42/LK1.lean); vx_outP calls Shelf42/NT130.lean (outThrough). -/
section
variable {l : Launch} {R : Room} {p : Program} {e : Env} {below : List Frame} {s : State} {sargs : Array Value} {y : MethodName} {len W9 : Nat}
theorem vx_backW {ws : List Cond} {rm : Room} {Pc : Array Value → State → Prop} {Qc : Array Value → State → Outcome → State → Prop} {XC : String → State → State → Prop} {mc ms : Nat} {free : Addr → Prop} {bytes : ByteArray} {maxL : Nat} {ret : Option FieldType} {hh : List (Nat × Nat × Nat × Nat)}
    (hM : vx_Met l y ws rm Pc Qc XC mc ms free) (hblind : FrameBlind Pc) (hrc : rm.cells = mc) (hrs : rm.slots = ms)
    (hframes : rm.frames + 1 ≤ R.frames) (hlocals : W9 + (maxL + 11) + rm.locals ≤ R.locals)
    (hws : ∀ w ∈ ws, ∀ a' U, s.WarmedH U.vm → w.before a' U = true) (hcode : Cond.codeWith y bytes maxL ret hh ∈ ws) (hinit : ∀ a' U, s.WarmedH U.vm → (Cond.initialized y.cls).before a' U = true) :
    vx_Back l R p e below s sargs y len W9 (PreOf R mc ms Pc) (PostOf Qc mc ms free) (vx_Post XC mc ms free) := by
  intro m meth c A g ig mk a X hg hsize hdg hW hn hp
  have h1 : (headSpec ws rm).pre.before a A.U = true := atoms_intro fun w hw => hws w hw _ _ X.warmed
  have h2 : (Cond.codeWith y bytes maxL ret hh).before a A.U = true := hws _ hcode _ _ X.warmed
  have h3 : (Cond.initialized y.cls).before a A.U = true := hinit _ _ X.warmed
  have h4 : A.cells + (headSpec ws rm).room.cells ≤ R.cells := by rw [show (headSpec ws rm).room.cells = mc from hrc]; exact hp.1
  have h5 : A.slots + (headSpec ws rm).room.slots ≤ R.slots := by rw [show (headSpec ws rm).room.slots = ms from hrs]; exact hp.2.1
  have hPc : Pc a (A.U.calling g mk a) := hblind _ _ _ _ hp.2.2
  obtain ⟨U, Ls, c0, s0⟩ := A
  dsimp only [Pt.U, Pt.locs, Pt.cells, Pt.slots] at h1 h2 h3 h4 h5 X hn hPc ⊢
  obtain ⟨m9, methY, cY, hn9, hmY, hcY, -, hlY, -⟩ := Cond.codeWith_spec h2
  cases Option.some.inj (hn9.symm.trans hn)
  obtain ⟨kY, hkY, -⟩ := className_of_methodNamed hn
  have hinitY : kY.init = .initialized := Cond.initialized_spec (findClass_of_methodNamed hn) hkY h3
  have h : At U g.method c below := by rw [hg]; exact X.here
  have hlocals9 : W9 + (maxL + 11) + (headSpec ws rm).room.locals ≤ R.locals := hlocals
  have happ : (headSpec ws rm).appliesLoose y e.platform (U.calling g mk a) = true :=
    Spec.appliesLoose_calling (g := g) h hdg hn hkY hinitY
      (X.room_calling (g := g) (R' := (headSpec ws rm).room) hsize hmY hcY hframes (by rw [hlY]; omega) h4 h5) h1
  obtain ⟨mid, hmid⟩ := h.above
  have hfr : (U.setTop g).frames = (.java g :: mid) ++ below := by rw [State.frames_setTop' g h.top, hmid]; rfl
  obtain ⟨o, s₂, hsteps, -, hend, hq⟩ := Steps.callFree hM p X.admits X.cas X.clock (acts := []) hfr happ hPc trivial
  have hq' : vx_Q Qc XC mc ms free a (U.calling g mk a) o s₂ := hq
  rw [State.frames_setTop' g h.top] at hend
  obtain ⟨g₀, hg0⟩ := Option.isSome_iff_exists.mp h.top
  obtain ⟨r, hr⟩ := State.topJava?_eq_some.mp hg0
  have hr' : (({ U with heap := s₂.heap, slotsUsed := s₂.slotsUsed } : State).setVm s₂.vm).frames = .java g₀ :: r := hr
  rcases hq' with ⟨hqc, L, hfe, hL⟩ | ⟨q, rfl, E, ce, L, hx, hce, hcv, hcl, hW₂, hsm, hL⟩
  · obtain ⟨⟨v, rfl⟩, hW₂, e2, q2, q3, q4, q5, q6⟩ := id hfe
    have e3 : s₂ = ({ (U.calling g mk a).setFrames s₂.frames with heap := s₂.heap, slotsUsed := s₂.slotsUsed } : State).setVm s₂.vm := by
      have : s₂ = ({ s₂ with vm := (U.calling g mk a).vm } : State).setVm s₂.vm := rfl
      rw [e2] at this
      exact this
    obtain ⟨c₂, i₂, len₂, hc₂, hd₂, hf₂⟩ := hend
    have hW' : U.WarmedH s₂.vm := hW₂
    have hcc : c₂ = c := by
      have h1 : s₂.code? g.method = U.code? g.method := by
        rw [State.code?_eq, State.code?_eq, hW'.alike.method?]
      exact Option.some.inj (hc₂.symm.trans (h1.trans h.code))
    subst hcc
    have hlen : len₂ = len := by rw [hdg] at hd₂; cases hd₂; rfl
    subst hlen
    have hs₂ : s₂ = (({ U with heap := s₂.heap, slotsUsed := s₂.slotsUsed } : State).setVm s₂.vm).setTop { g with pc := g.pc + len₂, stack := v.toList ++ g.stack } := by
      refine e3.trans ?_
      rw [hf₂, State.calling_eq h.top, State.setFrames_setFrames, State.setTop_of_frames _ hr', hr]
      rfl
    have hsame : U.sameButNew ({ U with heap := s₂.heap, slotsUsed := s₂.slotsUsed } : State) L mc ms := by
      refine ⟨?_, q2, q3, q4, q5, q6⟩
      obtain ⟨t, ht, -⟩ := State.frames_cons hr
      show ({ U with heap := s₂.heap, slotsUsed := s₂.slotsUsed } : State) = { U.setFrames U.frames with heap := s₂.heap, slotsUsed := s₂.slotsUsed }
      rw [State.setFrames_self ht]
    subst hg
    refine Or.inl ⟨v, ⟨(({ U with heap := s₂.heap, slotsUsed := s₂.slotsUsed } : State).setVm s₂.vm), Ls ++ L, c0 + mc, s0 + ms⟩,
      ⟨X.admits, X.cas, X.clock, X.frames, X.room, X.hears, X.method, X.code, (X.here.setHeapUsed s₂.heap s₂.slotsUsed).setVm hW'.alike, X.tail, State.WarmedH.trans X.warmed hW', X.limits, X.bytes, X.same.trans (hsame.setVm s.vm)⟩,
      ⟨g, mk, s₂, L, rfl, rfl, hqc, rfl, hL, rfl, rfl⟩, ?_⟩
    show Steps p.tables e below _ ((({ U with heap := s₂.heap, slotsUsed := s₂.slotsUsed } : State).setVm s₂.vm).setTop { g with pc := g.pc + len₂, stack := v.toList ++ g.stack })
    rw [← hs₂]
    exact hsteps
  · obtain ⟨e2, q2, q3, q4, q5, q6⟩ := id hsm
    have e3 : s₂ = ({ (U.calling g mk a).setFrames s₂.frames with heap := s₂.heap, slotsUsed := s₂.slotsUsed } : State).setVm s₂.vm := by
      have : s₂ = ({ s₂ with vm := (U.calling g mk a).vm } : State).setVm s₂.vm := rfl
      rw [e2] at this
      exact this
    have hf₂ : s₂.frames = .throwing q :: .java g :: U.frames.tail := hend
    have hW' : U.WarmedH s₂.vm := hW₂
    have hs₂ : s₂ = ((({ U with heap := s₂.heap, slotsUsed := s₂.slotsUsed } : State).setVm s₂.vm).setTop g).pushFrame (.throwing q) := by
      refine e3.trans ?_
      rw [hf₂, State.calling_eq h.top, State.setFrames_setFrames, State.pushFrame, State.frames_setTop _ hr', State.setTop_of_frames _ hr', State.setFrames_setFrames, hr]
      rfl
    have hsame : U.sameButNew ({ U with heap := s₂.heap, slotsUsed := s₂.slotsUsed } : State) L mc ms := by
      refine ⟨?_, q2, q3, q4, q5, q6⟩
      obtain ⟨t, ht, -⟩ := State.frames_cons hr
      show ({ U with heap := s₂.heap, slotsUsed := s₂.slotsUsed } : State) = { U.setFrames U.frames with heap := s₂.heap, slotsUsed := s₂.slotsUsed }
      rw [State.setFrames_self ht]
    subst hg
    refine Or.inr ⟨q, ⟨(({ U with heap := s₂.heap, slotsUsed := s₂.slotsUsed } : State).setVm s₂.vm), Ls ++ L, c0 + mc, s0 + ms⟩,
      ⟨X.admits, X.cas, X.clock, X.frames, X.room, X.hears, X.method, X.code, (X.here.setHeapUsed s₂.heap s₂.slotsUsed).setVm hW'.alike, X.tail, State.WarmedH.trans X.warmed hW', X.limits, X.bytes, X.same.trans (hsame.setVm s.vm)⟩,
      ⟨g, mk, s₂, L, E, ce, rfl, rfl, hx, hce, hcv, hcl, rfl, hL, rfl, rfl⟩, ?_⟩
    show Steps p.tables e below _ (((({ U with heap := s₂.heap, slotsUsed := s₂.slotsUsed } : State).setVm s₂.vm).setTop g).pushFrame (.throwing q))
    rw [← hs₂]
    exact hsteps
end
variable {p : Program} {l : Launch} {e : Env} {R : Room} {s : State} {m : MethodId} {args : Array Value} {below : List Frame} {meth : Method} {c : Code} {T : State} {H : Heap} {locs : List Loc} {cells slots : Nat}
theorem vx_callVX (X : Stand p l e R s m args below meth c T locs cells slots) (hexec : p.tables.exec = Jvm.exec) {own C : String} {index : Nat} {y : MethodName} {bytes : ByteArray} {maxL : Nat} {ret : Option FieldType} {hh : List (Nat × Nat × Nat × Nat)}
    (hown : s.vm.findClass own = some m.cls) (hlink : (Cond.methodLink own index y).before args s = true) (hinst : (Cond.instanceMethod y).before args s = true) (hsel : (Cond.selects C y y).before args s = true)
    (hcode : (Cond.codeWith y bytes maxL ret hh).before args s = true) (hy : y.cls ≠ "java/lang/invoke/MethodHandle" ∧ y.cls ≠ "java/lang/invoke/VarHandle")
    {W9 : Nat} {Pre : Pt → Array Value → Prop} {Post : Pt → Array Value → Option Value → Pt → Prop} {PostX : Pt → Array Value → Addr → Pt → Prop} (hK : vx_Back l R p e below s args y 3 W9 Pre Post PostX)
    {b : Addr} {cellB : Cell} (hcell : T.heap[b]? = some cellB) (hobj : cellB.vm.isStatics = false) (hcls : s.vm.findClass C = some cellB.cls)
    {g : JFrame} (hg : g.method = m) (hsize : g.locals.size = c.maxLocals) {argsL rest : List Value} (hlen : ∀ sig, parseMethodDescriptor y.desc = some sig → argsL.length = sig.parameters.length)
    (hstack : g.stack = argsL.reverse ++ .ref b :: rest) (hW : 2 * g.monitorRoom + (rest.map fun v => v.category).sum ≤ W9) (hdg : decode c.code g.pc = .ok (.invokevirtual index, 3))
    (hpre : ∀ vm₁, s.WarmedH vm₁ → Pre ⟨T.setVm vm₁, locs, cells, slots⟩ (Value.ref b :: argsL).toArray) :
    (∃ (v : Option Value) (vm₁ : Vm) (B : Pt), s.WarmedH vm₁ ∧ Stand p l e R s m args below meth c B.U B.locs B.cells B.slots ∧ Post ⟨T.setVm vm₁, locs, cells, slots⟩ (Value.ref b :: argsL).toArray v B ∧
      ∀ target, Steps p.tables e below (B.U.setTop { g with pc := g.pc + 3, stack := v.toList ++ rest }) target → Steps p.tables e below (T.setTop g) target) ∨
    (∃ (q : Addr) (vm₁ : Vm) (B : Pt), s.WarmedH vm₁ ∧ Stand p l e R s m args below meth c B.U B.locs B.cells B.slots ∧ PostX ⟨T.setVm vm₁, locs, cells, slots⟩ (Value.ref b :: argsL).toArray q B ∧
      Steps p.tables e below (T.setTop g) ((B.U.setTop { g with stack := rest }).pushFrame (.throwing q))) := by
  obtain ⟨mk, methM, hnamed, hmethM, hstM, habM⟩ := Cond.instanceMethod_spec hinst
  obtain ⟨m8, methM', cM, hn8, hmethM', -, -, -, -, -, -, hsigM⟩ := Cond.codeWith_spec hcode
  cases Option.some.inj (hn8.symm.trans hnamed)
  cases hmethM.symm.trans hmethM'
  obtain ⟨c2, r2, m2, q1, q2, q3, q4, kP, hkP, hkPi⟩ := Cond.selects_spec hsel
  cases hcls.symm.trans q1
  cases (State.methodFound?_of_named hnamed hy).symm.trans q2
  cases hnamed.symm.trans q3
  have hselP : selectMethod e.platform s.vm cellB.cls mk = .method mk := by rw [Launch.admits_selectMethod X.admits]; exact q4
  obtain ⟨vm₁, X₁, hstep₁⟩ := X.invokevirtual hexec hown hlink hnamed hmethM hstM hkP hkPi hy (a := b) (cell := cellB) hcell
    (fun z h => by rw [h] at hobj; cases hobj) hselP hmethM habM hkP hkPi (g := g) hg (argsL := argsL) (rest := rest) (hlen _ hsigM) hstack hdg
  rcases hK m meth c ⟨T.setVm vm₁, locs, cells, slots⟩ { g with stack := rest } (.invokevirtual index) mk (Value.ref b :: argsL).toArray X₁ hg hsize hdg hW (X₁.named hnamed) (hpre vm₁ X₁.warmed) with ⟨v, B, X', hpost, hsteps⟩ | ⟨q, B, X', hpost, hsteps⟩
  · exact Or.inl ⟨v, vm₁, B, X₁.warmed, X', hpost, fun target h => hstep₁ _ fun acts => by rw [doInvoke_state]; exact hsteps.trans h⟩
  · exact Or.inr ⟨q, vm₁, B, X₁.warmed, X', hpost, hstep₁ _ fun acts => by rw [doInvoke_state]; exact hsteps⟩
theorem vx_callSX (X : Stand p l e R s m args below meth c T locs cells slots) (hexec : p.tables.exec = Jvm.exec) {own : String} {index : Nat} {y : MethodName} {bytes : ByteArray} {maxL : Nat} {ret : Option FieldType} {hh : List (Nat × Nat × Nat × Nat)}
    (hown : s.vm.findClass own = some m.cls) (hlink : (Cond.methodLink own index y).before args s = true) (hstat : (Cond.static y).before args s = true) (hinit : (Cond.initialized y.cls).before args s = true)
    (hcode : (Cond.codeWith y bytes maxL ret hh).before args s = true) (hy : y.cls ≠ "java/lang/invoke/MethodHandle" ∧ y.cls ≠ "java/lang/invoke/VarHandle")
    {W9 : Nat} {Pre : Pt → Array Value → Prop} {Post : Pt → Array Value → Option Value → Pt → Prop} {PostX : Pt → Array Value → Addr → Pt → Prop} (hK : vx_Back l R p e below s args y 3 W9 Pre Post PostX)
    {g : JFrame} (hg : g.method = m) (hsize : g.locals.size = c.maxLocals) {argsL rest : List Value} (hlen : ∀ sig, parseMethodDescriptor y.desc = some sig → argsL.length = sig.parameters.length)
    (hstack : g.stack = argsL.reverse ++ rest) (hW : 2 * g.monitorRoom + (rest.map fun v => v.category).sum ≤ W9) (hdg : decode c.code g.pc = .ok (.invokestatic index, 3))
    (hpre : ∀ vm₁, s.WarmedH vm₁ → Pre ⟨T.setVm vm₁, locs, cells, slots⟩ argsL.toArray) :
    (∃ (v : Option Value) (vm₁ : Vm) (B : Pt), s.WarmedH vm₁ ∧ Stand p l e R s m args below meth c B.U B.locs B.cells B.slots ∧ Post ⟨T.setVm vm₁, locs, cells, slots⟩ argsL.toArray v B ∧
      ∀ target, Steps p.tables e below (B.U.setTop { g with pc := g.pc + 3, stack := v.toList ++ rest }) target → Steps p.tables e below (T.setTop g) target) ∨
    (∃ (q : Addr) (vm₁ : Vm) (B : Pt), s.WarmedH vm₁ ∧ Stand p l e R s m args below meth c B.U B.locs B.cells B.slots ∧ PostX ⟨T.setVm vm₁, locs, cells, slots⟩ argsL.toArray q B ∧
      Steps p.tables e below (T.setTop g) ((B.U.setTop { g with stack := rest }).pushFrame (.throwing q))) := by
  obtain ⟨mk, methM, cM, hnamed, hmethM, -, -, -, -, -, -, hsigM⟩ := Cond.codeWith_spec hcode
  have hstatic : methM.isStatic = true := Cond.static_spec hnamed hmethM hstat
  obtain ⟨kP, hkP, -⟩ := className_of_methodNamed hnamed
  have hinitP : kP.init = .initialized := Cond.initialized_spec (findClass_of_methodNamed hnamed) hkP hinit
  obtain ⟨vm₁, X₁, hstep₁⟩ := X.invokestatic hexec hown hlink hnamed hmethM hstatic hkP hinitP hy (g := g) hg (argsL := argsL) (rest := rest) (hlen _ hsigM) hstack hdg
  rcases hK m meth c ⟨T.setVm vm₁, locs, cells, slots⟩ { g with stack := rest } (.invokestatic index) mk argsL.toArray X₁ hg hsize hdg hW (X₁.named hnamed) (hpre vm₁ X₁.warmed) with ⟨v, B, X', hpost, hsteps⟩ | ⟨q, B, X', hpost, hsteps⟩
  · exact Or.inl ⟨v, vm₁, B, X₁.warmed, X', hpost, fun target h => hstep₁ _ fun acts => by rw [doInvoke_state]; exact hsteps.trans h⟩
  · exact Or.inr ⟨q, vm₁, B, X₁.warmed, X', hpost, hstep₁ _ fun acts => by rw [doInvoke_state]; exact hsteps⟩
theorem vx_callVW (X : Stand p l e R s m args below meth c T locs cells slots) (hexec : p.tables.exec = Jvm.exec) {own C : String} {index : Nat} {y : MethodName} {bytes : ByteArray} {maxL : Nat} {ret : Option FieldType} {hh : List (Nat × Nat × Nat × Nat)}
    (hown : s.vm.findClass own = some m.cls) (hlink : (Cond.methodLink own index y).before args s = true) (hinst : (Cond.instanceMethod y).before args s = true) (hsel : (Cond.selects C y y).before args s = true)
    (hcode : (Cond.codeWith y bytes maxL ret hh).before args s = true) (hy : y.cls ≠ "java/lang/invoke/MethodHandle" ∧ y.cls ≠ "java/lang/invoke/VarHandle")
    {W9 : Nat} {Pre : Pt → Array Value → Prop} {Post : Pt → Array Value → Option Value → Pt → Prop} (hK : Back l R p e below s args y 3 W9 Pre Post)
    {b : Addr} {cellB : Cell} (hcell : T.heap[b]? = some cellB) (hobj : cellB.vm.isStatics = false) (hcls : s.vm.findClass C = some cellB.cls)
    {g : JFrame} (hg : g.method = m) (hsize : g.locals.size = c.maxLocals) {argsL rest : List Value} (hlen : ∀ sig, parseMethodDescriptor y.desc = some sig → argsL.length = sig.parameters.length)
    (hstack : g.stack = argsL.reverse ++ .ref b :: rest) (hW : 2 * g.monitorRoom + (rest.map fun v => v.category).sum ≤ W9) (hdg : decode c.code g.pc = .ok (.invokevirtual index, 3))
    (hpre : ∀ vm₁, s.WarmedH vm₁ → Pre ⟨T.setVm vm₁, locs, cells, slots⟩ (Value.ref b :: argsL).toArray) :
    ∃ (v : Option Value) (vm₁ : Vm) (B : Pt), s.WarmedH vm₁ ∧ Stand p l e R s m args below meth c B.U B.locs B.cells B.slots ∧ Post ⟨T.setVm vm₁, locs, cells, slots⟩ (Value.ref b :: argsL).toArray v B ∧
      ∀ target, Steps p.tables e below (B.U.setTop { g with pc := g.pc + 3, stack := v.toList ++ rest }) target → Steps p.tables e below (T.setTop g) target := by
  obtain ⟨mk, methM, hnamed, hmethM, hstM, habM⟩ := Cond.instanceMethod_spec hinst
  obtain ⟨m8, methM', cM, hn8, hmethM', -, -, -, -, -, -, hsigM⟩ := Cond.codeWith_spec hcode
  cases Option.some.inj (hn8.symm.trans hnamed)
  cases hmethM.symm.trans hmethM'
  obtain ⟨c2, r2, m2, q1, q2, q3, q4, kP, hkP, hkPi⟩ := Cond.selects_spec hsel
  cases hcls.symm.trans q1
  cases (State.methodFound?_of_named hnamed hy).symm.trans q2
  cases hnamed.symm.trans q3
  have hselP : selectMethod e.platform s.vm cellB.cls mk = .method mk := by rw [Launch.admits_selectMethod X.admits]; exact q4
  obtain ⟨vm₁, X₁, hstep₁⟩ := X.invokevirtual hexec hown hlink hnamed hmethM hstM hkP hkPi hy (a := b) (cell := cellB) hcell
    (fun z h => by rw [h] at hobj; cases hobj) hselP hmethM habM hkP hkPi (g := g) hg (argsL := argsL) (rest := rest) (hlen _ hsigM) hstack hdg
  obtain ⟨v, B, X', hpost, hsteps⟩ := hK m meth c ⟨T.setVm vm₁, locs, cells, slots⟩ { g with stack := rest } (.invokevirtual index) mk (Value.ref b :: argsL).toArray X₁ hg hsize hdg hW (X₁.named hnamed) (hpre vm₁ X₁.warmed)
  exact ⟨v, vm₁, B, X₁.warmed, X', hpost, fun target h => hstep₁ _ fun acts => by rw [doInvoke_state]; exact hsteps.trans h⟩
abbrev vx_CVW (R : Room) (s : State) (args : Array Value) (own C : String) (index : Nat) (y : MethodName) (bytes : ByteArray) (maxL : Nat) (ret : Option FieldType) (hh : List (Nat × Nat × Nat × Nat)) (ws : List Cond) (rm : Room) (mc ms n : Nat) : Prop :=
  (rm.cells = mc ∧ rm.slots = ms ∧ rm.frames + 1 ≤ R.frames ∧ 8 + (maxL + 11) + rm.locals ≤ R.locals ∧ (∀ w ∈ ws, ∀ (a' : Array Value) (U : State), s.WarmedH U.vm → w.before a' U = true) ∧ Cond.codeWith y bytes maxL ret hh ∈ ws) ∧
  (Cond.codeWith y bytes maxL ret hh).before args s = true ∧ (Cond.initialized y.cls).before args s = true ∧ (y.cls ≠ "java/lang/invoke/MethodHandle" ∧ y.cls ≠ "java/lang/invoke/VarHandle") ∧
  (∀ sig, parseMethodDescriptor y.desc = some sig → n = sig.parameters.length) ∧ (Cond.methodLink own index y).before args s = true ∧ (Cond.instanceMethod y).before args s = true ∧ (Cond.selects C y y).before args s = true
theorem vx_cwVW {own C : String} {index maxL mc ms : Nat} {y : MethodName} {bytes : ByteArray} {ret : Option FieldType} {hh : List (Nat × Nat × Nat × Nat)} {Ts ws ws' : List Cond} {rm : Room} (n : Nat) (ht : ∀ w ∈ Ts, w.before args s = true) (hT : GoodIn Ts (wsV own index C y ws)) (hw : ws = Cond.codeWith y bytes maxL ret hh :: ws') (hrc : rm.cells = mc) (hrs : rm.slots = ms)
    (hd : y.cls = C ∧ y.cls ≠ "java/lang/invoke/MethodHandle" ∧ y.cls ≠ "java/lang/invoke/VarHandle" ∧ (parseMethodDescriptor y.desc).map (fun d => d.parameters.length) = some n) (hR : rm.frames + 1 ≤ R.frames ∧ 8 + (maxL + 11) + rm.locals ≤ R.locals) :
    vx_CVW R s args own C index y bytes maxL ret hh ws rm mc ms n := by
  obtain ⟨hC, hd⟩ := hd
  subst hC
  have ok : ∀ w ∈ wsV own index y.cls y ws, w.before args s = true := fun w h => ht w (hT w h).1
  have hG : GoodIn Ts ws := fun w h => hT w (by unfold wsV; exact List.mem_append_right _ h)
  have hc : Cond.codeWith y bytes maxL ret hh ∈ ws := by rw [hw]; exact List.mem_cons_self
  refine ⟨⟨hrc, hrs, hR.1, hR.2, pay_in ht hG, hc⟩, ht _ (hG _ hc).1, ok _ (by simp [wsV]), ⟨hd.1, hd.2.1⟩, fun sig h => ?_, ok _ (by simp [wsV]), ok _ (by simp [wsV]), ok _ (by simp [wsV])⟩
  have h2 := hd.2.2
  rw [h] at h2
  exact (Option.some.inj h2).symm
theorem vx_runVW {y : MethodName} {bytes cc : ByteArray} {maxL nL mc ms n index : Nat} {ret : Option FieldType} {hh : List (Nat × Nat × Nat × Nat)} {ws : List Cond} {rm : Room} {Pc : Array Value → State → Prop} {Qc : Array Value → State → Outcome → State → Prop} {free : Addr → Prop} {Ts : List Cond} {own C : String} {b : Addr} {As rest : List Value} {g : JFrame}
    (S : CallFix p m c cc nL s args Ts own) (hM : Met l y ws rm Pc Qc mc ms free) (cw : vx_CVW R s args own C index y bytes maxL ret hh ws rm mc ms n) (hp : PreV s H C b Pc As)
    (hg : g.method = m) (hn : As.length = n) (hsize : g.locals.size = nL) (hstack : g.stack = As.reverse ++ .ref b :: rest) (hW : 2 * g.monitorRoom + (rest.map fun v => v.category).sum ≤ 8) (hdg : decode cc g.pc = .ok (.invokevirtual index, 3)) (hf : cells + mc ≤ R.cells ∧ slots + ms ≤ R.slots) :
    va_Run p l e R s m args below meth c H locs cells slots mc ms g rest (Qc (Value.ref b :: As).toArray) free := by
  obtain ⟨⟨hrc, hrs, hfr, hlo, hws, hcw⟩, hcode, hini, hy, hlen, hl, hin, hse⟩ := cw
  have hK : Back l R p e below s args y 3 8 (PreOf R mc ms Pc) (PostOf Qc mc ms free) := va_backW (hh := hh) (bytes := bytes) (maxL := maxL) (ret := ret) hM hp.1 hrc hrs hfr hlo hws hcw (fun a' U hW => word_at hW (Or.inl (by first | rfl | simp [Cond.onTables, Cond.keeps, Cond.steady])) hini)
  obtain ⟨hx, hb, hml, ho, -⟩ := S
  obtain ⟨-, ⟨cellB, hcB, hoB, hclB⟩, hPc⟩ := hp
  intro T hT X
  obtain ⟨v, vm₁, ⟨U', l2, c2, s2⟩, hW₁, X', ⟨g', mk, t, L, e1, e2, hq, h1, hL, h2, h3⟩, st⟩ := vx_callVW X hx (C := C) (hh := hh) (bytes := bytes) (maxL := maxL) (ret := ret) ho hl hin hse hcode hy hK (by rw [hT]; exact hcB) hoB hclB hg (hsize.trans hml.symm) (argsL := As) (rest := rest) (fun sig h => hn.trans (hlen sig h)) hstack hW (by rw [hb]; exact hdg)
    (fun vm₁ hW₁ => ⟨hf.1, hf.2, hPc (T.setVm vm₁) hT hW₁⟩)
  dsimp only [Pt.U, Pt.locs, Pt.cells, Pt.slots] at X' e1 e2 h1 h2 h3 st
  subst h1; subst h2; subst h3
  exact ⟨v, (T.setVm vm₁).calling g' mk (Value.ref b :: As).toArray, t, U', L, hT, X', hL, e1, e2, hq, st⟩
section
variable {y : MethodName} {bytes cc : ByteArray} {maxL nL mc ms n index : Nat} {ret : Option FieldType} {ws : List Cond} {rm : Room} {Pc : Array Value → State → Prop} {Qc : Array Value → State → Outcome → State → Prop} {XC : String → State → State → Prop} {free : Addr → Prop} {Ts : List Cond} {own C : String} {b : Addr} {As rest : List Value} {g : JFrame}
theorem vx_runVX {hh : List (Nat × Nat × Nat × Nat)} (S : CallFix p m c cc nL s args Ts own) (hM : vx_Met l y ws rm Pc Qc XC mc ms free) (cw : vx_CVW R s args own C index y bytes maxL ret hh ws rm mc ms n) (hp : PreV s H C b Pc As)
    (hg : g.method = m) (hn : As.length = n) (hsize : g.locals.size = nL) (hstack : g.stack = As.reverse ++ .ref b :: rest) (hW : 2 * g.monitorRoom + (rest.map fun v => v.category).sum ≤ 8) (hdg : decode cc g.pc = .ok (.invokevirtual index, 3)) (hf : cells + mc ≤ R.cells ∧ slots + ms ≤ R.slots) :
    vx_Run p l e R s m args below meth c H locs cells slots mc ms g rest (Qc (Value.ref b :: As).toArray) XC free := by
  obtain ⟨⟨hrc, hrs, hfr, hlo, hws, hcw⟩, hcode, hini, hy, hlen, hl, hin, hse⟩ := cw
  have hK : vx_Back l R p e below s args y 3 8 (PreOf R mc ms Pc) (PostOf Qc mc ms free) (vx_Post XC mc ms free) := vx_backW (hh := hh) (bytes := bytes) (maxL := maxL) (ret := ret) hM hp.1 hrc hrs hfr hlo hws hcw (fun a' U hW => word_at hW (Or.inl (by first | rfl | simp [Cond.onTables, Cond.keeps, Cond.steady])) hini)
  obtain ⟨hx, hb, hml, ho, -⟩ := S
  obtain ⟨-, ⟨cellB, hcB, hoB, hclB⟩, hPc⟩ := hp
  intro T hT X
  rcases vx_callVX X hx (C := C) (hh := hh) (bytes := bytes) (maxL := maxL) (ret := ret) ho hl hin hse hcode hy hK (by rw [hT]; exact hcB) hoB hclB hg (hsize.trans hml.symm) (argsL := As) (rest := rest) (fun sig h => hn.trans (hlen sig h)) hstack hW (by rw [hb]; exact hdg)
    (fun vm₁ hW₁ => ⟨hf.1, hf.2, hPc (T.setVm vm₁) hT hW₁⟩) with ⟨v, vm₁, ⟨U', l2, c2, s2⟩, hW₁, X', ⟨g', mk, t, L, e1, e2, hq, h1, hL, h2, h3⟩, st⟩ | ⟨q, vm₁, ⟨U', l2, c2, s2⟩, hW₁, X', ⟨g', mk, t, L, E, ce, e1, e2, hq, hce, hcv, hcl, h1, hL, h2, h3⟩, st⟩
  · dsimp only [Pt.U, Pt.locs, Pt.cells, Pt.slots] at X' e1 e2 h1 h2 h3 st
    subst h1; subst h2; subst h3
    exact Or.inl ⟨v, (T.setVm vm₁).calling g' mk (Value.ref b :: As).toArray, t, U', L, hT, X', hL, e1, e2, hq, st⟩
  · dsimp only [Pt.U, Pt.locs, Pt.cells, Pt.slots] at X' e1 e2 h1 h2 h3 st hcl
    subst h1; subst h2; subst h3
    exact Or.inr ⟨q, (T.setVm vm₁).calling g' mk (Value.ref b :: As).toArray, t, U', L, E, ce, hT, X', hL, e1, e2, hq, hce, hcv, vx_cls hW₁ hcl, st⟩
theorem vx_runSX {hh : List (Nat × Nat × Nat × Nat)} (S : CallFix p m c cc nL s args Ts own) (hM : vx_Met l y ws rm Pc Qc XC mc ms free) (cw : vx_CSW R s args own index y bytes maxL ret hh ws rm mc ms n) (hp : PreS s H Pc As)
    (hg : g.method = m) (hn : As.length = n) (hsize : g.locals.size = nL) (hstack : g.stack = As.reverse ++ rest) (hW : 2 * g.monitorRoom + (rest.map fun v => v.category).sum ≤ 8) (hdg : decode cc g.pc = .ok (.invokestatic index, 3)) (hf : cells + mc ≤ R.cells ∧ slots + ms ≤ R.slots) :
    vx_Run p l e R s m args below meth c H locs cells slots mc ms g rest (Qc As.toArray) XC free := by
  obtain ⟨⟨hrc, hrs, hfr, hlo, hws, hcw⟩, hcode, hini, hy, hlen, hl, hstt⟩ := cw
  have hK : vx_Back l R p e below s args y 3 8 (PreOf R mc ms Pc) (PostOf Qc mc ms free) (vx_Post XC mc ms free) := vx_backW (hh := hh) (bytes := bytes) (maxL := maxL) (ret := ret) hM hp.1 hrc hrs hfr hlo hws hcw (fun a' U hW => word_at hW (Or.inl (by first | rfl | simp [Cond.onTables, Cond.keeps, Cond.steady])) hini)
  obtain ⟨hx, hb, hml, ho, -⟩ := S
  intro T hT X
  rcases vx_callSX X hx (hh := hh) (bytes := bytes) (maxL := maxL) (ret := ret) ho hl hstt hini hcode hy hK hg (hsize.trans hml.symm) (argsL := As) (rest := rest) (fun sig h => hn.trans (hlen sig h)) hstack hW (by rw [hb]; exact hdg)
    (fun vm₁ hW₁ => ⟨hf.1, hf.2, hp.2 (T.setVm vm₁) hT hW₁⟩) with ⟨v, vm₁, ⟨U', l2, c2, s2⟩, hW₁, X', ⟨g', mk, t, L, e1, e2, hq, h1, hL, h2, h3⟩, st⟩ | ⟨q, vm₁, ⟨U', l2, c2, s2⟩, hW₁, X', ⟨g', mk, t, L, E, ce, e1, e2, hq, hce, hcv, hcl, h1, hL, h2, h3⟩, st⟩
  · dsimp only [Pt.U, Pt.locs, Pt.cells, Pt.slots] at X' e1 e2 h1 h2 h3 st
    subst h1; subst h2; subst h3
    exact Or.inl ⟨v, (T.setVm vm₁).calling g' mk As.toArray, t, U', L, hT, X', hL, e1, e2, hq, st⟩
  · dsimp only [Pt.U, Pt.locs, Pt.cells, Pt.slots] at X' e1 e2 h1 h2 h3 st hcl
    subst h1; subst h2; subst h3
    exact Or.inr ⟨q, (T.setVm vm₁).calling g' mk As.toArray, t, U', L, E, ce, hT, X', hL, e1, e2, hq, hce, hcv, vx_cls hW₁ hcl, st⟩
end
end VXH
theorem vx_ofWH {l : Launch} {y : MethodName} {ws ws' : List Cond} {rm : Room} {Pc : Array Value → State → Prop} {Qc : Array Value → State → Outcome → State → Prop} {XC : String → State → State → Prop} {mc ms : Nat} {free : Addr → Prop} {cc : ByteArray} {maxL : Nat} {ret : Option FieldType} {hh : List (Nat × Nat × Nat × Nat)}
    (hy : plainName y.cls = true) (hw : ws = Cond.codeWith y cc maxL ret hh :: ws')
    (body : ∀ p e s m args below meth c s₁, BodyLoose p l y (headSpec ws rm) cc maxL ret e s m args below meth c s₁ → c.maxLocals = maxL → Pc args s →
      W p l e (headSpec ws rm).room s m args below meth c s.heap [] 0 0 (vx_MQ below Qc XC args s mc ms free) (entryFrame m args maxL)) : vx_Met l y ws rm Pc Qc XC mc ms free := by
  refine MetFree.of_bodyS (code := cc) (maxLocals := maxL) (ret := ret) hy ?_ ?_
  · intro args s m h hn
    obtain ⟨m9, meth, c, hn9, h1, h2, h3, h4, -, h5, h6, -⟩ := Cond.codeWith_spec (atoms_spec (ws := ws) h _ (by rw [hw]; exact List.mem_cons_self))
    cases hn.symm.trans hn9
    exact ⟨meth, c, h1, h2, h3, h4, h5, h6⟩
  · intro p e s m args below meth c s₁ B hml hP _
    have hh0 : s₁.heap = s.heap := by rw [B.state]; rfl
    obtain ⟨t, a1, o, b1, b2, b3⟩ := body p e s m args below meth c s₁ B hml hP s₁ hh0 (Stand.of_body B)
    exact ⟨t, o, a1, b1, b2, b3⟩
/-! ===== END ===== -/
end
section
def rn_K : String := "RescueDesk$Copier"
def tf_K : u_T := fun k => match k with
  | 0 => ("RescueDesk$Copier", "disk", "LRescueDesk$Disk;", true)
  | 1 => ("RescueDesk$Copier", "map", "LRescueDesk$SectorMap;", true)
  | 2 => ("RescueDesk$Copier", "phaseNow", "I", false)
  | 3 => ("RescueDesk$Copier", "position", "I", false)
  | 4 => ("RescueDesk$Copier", "leap", "I", false)
  | 5 => ("RescueDesk$Copier", "round", "I", false)
  | 6 => ("RescueDesk$Copier", "retryRounds", "I", false)
  | _ => ("RescueDesk$Copier", "trimsLast", "Z", false)
def ty_K : Nat → FieldType := fun k => match k with
  | 0 => .object "RescueDesk$Disk"
  | 1 => .object "RescueDesk$SectorMap"
  | 2 => .int
  | 3 => .int
  | 4 => .int
  | 5 => .int
  | 6 => .int
  | _ => .boolean
theorem nm_K : ∀ a, a < 8 → ∀ b, b < 8 → a ≠ b → (tf_K a).2.1 ≠ (tf_K b).2.1 := by decide +kernel
theorem tyok_K : ∀ k, k < 8 → parseFieldDescriptor (tf_K k).2.2.1 = some (ty_K k) := by decide +kernel
def rn_D : String := "RescueDesk$Disk"
def tf_D : u_T := fun k => match k with
  | 0 => ("RescueDesk$Disk", "words", "[I", true)
  | 1 => ("RescueDesk$Disk", "failuresLeft", "[I", true)
  | 2 => ("RescueDesk$Disk", "readCounts", "[I", true)
  | 3 => ("RescueDesk$Disk", "target", "[I", true)
  | 4 => ("RescueDesk$Disk", "sectors", "I", false)
  | 5 => ("RescueDesk$Disk", "stretches", "I", false)
  | _ => ("RescueDesk$Disk", "failedStretches", "I", false)
def ty_D : Nat → FieldType := fun k => match k with
  | 0 => .array .int
  | 1 => .array .int
  | 2 => .array .int
  | 3 => .array .int
  | 4 => .int
  | 5 => .int
  | _ => .int
theorem nm_D : ∀ a, a < 7 → ∀ b, b < 7 → a ≠ b → (tf_D a).2.1 ≠ (tf_D b).2.1 := by decide +kernel
theorem tyok_D : ∀ k, k < 7 → parseFieldDescriptor (tf_D k).2.2.1 = some (ty_D k) := by decide +kernel
def rn_V : String := "RescueDesk$Saves"
def tf_V : u_T := fun k => match k with
  | 0 => ("RescueDesk$Saves", "slots", "[[I", true)
  | 1 => ("RescueDesk$Saves", "drawn", "[I", true)
  | _ => ("RescueDesk$Saves", "lastNumber", "I", false)
def ty_V : Nat → FieldType := fun k => match k with
  | 0 => .array (.array .int)
  | 1 => .array .int
  | _ => .int
theorem nm_V : ∀ a, a < 3 → ∀ b, b < 3 → a ≠ b → (tf_V a).2.1 ≠ (tf_V b).2.1 := by decide +kernel
theorem tyok_V : ∀ k, k < 3 → parseFieldDescriptor (tf_V k).2.2.1 = some (ty_V k) := by decide +kernel
def rn_S : String := "RescueDesk$SectorMap"
def tf_S : u_T := fun k => match k with
  | 0 => ("RescueDesk$SectorMap", "states", "[I", true)
  | _ => ("RescueDesk$SectorMap", "sectors", "I", false)
def ty_S : Nat → FieldType := fun k => match k with
  | 0 => .array .int
  | _ => .int
theorem nm_S : ∀ a, a < 2 → ∀ b, b < 2 → a ≠ b → (tf_S a).2.1 ≠ (tf_S b).2.1 := by decide +kernel
theorem tyok_S : ∀ k, k < 2 → parseFieldDescriptor (tf_S k).2.2.1 = some (ty_S k) := by decide +kernel
def rn_R : String := "RescueDesk"
def tf_R : u_T := fun k => match k with
  | 0 => ("RescueDesk", "disk", "LRescueDesk$Disk;", true)
  | 1 => ("RescueDesk", "map", "LRescueDesk$SectorMap;", true)
  | 2 => ("RescueDesk", "copier", "LRescueDesk$Copier;", true)
  | _ => ("RescueDesk", "saves", "LRescueDesk$Saves;", true)
def ty_R : Nat → FieldType := fun k => match k with
  | 0 => .object "RescueDesk$Disk"
  | 1 => .object "RescueDesk$SectorMap"
  | 2 => .object "RescueDesk$Copier"
  | _ => .object "RescueDesk$Saves"
theorem nm_R : ∀ a, a < 4 → ∀ b, b < 4 → a ≠ b → (tf_R a).2.1 ≠ (tf_R b).2.1 := by decide +kernel
theorem tyok_R : ∀ k, k < 4 → parseFieldDescriptor (tf_R k).2.2.1 = some (ty_R k) := by decide +kernel
def rn_M : String := "RescueDeskModel"
def tf_M : u_T := fun k => match k with
  | 0 => ("RescueDeskModel", "code", "I", false)
  | 1 => ("RescueDeskModel", "sectors", "I", false)
  | 2 => ("RescueDeskModel", "words", "[I", true)
  | 3 => ("RescueDeskModel", "failures", "[I", true)
  | 4 => ("RescueDeskModel", "reads", "[I", true)
  | 5 => ("RescueDeskModel", "target", "[I", true)
  | 6 => ("RescueDeskModel", "made", "I", false)
  | 7 => ("RescueDeskModel", "failed", "I", false)
  | 8 => ("RescueDeskModel", "phase", "I", false)
  | 9 => ("RescueDeskModel", "retries", "I", false)
  | 10 => ("RescueDeskModel", "states", "[I", true)
  | 11 => ("RescueDeskModel", "position", "I", false)
  | 12 => ("RescueDeskModel", "leap", "I", false)
  | 13 => ("RescueDeskModel", "round", "I", false)
  | 14 => ("RescueDeskModel", "backwards", "Z", false)
  | 15 => ("RescueDeskModel", "from", "I", false)
  | 16 => ("RescueDeskModel", "to", "I", false)
  | 17 => ("RescueDeskModel", "number", "I", false)
  | 18 => ("RescueDeskModel", "slots", "[I", true)
  | 19 => ("RescueDeskModel", "image", "[I", true)
  | _ => ("RescueDeskModel", "size", "I", false)
def ty_M : Nat → FieldType := fun k => match k with
  | 0 => .int
  | 1 => .int
  | 2 => .array .int
  | 3 => .array .int
  | 4 => .array .int
  | 5 => .array .int
  | 6 => .int
  | 7 => .int
  | 8 => .int
  | 9 => .int
  | 10 => .array .int
  | 11 => .int
  | 12 => .int
  | 13 => .int
  | 14 => .boolean
  | 15 => .int
  | 16 => .int
  | 17 => .int
  | 18 => .array .int
  | 19 => .array .int
  | _ => .int
theorem nm_M : ∀ a, a < 21 → ∀ b, b < 21 → a ≠ b → (tf_M a).2.1 ≠ (tf_M b).2.1 := by decide +kernel
theorem tyok_M : ∀ k, k < 21 → parseFieldDescriptor (tf_M k).2.2.1 = some (ty_M k) := by decide +kernel
def rn_L : String := "RescueDeskLaw"
abbrev b_R_init : ByteArray := prog_1_method_1_code
def y_R_init : MethodName := ⟨rn_R, "<init>", "()V"⟩
abbrev b_R_source : ByteArray := prog_1_method_2_code
def y_R_source : MethodName := ⟨rn_R, "source", "(I)V"⟩
abbrev b_R_sector : ByteArray := prog_1_method_3_code
def y_R_sector : MethodName := ⟨rn_R, "sector", "(III)V"⟩
abbrev b_R_begin : ByteArray := prog_1_method_4_code
def y_R_begin : MethodName := ⟨rn_R, "begin", "(I)V"⟩
abbrev b_R_step : ByteArray := prog_1_method_5_code
def y_R_step : MethodName := ⟨rn_R, "step", "()I"⟩
abbrev b_R_run : ByteArray := prog_1_method_6_code
def y_R_run : MethodName := ⟨rn_R, "run", "(I)I"⟩
abbrev b_R_save : ByteArray := prog_1_method_7_code
def y_R_save : MethodName := ⟨rn_R, "save", "()I"⟩
abbrev b_R_stop : ByteArray := prog_1_method_8_code
def y_R_stop : MethodName := ⟨rn_R, "stop", "(I)I"⟩
abbrev b_R_resume : ByteArray := prog_1_method_9_code
def y_R_resume : MethodName := ⟨rn_R, "resume", "()I"⟩
abbrev b_R_poke : ByteArray := prog_1_method_10_code
def y_R_poke : MethodName := ⟨rn_R, "poke", "(III)V"⟩
abbrev b_R_second : ByteArray := prog_1_method_11_code
def y_R_second : MethodName := ⟨rn_R, "second", "(II)Z"⟩
abbrev b_R_state : ByteArray := prog_1_method_12_code
def y_R_state : MethodName := ⟨rn_R, "state", "(I)I"⟩
abbrev b_R_count : ByteArray := prog_1_method_13_code
def y_R_count : MethodName := ⟨rn_R, "count", "(I)I"⟩
abbrev b_R_part : ByteArray := prog_1_method_14_code
def y_R_part : MethodName := ⟨rn_R, "part", "(II)I"⟩
abbrev b_R_phase : ByteArray := prog_1_method_15_code
def y_R_phase : MethodName := ⟨rn_R, "phase", "()I"⟩
abbrev b_R_out : ByteArray := prog_1_method_16_code
def y_R_out : MethodName := ⟨rn_R, "out", "(I)I"⟩
abbrev b_R_reads : ByteArray := prog_1_method_17_code
def y_R_reads : MethodName := ⟨rn_R, "reads", "(I)I"⟩
abbrev b_R_made : ByteArray := prog_1_method_18_code
def y_R_made : MethodName := ⟨rn_R, "made", "(Z)I"⟩
abbrev b_R_image : ByteArray := prog_1_method_19_code
def y_R_image : MethodName := ⟨rn_R, "image", "(II)I"⟩
abbrev b_M_init : ByteArray := prog_7_method_1_code
def y_M_init : MethodName := ⟨rn_M, "<init>", "()V"⟩
abbrev b_M_thrown : ByteArray := prog_7_method_2_code
def y_M_thrown : MethodName := ⟨rn_M, "thrown", "()I"⟩
abbrev b_M_goesOn : ByteArray := prog_7_method_3_code
def y_M_goesOn : MethodName := ⟨rn_M, "goesOn", "()Z"⟩
abbrev b_M_source : ByteArray := prog_7_method_4_code
def y_M_source : MethodName := ⟨rn_M, "source", "(I)V"⟩
abbrev b_M_isSector : ByteArray := prog_7_method_5_code
def y_M_isSector : MethodName := ⟨rn_M, "isSector", "(I)Z"⟩
abbrev b_M_sector : ByteArray := prog_7_method_6_code
def y_M_sector : MethodName := ⟨rn_M, "sector", "(III)V"⟩
abbrev b_M_reading : ByteArray := prog_7_method_7_code
def y_M_reading : MethodName := ⟨rn_M, "reading", "()Z"⟩
abbrev b_M_enter : ByteArray := prog_7_method_8_code
def y_M_enter : MethodName := ⟨rn_M, "enter", "(I)V"⟩
abbrev b_M_begin : ByteArray := prog_7_method_9_code
def y_M_begin : MethodName := ⟨rn_M, "begin", "(I)V"⟩
abbrev b_M_firstIn : ByteArray := prog_7_method_10_code
def y_M_firstIn : MethodName := ⟨rn_M, "firstIn", "(II)I"⟩
abbrev b_M_lastIn : ByteArray := prog_7_method_11_code
def y_M_lastIn : MethodName := ⟨rn_M, "lastIn", "(II)I"⟩
abbrev b_M_find : ByteArray := prog_7_method_12_code
def y_M_find : MethodName := ⟨rn_M, "find", "()Z"⟩
abbrev b_M_findBad : ByteArray := prog_7_method_13_code
def y_M_findBad : MethodName := ⟨rn_M, "findBad", "()I"⟩
abbrev b_M_mark : ByteArray := prog_7_method_14_code
def y_M_mark : MethodName := ⟨rn_M, "mark", "(I)V"⟩
abbrev b_M_trimmed : ByteArray := prog_7_method_15_code
def y_M_trimmed : MethodName := ⟨rn_M, "trimmed", "(Z)V"⟩
abbrev b_M_work : ByteArray := prog_7_method_16_code
def y_M_work : MethodName := ⟨rn_M, "work", "()V"⟩
abbrev b_M_one : ByteArray := prog_7_method_17_code
def y_M_one : MethodName := ⟨rn_M, "one", "()I"⟩
abbrev b_M_step : ByteArray := prog_7_method_18_code
def y_M_step : MethodName := ⟨rn_M, "step", "()I"⟩
abbrev b_M_run : ByteArray := prog_7_method_19_code
def y_M_run : MethodName := ⟨rn_M, "run", "(I)I"⟩
abbrev b_M_put : ByteArray := prog_7_method_20_code
def y_M_put : MethodName := ⟨rn_M, "put", "(I)V"⟩
abbrev b_M_endOf : ByteArray := prog_7_method_21_code
def y_M_endOf : MethodName := ⟨rn_M, "endOf", "(I)I"⟩
abbrev b_M_runs : ByteArray := prog_7_method_22_code
def y_M_runs : MethodName := ⟨rn_M, "runs", "()I"⟩
abbrev b_M_next : ByteArray := prog_7_method_23_code
def y_M_next : MethodName := ⟨rn_M, "next", "(I)I"⟩
abbrev b_M_makeImage : ByteArray := prog_7_method_24_code
def y_M_makeImage : MethodName := ⟨rn_M, "makeImage", "(I)V"⟩
abbrev b_M_write : ByteArray := prog_7_method_25_code
def y_M_write : MethodName := ⟨rn_M, "write", "(I)V"⟩
abbrev b_M_save : ByteArray := prog_7_method_26_code
def y_M_save : MethodName := ⟨rn_M, "save", "()I"⟩
abbrev b_M_stop : ByteArray := prog_7_method_27_code
def y_M_stop : MethodName := ⟨rn_M, "stop", "(I)I"⟩
abbrev b_M_at : ByteArray := prog_7_method_28_code
def y_M_at : MethodName := ⟨rn_M, "at", "(II)I"⟩
abbrev b_M_isWhole : ByteArray := prog_7_method_29_code
def y_M_isWhole : MethodName := ⟨rn_M, "isWhole", "(I)Z"⟩
abbrev b_M_resume : ByteArray := prog_7_method_30_code
def y_M_resume : MethodName := ⟨rn_M, "resume", "()I"⟩
abbrev b_M_poke : ByteArray := prog_7_method_31_code
def y_M_poke : MethodName := ⟨rn_M, "poke", "(III)V"⟩
abbrev b_M_second : ByteArray := prog_7_method_32_code
def y_M_second : MethodName := ⟨rn_M, "second", "(II)Z"⟩
abbrev b_M_state : ByteArray := prog_7_method_33_code
def y_M_state : MethodName := ⟨rn_M, "state", "(I)I"⟩
abbrev b_M_count : ByteArray := prog_7_method_34_code
def y_M_count : MethodName := ⟨rn_M, "count", "(I)I"⟩
abbrev b_M_part : ByteArray := prog_7_method_35_code
def y_M_part : MethodName := ⟨rn_M, "part", "(II)I"⟩
abbrev b_M_phase : ByteArray := prog_7_method_36_code
def y_M_phase : MethodName := ⟨rn_M, "phase", "()I"⟩
abbrev b_M_out : ByteArray := prog_7_method_37_code
def y_M_out : MethodName := ⟨rn_M, "out", "(I)I"⟩
abbrev b_M_reads : ByteArray := prog_7_method_38_code
def y_M_reads : MethodName := ⟨rn_M, "reads", "(I)I"⟩
abbrev b_M_made : ByteArray := prog_7_method_39_code
def y_M_made : MethodName := ⟨rn_M, "made", "(Z)I"⟩
abbrev b_M_image : ByteArray := prog_7_method_40_code
def y_M_image : MethodName := ⟨rn_M, "image", "(II)I"⟩
abbrev b_K_init : ByteArray := prog_2_method_1_code
def y_K_init : MethodName := ⟨rn_K, "<init>", "(LRescueDesk$Disk;LRescueDesk$SectorMap;)V"⟩
abbrev b_K_currentPhase : ByteArray := prog_2_method_2_code
def y_K_currentPhase : MethodName := ⟨rn_K, "currentPhase", "()I"⟩
abbrev b_K_goesOn : ByteArray := prog_2_method_3_code
def y_K_goesOn : MethodName := ⟨rn_K, "goesOn", "()Z"⟩
abbrev b_K_forget : ByteArray := prog_2_method_4_code
def y_K_forget : MethodName := ⟨rn_K, "forget", "()V"⟩
abbrev b_K_halt : ByteArray := prog_2_method_5_code
def y_K_halt : MethodName := ⟨rn_K, "halt", "()V"⟩
abbrev b_K_start : ByteArray := prog_2_method_6_code
def y_K_start : MethodName := ⟨rn_K, "start", "(I)V"⟩
abbrev b_K_enter : ByteArray := prog_2_method_7_code
def y_K_enter : MethodName := ⟨rn_K, "enter", "(I)V"⟩
abbrev b_K_makeStep : ByteArray := prog_2_method_8_code
def y_K_makeStep : MethodName := ⟨rn_K, "makeStep", "()I"⟩
abbrev b_K_readIn : ByteArray := prog_2_method_9_code
def y_K_readIn : MethodName := ⟨rn_K, "readIn", "(I)Z"⟩
abbrev b_K_readForward : ByteArray := prog_2_method_10_code
def y_K_readForward : MethodName := ⟨rn_K, "readForward", "(Z)Z"⟩
abbrev b_K_readBackward : ByteArray := prog_2_method_11_code
def y_K_readBackward : MethodName := ⟨rn_K, "readBackward", "()Z"⟩
abbrev b_K_takeLeap : ByteArray := prog_2_method_12_code
def y_K_takeLeap : MethodName := ⟨rn_K, "takeLeap", "(Z)I"⟩
abbrev b_K_trim : ByteArray := prog_2_method_13_code
def y_K_trim : MethodName := ⟨rn_K, "trim", "()Z"⟩
abbrev b_K_scrape : ByteArray := prog_2_method_14_code
def y_K_scrape : MethodName := ⟨rn_K, "scrape", "()Z"⟩
abbrev b_K_retry : ByteArray := prog_2_method_15_code
def y_K_retry : MethodName := ⟨rn_K, "retry", "()Z"⟩
abbrev b_K_nextBad : ByteArray := prog_2_method_16_code
def y_K_nextBad : MethodName := ⟨rn_K, "nextBad", "()I"⟩
abbrev b_K_enterRound : ByteArray := prog_2_method_17_code
def y_K_enterRound : MethodName := ⟨rn_K, "enterRound", "(I)V"⟩
abbrev b_K_goesUp : ByteArray := prog_2_method_18_code
def y_K_goesUp : MethodName := ⟨rn_K, "goesUp", "(I)Z"⟩
abbrev b_K_rescue : ByteArray := prog_2_method_19_code
def y_K_rescue : MethodName := ⟨rn_K, "rescue", "(III)Z"⟩
abbrev b_D_init : ByteArray := prog_3_method_1_code
def y_D_init : MethodName := ⟨rn_D, "<init>", "()V"⟩
abbrev b_D_lay : ByteArray := prog_3_method_2_code
def y_D_lay : MethodName := ⟨rn_D, "lay", "(I)V"⟩
abbrev b_D_size : ByteArray := prog_3_method_3_code
def y_D_size : MethodName := ⟨rn_D, "size", "()I"⟩
abbrev b_D_has : ByteArray := prog_3_method_4_code
def y_D_has : MethodName := ⟨rn_D, "has", "(I)Z"⟩
abbrev b_D_put : ByteArray := prog_3_method_5_code
def y_D_put : MethodName := ⟨rn_D, "put", "(III)V"⟩
abbrev b_D_deliver : ByteArray := prog_3_method_6_code
def y_D_deliver : MethodName := ⟨rn_D, "deliver", "(II)V"⟩
abbrev b_D_wordOut : ByteArray := prog_3_method_7_code
def y_D_wordOut : MethodName := ⟨rn_D, "wordOut", "(I)I"⟩
abbrev b_D_readsOf : ByteArray := prog_3_method_8_code
def y_D_readsOf : MethodName := ⟨rn_D, "readsOf", "(I)I"⟩
abbrev b_D_stretchesRead : ByteArray := prog_3_method_9_code
def y_D_stretchesRead : MethodName := ⟨rn_D, "stretchesRead", "(Z)I"⟩
abbrev b_D_readStretch : ByteArray := prog_3_method_10_code
def y_D_readStretch : MethodName := ⟨rn_D, "readStretch", "(II)Z"⟩
abbrev b_V_init : ByteArray := prog_4_method_1_code
def y_V_init : MethodName := ⟨rn_V, "<init>", "()V"⟩
abbrev b_V_wipe : ByteArray := prog_4_method_2_code
def y_V_wipe : MethodName := ⟨rn_V, "wipe", "()V"⟩
abbrev b_V_has : ByteArray := prog_4_method_3_code
def y_V_has : MethodName := ⟨rn_V, "has", "(II)Z"⟩
abbrev b_V_byteAt : ByteArray := prog_4_method_4_code
def y_V_byteAt : MethodName := ⟨rn_V, "byteAt", "(II)I"⟩
abbrev b_V_put : ByteArray := prog_4_method_5_code
def y_V_put : MethodName := ⟨rn_V, "put", "(III)V"⟩
abbrev b_V_write : ByteArray := prog_4_method_6_code
def y_V_write : MethodName := ⟨rn_V, "write", "(LRescueDesk$SectorMap;I)I"⟩
abbrev b_V_draw : ByteArray := prog_4_method_7_code
def y_V_draw : MethodName := ⟨rn_V, "draw", "(LRescueDesk$SectorMap;)I"⟩
abbrev b_V_placeOfRun : ByteArray := prog_4_method_8_code
def y_V_placeOfRun : MethodName := ⟨rn_V, "placeOfRun", "(I)I"⟩
abbrev b_V_sumBefore : ByteArray := prog_4_method_9_code
def y_V_sumBefore : MethodName := ⟨rn_V, "sumBefore", "([II)I"⟩
abbrev b_V_behindNumber : ByteArray := prog_4_method_10_code
def y_V_behindNumber : MethodName := ⟨rn_V, "behindNumber", "(I)I"⟩
abbrev b_V_newestWhole : ByteArray := prog_4_method_11_code
def y_V_newestWhole : MethodName := ⟨rn_V, "newestWhole", "(I)I"⟩
abbrev b_V_isWhole : ByteArray := prog_4_method_12_code
def y_V_isWhole : MethodName := ⟨rn_V, "isWhole", "(II)Z"⟩
abbrev b_V_hasRuns : ByteArray := prog_4_method_13_code
def y_V_hasRuns : MethodName := ⟨rn_V, "hasRuns", "(III)Z"⟩
abbrev b_V_load : ByteArray := prog_4_method_14_code
def y_V_load : MethodName := ⟨rn_V, "load", "(ILRescueDesk$SectorMap;)V"⟩
abbrev b_S_init : ByteArray := prog_5_method_1_code
def y_S_init : MethodName := ⟨rn_S, "<init>", "()V"⟩
abbrev b_S_clear : ByteArray := prog_5_method_2_code
def y_S_clear : MethodName := ⟨rn_S, "clear", "(I)V"⟩
abbrev b_S_size : ByteArray := prog_5_method_3_code
def y_S_size : MethodName := ⟨rn_S, "size", "()I"⟩
abbrev b_S_stateOf : ByteArray := prog_5_method_4_code
def y_S_stateOf : MethodName := ⟨rn_S, "stateOf", "(I)I"⟩
abbrev b_S_mark : ByteArray := prog_5_method_5_code
def y_S_mark : MethodName := ⟨rn_S, "mark", "(III)V"⟩
abbrev b_S_countOf : ByteArray := prog_5_method_6_code
def y_S_countOf : MethodName := ⟨rn_S, "countOf", "(I)I"⟩
abbrev b_S_firstFrom : ByteArray := prog_5_method_7_code
def y_S_firstFrom : MethodName := ⟨rn_S, "firstFrom", "(II)I"⟩
abbrev b_S_lastBelow : ByteArray := prog_5_method_8_code
def y_S_lastBelow : MethodName := ⟨rn_S, "lastBelow", "(II)I"⟩
abbrev b_S_behindStretch : ByteArray := prog_5_method_9_code
def y_S_behindStretch : MethodName := ⟨rn_S, "behindStretch", "(II)I"⟩
abbrev b_S_firstOfStretch : ByteArray := prog_5_method_10_code
def y_S_firstOfStretch : MethodName := ⟨rn_S, "firstOfStretch", "(II)I"⟩
abbrev b_S_startsRun : ByteArray := prog_5_method_11_code
def y_S_startsRun : MethodName := ⟨rn_S, "startsRun", "(I)Z"⟩
abbrev b_S_firstOfRun : ByteArray := prog_5_method_12_code
def y_S_firstOfRun : MethodName := ⟨rn_S, "firstOfRun", "(I)I"⟩
abbrev b_L_source : ByteArray := method_3_code
def y_L_source : MethodName := ⟨rn_L, "source", "(LRescueDesk;I)I"⟩
abbrev b_L_sector : ByteArray := method_4_code
def y_L_sector : MethodName := ⟨rn_L, "sector", "(LRescueDesk;III)I"⟩
abbrev b_L_begin : ByteArray := method_5_code
def y_L_begin : MethodName := ⟨rn_L, "begin", "(LRescueDesk;I)I"⟩
abbrev b_L_step : ByteArray := method_6_code
def y_L_step : MethodName := ⟨rn_L, "step", "(LRescueDesk;[J)I"⟩
abbrev b_L_run : ByteArray := method_7_code
def y_L_run : MethodName := ⟨rn_L, "run", "(LRescueDesk;I[J)I"⟩
abbrev b_L_save : ByteArray := method_8_code
def y_L_save : MethodName := ⟨rn_L, "save", "(LRescueDesk;[J)I"⟩
abbrev b_L_stop : ByteArray := method_9_code
def y_L_stop : MethodName := ⟨rn_L, "stop", "(LRescueDesk;I[J)I"⟩
abbrev b_L_resume : ByteArray := method_10_code
def y_L_resume : MethodName := ⟨rn_L, "resume", "(LRescueDesk;[J)I"⟩
abbrev b_L_poke : ByteArray := method_11_code
def y_L_poke : MethodName := ⟨rn_L, "poke", "(LRescueDesk;III)I"⟩
abbrev b_L_second : ByteArray := method_12_code
def y_L_second : MethodName := ⟨rn_L, "second", "(LRescueDesk;II[J)I"⟩
abbrev jClasses : List vw_C := [(rn_K, tf_K, 8), (rn_D, tf_D, 7), (rn_V, tf_V, 3), (rn_S, tf_S, 2), (rn_R, tf_R, 4), (rn_M, tf_M, 21)]
end
section
/-! The walk of a method over a world that is one list of cells: jv_V is the kit's W for every heap that holds the world and every locals that hold the listed values. One row an instruction. -/
section JV
variable {p : Program} {l : Launch} {e : Env} {R : Room} {s : State} {m : MethodId} {args : Array Value} {below : List Frame} {meth : Method} {c : Code} {cells slots : Nat} {Q : State → Prop}
variable {cc : ByteArray} {pc : Nat} {st : List Value} {D : va_G} {cl : List vw_C} {A : Nat → Prop} {tys : List (ClassId × FieldType)} {ws : va_W} {nL : Nat} {lv : List (Nat × Value)}
def jv_V (p : Program) (l : Launch) (e : Env) (R : Room) (s : State) (m : MethodId) (args : Array Value) (below : List Frame) (meth : Method) (c : Code) (D : va_G) (cl : List vw_C) (A : Nat → Prop) (nL cells slots : Nat) (Q : State → Prop) (ws : va_W) (lv : List (Nat × Value)) (pc : Nat) (st : List Value) : Prop :=
  ∀ (H : Heap) (locs : List Loc) (ls : Array Slot), va_P D cl ws H → va_D A ws → va_S A s.heap H locs → lv_has ls nL lv → W p l e R s m args below meth c H locs cells slots Q (F0 m pc ls st)
abbrev jv_B (p : Program) (c : Code) (cc : ByteArray) : Prop := p.tables.exec = Jvm.exec ∧ c.code = cc
/-- the listed locals in another order, or fewer -/
theorem jv_sub {lv' : List (Nat × Value)} (ks : List Nat) (hl : lv_pick lv ks = lv') (k : jv_V p l e R s m args below meth c D cl A nL cells slots Q ws lv' pc st) : jv_V p l e R s m args below meth c D cl A nL cells slots Q ws lv pc st := fun H locs ls a b d h => k H locs ls a b d (lv_sub h ks hl)
/-- the world's cells in another order, or fewer -/
theorem jv_ws {ws' : va_W} (is : List Nat) (hn : va_nd is = true) (hs : is.filterMap (fun i => ws[i]?) = ws') (hs2 : is.map (fun i => ws[i]?) = ws'.map some) (k : jv_V p l e R s m args below meth c D cl A nL cells slots Q ws' lv pc st) : jv_V p l e R s m args below meth c D cl A nL cells slots Q ws lv pc st := fun H locs ls a b d h => k H locs ls (a.sub is hs) (b.sub is hn hs2) d h
theorem jv_widen {k n : Nat} (h1 : cells ≤ k) (h2 : slots ≤ n) (kk : jv_V p l e R s m args below meth c D cl A nL k n Q ws lv pc st) : jv_V p l e R s m args below meth c D cl A nL cells slots Q ws lv pc st := fun H locs ls a b d h => W.widen h1 h2 (kk H locs ls a b d h)
theorem jv_iconst (B : jv_B p c cc) {n : Int} {v : Int32} (hd : decode cc pc = .ok (.iconst n, 1)) (hv : Int32.ofInt n = v)
    (k : jv_V p l e R s m args below meth c D cl A nL cells slots Q ws lv (pc + 1) (.int v :: st)) : jv_V p l e R s m args below meth c D cl A nL cells slots Q ws lv pc (st) := fun H locs ls a b d h => lv_iconst B.1 B.2 hd hv (k H locs ls a b d h)
theorem jv_bipush (B : jv_B p c cc) {n : Int} {v : Int32} (hd : decode cc pc = .ok (.bipush n, 2)) (hv : (Int8.ofInt n).toInt32 = v)
    (k : jv_V p l e R s m args below meth c D cl A nL cells slots Q ws lv (pc + 2) (.int v :: st)) : jv_V p l e R s m args below meth c D cl A nL cells slots Q ws lv pc (st) := fun H locs ls a b d h => lv_bipush B.1 B.2 hd hv (k H locs ls a b d h)
theorem jv_sipush (B : jv_B p c cc) {n : Int} {v : Int32} (hd : decode cc pc = .ok (.sipush n, 3)) (hv : (Int16.ofInt n).toInt32 = v)
    (k : jv_V p l e R s m args below meth c D cl A nL cells slots Q ws lv (pc + 3) (.int v :: st)) : jv_V p l e R s m args below meth c D cl A nL cells slots Q ws lv pc (st) := fun H locs ls a b d h => lv_sipush B.1 B.2 hd hv (k H locs ls a b d h)
theorem jv_lconst (B : jv_B p c cc) {n : Fin 2} {v : Int64} (hd : decode cc pc = .ok (.lconst n, 1)) (hv : Int64.ofNat (n : Nat) = v)
    (k : jv_V p l e R s m args below meth c D cl A nL cells slots Q ws lv (pc + 1) (.long v :: st)) : jv_V p l e R s m args below meth c D cl A nL cells slots Q ws lv pc (st) := fun H locs ls a b d h => lv_lconst B.1 B.2 hd hv (k H locs ls a b d h)
theorem jv_iload_n (B : jv_B p c cc) {j : Fin 4} {i : Nat} {x : Int32} (hd : decode cc pc = .ok (.iload_n j, 1)) (hi : (j : Nat) = i) (n : Nat) (hn : lv[n]? = some (i, .int x))
    (k : jv_V p l e R s m args below meth c D cl A nL cells slots Q ws lv (pc + 1) (.int x :: st)) : jv_V p l e R s m args below meth c D cl A nL cells slots Q ws lv pc (st) := fun H locs ls a b d h => lv_iload_n B.1 B.2 hd hi (lv_at h n hn) (k H locs ls a b d h)
theorem jv_iload (B : jv_B p c cc) {i : Nat} {x : Int32} (hd : decode cc pc = .ok (.iload i, 2)) (n : Nat) (hn : lv[n]? = some (i, .int x))
    (k : jv_V p l e R s m args below meth c D cl A nL cells slots Q ws lv (pc + 2) (.int x :: st)) : jv_V p l e R s m args below meth c D cl A nL cells slots Q ws lv pc (st) := fun H locs ls a b d h => lv_iload B.1 B.2 hd (lv_at h n hn) (k H locs ls a b d h)
theorem jv_lload_n (B : jv_B p c cc) {j : Fin 4} {i : Nat} {x : Int64} (hd : decode cc pc = .ok (.lload_n j, 1)) (hi : (j : Nat) = i) (n : Nat) (hn : lv[n]? = some (i, .long x))
    (k : jv_V p l e R s m args below meth c D cl A nL cells slots Q ws lv (pc + 1) (.long x :: st)) : jv_V p l e R s m args below meth c D cl A nL cells slots Q ws lv pc (st) := fun H locs ls a b d h => lv_lload_n B.1 B.2 hd hi (lv_at h n hn) (k H locs ls a b d h)
theorem jv_lload (B : jv_B p c cc) {i : Nat} {x : Int64} (hd : decode cc pc = .ok (.lload i, 2)) (n : Nat) (hn : lv[n]? = some (i, .long x))
    (k : jv_V p l e R s m args below meth c D cl A nL cells slots Q ws lv (pc + 2) (.long x :: st)) : jv_V p l e R s m args below meth c D cl A nL cells slots Q ws lv pc (st) := fun H locs ls a b d h => lv_lload B.1 B.2 hd (lv_at h n hn) (k H locs ls a b d h)
theorem jv_aload_n (B : jv_B p c cc) {j : Fin 4} {i : Nat} {x : Nat} (hd : decode cc pc = .ok (.aload_n j, 1)) (hi : (j : Nat) = i) (n : Nat) (hn : lv[n]? = some (i, .ref x))
    (k : jv_V p l e R s m args below meth c D cl A nL cells slots Q ws lv (pc + 1) (.ref x :: st)) : jv_V p l e R s m args below meth c D cl A nL cells slots Q ws lv pc (st) := fun H locs ls a b d h => lv_aload_n B.1 B.2 hd hi (lv_at h n hn) (k H locs ls a b d h)
theorem jv_aload (B : jv_B p c cc) {i : Nat} {x : Nat} (hd : decode cc pc = .ok (.aload i, 2)) (n : Nat) (hn : lv[n]? = some (i, .ref x))
    (k : jv_V p l e R s m args below meth c D cl A nL cells slots Q ws lv (pc + 2) (.ref x :: st)) : jv_V p l e R s m args below meth c D cl A nL cells slots Q ws lv pc (st) := fun H locs ls a b d h => lv_aload B.1 B.2 hd (lv_at h n hn) (k H locs ls a b d h)
theorem jv_istore_n (B : jv_B p c cc) {j : Fin 4} {i : Nat} {x : Int32} {lv' : List (Nat × Value)} (hd : decode cc pc = .ok (.istore_n j, 1)) (hi : (j : Nat) = i) (hn : i < nL) (hl : (i, Value.int x) :: lv.filter (fun q => !(q.1 == i) && !(q.1 + 1 == i && q.2.category == 2)) = lv')
    (k : jv_V p l e R s m args below meth c D cl A nL cells slots Q ws lv' (pc + 1) (st)) : jv_V p l e R s m args below meth c D cl A nL cells slots Q ws lv pc (.int x :: st) := fun H locs ls a b d h => lv_istore_n B.1 B.2 hd hi h hn hl (fun ls' h' => k H locs ls' a b d h')
theorem jv_istore (B : jv_B p c cc) {i : Nat} {x : Int32} {lv' : List (Nat × Value)} (hd : decode cc pc = .ok (.istore i, 2)) (hn : i < nL) (hl : (i, Value.int x) :: lv.filter (fun q => !(q.1 == i) && !(q.1 + 1 == i && q.2.category == 2)) = lv')
    (k : jv_V p l e R s m args below meth c D cl A nL cells slots Q ws lv' (pc + 2) (st)) : jv_V p l e R s m args below meth c D cl A nL cells slots Q ws lv pc (.int x :: st) := fun H locs ls a b d h => lv_istore B.1 B.2 hd h hn hl (fun ls' h' => k H locs ls' a b d h')
theorem jv_astore_n (B : jv_B p c cc) {j : Fin 4} {i : Nat} {x : Nat} {lv' : List (Nat × Value)} (hd : decode cc pc = .ok (.astore_n j, 1)) (hi : (j : Nat) = i) (hn : i < nL) (hl : (i, Value.ref x) :: lv.filter (fun q => !(q.1 == i) && !(q.1 + 1 == i && q.2.category == 2)) = lv')
    (k : jv_V p l e R s m args below meth c D cl A nL cells slots Q ws lv' (pc + 1) (st)) : jv_V p l e R s m args below meth c D cl A nL cells slots Q ws lv pc (.ref x :: st) := fun H locs ls a b d h => lv_astore_n B.1 B.2 hd hi h hn hl (fun ls' h' => k H locs ls' a b d h')
theorem jv_astore (B : jv_B p c cc) {i : Nat} {x : Nat} {lv' : List (Nat × Value)} (hd : decode cc pc = .ok (.astore i, 2)) (hn : i < nL) (hl : (i, Value.ref x) :: lv.filter (fun q => !(q.1 == i) && !(q.1 + 1 == i && q.2.category == 2)) = lv')
    (k : jv_V p l e R s m args below meth c D cl A nL cells slots Q ws lv' (pc + 2) (st)) : jv_V p l e R s m args below meth c D cl A nL cells slots Q ws lv pc (.ref x :: st) := fun H locs ls a b d h => lv_astore B.1 B.2 hd h hn hl (fun ls' h' => k H locs ls' a b d h')
theorem jv_iinc (B : jv_B p c cc) {i n9 : Nat} {n : Int} {x v : Int32} {lv' : List (Nat × Value)} (hd : decode cc pc = .ok (.iinc i n, 3)) (hk : lv[n9]? = some (i, .int x)) (hv : x + Int32.ofInt n = v) (hn : i < nL) (hl : (i, Value.int v) :: lv.filter (fun q => !(q.1 == i) && !(q.1 + 1 == i && q.2.category == 2)) = lv')
    (k : jv_V p l e R s m args below meth c D cl A nL cells slots Q ws lv' (pc + 3) (st)) : jv_V p l e R s m args below meth c D cl A nL cells slots Q ws lv pc (st) := fun H locs ls a b d h => lv_iinc B.1 B.2 hd h hk hv hn hl (fun ls' h' => k H locs ls' a b d h')
theorem jv_iadd (B : jv_B p c cc) {x y : Int32} (hd : decode cc pc = .ok (.iadd, 1))
    (k : jv_V p l e R s m args below meth c D cl A nL cells slots Q ws lv (pc + 1) (.int (x + y) :: st)) : jv_V p l e R s m args below meth c D cl A nL cells slots Q ws lv pc (.int y :: .int x :: st) := fun H locs ls a b d h => lv_iadd B.1 B.2 hd (k H locs ls a b d h)
theorem jv_isub (B : jv_B p c cc) {x y : Int32} (hd : decode cc pc = .ok (.isub, 1))
    (k : jv_V p l e R s m args below meth c D cl A nL cells slots Q ws lv (pc + 1) (.int (x - y) :: st)) : jv_V p l e R s m args below meth c D cl A nL cells slots Q ws lv pc (.int y :: .int x :: st) := fun H locs ls a b d h => lv_isub B.1 B.2 hd (k H locs ls a b d h)
theorem jv_imul (B : jv_B p c cc) {x y : Int32} (hd : decode cc pc = .ok (.imul, 1))
    (k : jv_V p l e R s m args below meth c D cl A nL cells slots Q ws lv (pc + 1) (.int (x * y) :: st)) : jv_V p l e R s m args below meth c D cl A nL cells slots Q ws lv pc (.int y :: .int x :: st) := fun H locs ls a b d h => lv_imul B.1 B.2 hd (k H locs ls a b d h)
theorem jv_iand (B : jv_B p c cc) {x y : Int32} (hd : decode cc pc = .ok (.iand, 1))
    (k : jv_V p l e R s m args below meth c D cl A nL cells slots Q ws lv (pc + 1) (.int (x &&& y) :: st)) : jv_V p l e R s m args below meth c D cl A nL cells slots Q ws lv pc (.int y :: .int x :: st) := fun H locs ls a b d h => lv_iand B.1 B.2 hd (k H locs ls a b d h)
theorem jv_ior (B : jv_B p c cc) {x y : Int32} (hd : decode cc pc = .ok (.ior, 1))
    (k : jv_V p l e R s m args below meth c D cl A nL cells slots Q ws lv (pc + 1) (.int (x ||| y) :: st)) : jv_V p l e R s m args below meth c D cl A nL cells slots Q ws lv pc (.int y :: .int x :: st) := fun H locs ls a b d h => lv_ior B.1 B.2 hd (k H locs ls a b d h)
theorem jv_ixor (B : jv_B p c cc) {x y : Int32} (hd : decode cc pc = .ok (.ixor, 1))
    (k : jv_V p l e R s m args below meth c D cl A nL cells slots Q ws lv (pc + 1) (.int (x ^^^ y) :: st)) : jv_V p l e R s m args below meth c D cl A nL cells slots Q ws lv pc (.int y :: .int x :: st) := fun H locs ls a b d h => lv_ixor B.1 B.2 hd (k H locs ls a b d h)
theorem jv_idiv (B : jv_B p c cc) {x y : Int32} (hd : decode cc pc = .ok (.idiv, 1)) (hne : ¬ y = 0)
    (k : jv_V p l e R s m args below meth c D cl A nL cells slots Q ws lv (pc + 1) (.int (x / y) :: st)) : jv_V p l e R s m args below meth c D cl A nL cells slots Q ws lv pc (.int y :: .int x :: st) := fun H locs ls a b d h => lv_idiv B.1 B.2 hd hne (k H locs ls a b d h)
theorem jv_irem (B : jv_B p c cc) {x y : Int32} (hd : decode cc pc = .ok (.irem, 1)) (hne : ¬ y = 0)
    (k : jv_V p l e R s m args below meth c D cl A nL cells slots Q ws lv (pc + 1) (.int (x - x / y * y) :: st)) : jv_V p l e R s m args below meth c D cl A nL cells slots Q ws lv pc (.int y :: .int x :: st) := fun H locs ls a b d h => lv_irem B.1 B.2 hd hne (k H locs ls a b d h)
theorem jv_i2l (B : jv_B p c cc) {x : Int32} {v : Int64} (hd : decode cc pc = .ok (.i2l, 1)) (hv : x.toInt64 = v)
    (k : jv_V p l e R s m args below meth c D cl A nL cells slots Q ws lv (pc + 1) (.long v :: st)) : jv_V p l e R s m args below meth c D cl A nL cells slots Q ws lv pc (.int x :: st) := fun H locs ls a b d h => lv_i2l B.1 B.2 hd hv (k H locs ls a b d h)
theorem jv_dup (B : jv_B p c cc) {va : Value} (hd : decode cc pc = .ok (.dup, 1)) (ha : va.category = 1)
    (k : jv_V p l e R s m args below meth c D cl A nL cells slots Q ws lv (pc + 1) (va :: va :: st)) : jv_V p l e R s m args below meth c D cl A nL cells slots Q ws lv pc (va :: st) := fun H locs ls a b d h => lv_dup B.1 B.2 hd ha (k H locs ls a b d h)
theorem jv_pop (B : jv_B p c cc) {va : Value} (hd : decode cc pc = .ok (.pop, 1)) (ha : va.category = 1)
    (k : jv_V p l e R s m args below meth c D cl A nL cells slots Q ws lv (pc + 1) (st)) : jv_V p l e R s m args below meth c D cl A nL cells slots Q ws lv pc (va :: st) := fun H locs ls a b d h => lv_pop B.1 B.2 hd ha (k H locs ls a b d h)
theorem jv_dup_x1 (B : jv_B p c cc) {va vb : Value} (hd : decode cc pc = .ok (.dup_x1, 1)) (ha : va.category = 1) (hb : vb.category = 1)
    (k : jv_V p l e R s m args below meth c D cl A nL cells slots Q ws lv (pc + 1) (va :: vb :: va :: st)) : jv_V p l e R s m args below meth c D cl A nL cells slots Q ws lv pc (va :: vb :: st) := fun H locs ls a b d h => lv_dup_x1 B.1 B.2 hd ha hb (k H locs ls a b d h)
theorem jv_dup2 (B : jv_B p c cc) {va vb : Value} (hd : decode cc pc = .ok (.dup2, 1)) (ha : va.category = 1) (hb : vb.category = 1)
    (k : jv_V p l e R s m args below meth c D cl A nL cells slots Q ws lv (pc + 1) (va :: vb :: va :: vb :: st)) : jv_V p l e R s m args below meth c D cl A nL cells slots Q ws lv pc (va :: vb :: st) := fun H locs ls a b d h => lv_dup2_11 B.1 B.2 hd ha hb (k H locs ls a b d h)
theorem jv_if_eq (B : jv_B p c cc) {x : Int32} {off : Int} {tgt : Nat} (hd : decode cc pc = .ok (.ifCond .eq off, 3)) (ht : (pc : Int) + off = (tgt : Int))
    (kt : x = 0 → jv_V p l e R s m args below meth c D cl A nL cells slots Q ws lv tgt st) (kf : ¬ x = 0 → jv_V p l e R s m args below meth c D cl A nL cells slots Q ws lv (pc + 3) st) : jv_V p l e R s m args below meth c D cl A nL cells slots Q ws lv pc (.int x :: st) := fun H locs ls a b d h => lv_if_eq B.1 B.2 hd ht (fun q => kt q H locs ls a b d h) (fun q => kf q H locs ls a b d h)
theorem jv_if_ne (B : jv_B p c cc) {x : Int32} {off : Int} {tgt : Nat} (hd : decode cc pc = .ok (.ifCond .ne off, 3)) (ht : (pc : Int) + off = (tgt : Int))
    (kt : ¬ x = 0 → jv_V p l e R s m args below meth c D cl A nL cells slots Q ws lv tgt st) (kf : x = 0 → jv_V p l e R s m args below meth c D cl A nL cells slots Q ws lv (pc + 3) st) : jv_V p l e R s m args below meth c D cl A nL cells slots Q ws lv pc (.int x :: st) := fun H locs ls a b d h => lv_if_ne B.1 B.2 hd ht (fun q => kt q H locs ls a b d h) (fun q => kf q H locs ls a b d h)
theorem jv_if_lt (B : jv_B p c cc) {x : Int32} {off : Int} {tgt : Nat} (hd : decode cc pc = .ok (.ifCond .lt off, 3)) (ht : (pc : Int) + off = (tgt : Int))
    (kt : x < 0 → jv_V p l e R s m args below meth c D cl A nL cells slots Q ws lv tgt st) (kf : ¬ x < 0 → jv_V p l e R s m args below meth c D cl A nL cells slots Q ws lv (pc + 3) st) : jv_V p l e R s m args below meth c D cl A nL cells slots Q ws lv pc (.int x :: st) := fun H locs ls a b d h => lv_if_lt B.1 B.2 hd ht (fun q => kt q H locs ls a b d h) (fun q => kf q H locs ls a b d h)
theorem jv_if_ge (B : jv_B p c cc) {x : Int32} {off : Int} {tgt : Nat} (hd : decode cc pc = .ok (.ifCond .ge off, 3)) (ht : (pc : Int) + off = (tgt : Int))
    (kt : 0 ≤ x → jv_V p l e R s m args below meth c D cl A nL cells slots Q ws lv tgt st) (kf : ¬ 0 ≤ x → jv_V p l e R s m args below meth c D cl A nL cells slots Q ws lv (pc + 3) st) : jv_V p l e R s m args below meth c D cl A nL cells slots Q ws lv pc (.int x :: st) := fun H locs ls a b d h => lv_if_ge B.1 B.2 hd ht (fun q => kt q H locs ls a b d h) (fun q => kf q H locs ls a b d h)
theorem jv_if_gt (B : jv_B p c cc) {x : Int32} {off : Int} {tgt : Nat} (hd : decode cc pc = .ok (.ifCond .gt off, 3)) (ht : (pc : Int) + off = (tgt : Int))
    (kt : 0 < x → jv_V p l e R s m args below meth c D cl A nL cells slots Q ws lv tgt st) (kf : ¬ 0 < x → jv_V p l e R s m args below meth c D cl A nL cells slots Q ws lv (pc + 3) st) : jv_V p l e R s m args below meth c D cl A nL cells slots Q ws lv pc (.int x :: st) := fun H locs ls a b d h => lv_if_gt B.1 B.2 hd ht (fun q => kt q H locs ls a b d h) (fun q => kf q H locs ls a b d h)
theorem jv_if_le (B : jv_B p c cc) {x : Int32} {off : Int} {tgt : Nat} (hd : decode cc pc = .ok (.ifCond .le off, 3)) (ht : (pc : Int) + off = (tgt : Int))
    (kt : x ≤ 0 → jv_V p l e R s m args below meth c D cl A nL cells slots Q ws lv tgt st) (kf : ¬ x ≤ 0 → jv_V p l e R s m args below meth c D cl A nL cells slots Q ws lv (pc + 3) st) : jv_V p l e R s m args below meth c D cl A nL cells slots Q ws lv pc (.int x :: st) := fun H locs ls a b d h => lv_if_le B.1 B.2 hd ht (fun q => kt q H locs ls a b d h) (fun q => kf q H locs ls a b d h)
theorem jv_icmp_eq (B : jv_B p c cc) {x y : Int32} {off : Int} {tgt : Nat} (hd : decode cc pc = .ok (.if_icmp .eq off, 3)) (ht : (pc : Int) + off = (tgt : Int))
    (kt : x = y → jv_V p l e R s m args below meth c D cl A nL cells slots Q ws lv tgt st) (kf : ¬ x = y → jv_V p l e R s m args below meth c D cl A nL cells slots Q ws lv (pc + 3) st) : jv_V p l e R s m args below meth c D cl A nL cells slots Q ws lv pc (.int y :: .int x :: st) := fun H locs ls a b d h => lv_icmp_eq B.1 B.2 hd ht (fun q => kt q H locs ls a b d h) (fun q => kf q H locs ls a b d h)
theorem jv_icmp_ne (B : jv_B p c cc) {x y : Int32} {off : Int} {tgt : Nat} (hd : decode cc pc = .ok (.if_icmp .ne off, 3)) (ht : (pc : Int) + off = (tgt : Int))
    (kt : ¬ x = y → jv_V p l e R s m args below meth c D cl A nL cells slots Q ws lv tgt st) (kf : x = y → jv_V p l e R s m args below meth c D cl A nL cells slots Q ws lv (pc + 3) st) : jv_V p l e R s m args below meth c D cl A nL cells slots Q ws lv pc (.int y :: .int x :: st) := fun H locs ls a b d h => lv_icmp_ne B.1 B.2 hd ht (fun q => kt q H locs ls a b d h) (fun q => kf q H locs ls a b d h)
theorem jv_icmp_lt (B : jv_B p c cc) {x y : Int32} {off : Int} {tgt : Nat} (hd : decode cc pc = .ok (.if_icmp .lt off, 3)) (ht : (pc : Int) + off = (tgt : Int))
    (kt : x < y → jv_V p l e R s m args below meth c D cl A nL cells slots Q ws lv tgt st) (kf : ¬ x < y → jv_V p l e R s m args below meth c D cl A nL cells slots Q ws lv (pc + 3) st) : jv_V p l e R s m args below meth c D cl A nL cells slots Q ws lv pc (.int y :: .int x :: st) := fun H locs ls a b d h => lv_icmp_lt B.1 B.2 hd ht (fun q => kt q H locs ls a b d h) (fun q => kf q H locs ls a b d h)
theorem jv_icmp_ge (B : jv_B p c cc) {x y : Int32} {off : Int} {tgt : Nat} (hd : decode cc pc = .ok (.if_icmp .ge off, 3)) (ht : (pc : Int) + off = (tgt : Int))
    (kt : y ≤ x → jv_V p l e R s m args below meth c D cl A nL cells slots Q ws lv tgt st) (kf : ¬ y ≤ x → jv_V p l e R s m args below meth c D cl A nL cells slots Q ws lv (pc + 3) st) : jv_V p l e R s m args below meth c D cl A nL cells slots Q ws lv pc (.int y :: .int x :: st) := fun H locs ls a b d h => lv_icmp_ge B.1 B.2 hd ht (fun q => kt q H locs ls a b d h) (fun q => kf q H locs ls a b d h)
theorem jv_icmp_gt (B : jv_B p c cc) {x y : Int32} {off : Int} {tgt : Nat} (hd : decode cc pc = .ok (.if_icmp .gt off, 3)) (ht : (pc : Int) + off = (tgt : Int))
    (kt : y < x → jv_V p l e R s m args below meth c D cl A nL cells slots Q ws lv tgt st) (kf : ¬ y < x → jv_V p l e R s m args below meth c D cl A nL cells slots Q ws lv (pc + 3) st) : jv_V p l e R s m args below meth c D cl A nL cells slots Q ws lv pc (.int y :: .int x :: st) := fun H locs ls a b d h => lv_icmp_gt B.1 B.2 hd ht (fun q => kt q H locs ls a b d h) (fun q => kf q H locs ls a b d h)
theorem jv_icmp_le (B : jv_B p c cc) {x y : Int32} {off : Int} {tgt : Nat} (hd : decode cc pc = .ok (.if_icmp .le off, 3)) (ht : (pc : Int) + off = (tgt : Int))
    (kt : x ≤ y → jv_V p l e R s m args below meth c D cl A nL cells slots Q ws lv tgt st) (kf : ¬ x ≤ y → jv_V p l e R s m args below meth c D cl A nL cells slots Q ws lv (pc + 3) st) : jv_V p l e R s m args below meth c D cl A nL cells slots Q ws lv pc (.int y :: .int x :: st) := fun H locs ls a b d h => lv_icmp_le B.1 B.2 hd ht (fun q => kt q H locs ls a b d h) (fun q => kf q H locs ls a b d h)
theorem jv_goto (B : jv_B p c cc) {off : Int} {tgt : Nat} (hd : decode cc pc = .ok (.goto off, 3)) (ht : (pc : Int) + off = (tgt : Int)) (k : jv_V p l e R s m args below meth c D cl A nL cells slots Q ws lv tgt st) : jv_V p l e R s m args below meth c D cl A nL cells slots Q ws lv pc st := fun H locs ls a b d h => lv_goto B.1 B.2 hd ht (k H locs ls a b d h)
theorem jv_iald (B : jv_B p c cc) (hK : va_K D cl tys s) (q0 t0 : Nat) {a : Nat} {cA : ClassId} {n : Nat} {f : Nat → Int32} (ha : ws[q0]? = some (a, .inl (cA, n, .inl f))) (ht : tys[t0]? = some (cA, .int)) {i : Int32} (hi : vp_in i n) (hd : decode cc pc = .ok (.iaload, 1))
    (k : jv_V p l e R s m args below meth c D cl A nL cells slots Q ws lv (pc + 1) (.int (f i.toNatClampNeg) :: st)) : jv_V p l e R s m args below meth c D cl A nL cells slots Q ws lv pc (.int i :: .ref a :: st) := fun H locs ls a9 b d h => va_iald B.1 B.2 hK a9 q0 t0 ha ht hi hd (k H locs ls a9 b d h)
theorem jv_iast (B : jv_B p c cc) (hK : va_K D cl tys s) (q0 t0 : Nat) {a : Nat} {cA : ClassId} {n : Nat} {f : Nat → Int32} {ws' : va_W} (ha : ws[q0]? = some (a, .inl (cA, n, .inl f))) (ht : tys[t0]? = some (cA, .int)) {i x : Int32} (hi : vp_in i n) (hd : decode cc pc = .ok (.iastore, 1)) (hw : ws.set q0 (a, .inl (cA, n, .inl (upd f i.toNatClampNeg x))) = ws')
    (k : jv_V p l e R s m args below meth c D cl A nL cells slots Q ws' lv (pc + 1) st) : jv_V p l e R s m args below meth c D cl A nL cells slots Q ws lv pc (.int x :: .int i :: .ref a :: st) := fun H locs ls a9 b d h => va_iast B.1 B.2 hK a9 b d q0 t0 ha ht hi hd (fun H1 locs1 a1 b1 d1 => k H1 locs1 ls (hw ▸ a1) (hw ▸ b1) d1 h)
theorem jv_alen (B : jv_B p c cc) (hK : va_K D cl tys s) (q0 t0 : Nat) {a : Nat} {cA : ClassId} {x : vp_A} (ha : ws[q0]? = some (a, .inl (cA, x))) {ty : FieldType} (ht : tys[t0]? = some (cA, ty)) {v : Int32} (hv : Int32.ofNat x.1 = v) (hd : decode cc pc = .ok (.arraylength, 1))
    (k : jv_V p l e R s m args below meth c D cl A nL cells slots Q ws lv (pc + 1) (.int v :: st)) : jv_V p l e R s m args below meth c D cl A nL cells slots Q ws lv pc (.ref a :: st) := fun H locs ls a9 b d h => va_alen B.1 B.2 hK a9 q0 t0 ha ht hv hd (k H locs ls a9 b d h)
/-- what a method of ours finds at its start: its world, its cells apart and in A, and all that is new is in A -/
def jv_Pre (D : va_G) (cl : List vw_C) (tys : List (ClassId × FieldType)) (A : Nat → Prop) (ws : va_W) (av : List Value) : Array Value → State → Prop := va_Pc av (fun U => va_P D cl ws U.heap ∧ va_K D cl tys U ∧ va_D A ws ∧ ∀ q : Nat, U.heap.size ≤ q → A q)
/-- what it leaves: the world of u -/
def jv_End {S : Type} (D : va_G) (cl : List vw_C) (tys : List (ClassId × FieldType)) (A : Nat → Prop) (wf : S → va_W) (u : S) (t : State) : Prop := va_P D cl (wf u) t.heap ∧ va_K D cl tys t ∧ va_D A (wf u)
theorem jv_blind {av : List Value} : FrameBlind (jv_Pre D cl tys A ws av) := fun a U g mk q => ⟨q.1, q.2.1, va_K.moved (u := U) (U := U.calling g mk a) (Vm.Alike.refl U.vm) q.2.2.1, q.2.2.2⟩
theorem jv_pre {H : Heap} {locs : List Loc} {av : List Value} (hK : va_K D cl tys s) (hA : ∀ q : Nat, s.heap.size ≤ q → A q) (hP : va_P D cl ws H) (hD : va_D A ws) (hS : va_S A s.heap H locs) : ∀ U : State, U.heap = H → s.WarmedH U.vm → jv_Pre D cl tys A ws av av.toArray U := fun U hU hW => ⟨rfl, by rw [hU]; exact hP, va_K.moved hW.alike hK, hD, fun q hq => hA q (Nat.le_trans hS.1 (by rw [hU] at hq; exact hq))⟩
/-- all that a walk knows from its entry on -/
abbrev jv_C (p : Program) (s : State) (m : MethodId) (args : Array Value) (meth : Method) (c : Code) (cc : ByteArray) (nL : Nat) (ret : Option FieldType) (y : MethodName) (wl : List Cond) (D : va_G) (cl : List vw_C) (tys : List (ClassId × FieldType)) (A : Nat → Prop) : Prop :=
  jv_B p c cc ∧ c.maxLocals = nL ∧ s.vm.findClass y.cls = some m.cls ∧ (∀ w ∈ wl, w.before args s = true) ∧ va_K D cl tys s ∧ (∀ q : Nat, s.heap.size ≤ q → A q) ∧ meth.sig.returnType = ret ∧ meth.locks = false ∧ meth.name = y.name
theorem jv_ofW {y : MethodName} {wl wl' : List Cond} {rm : Room} {av : List Value} {Qc : Array Value → State → Outcome → State → Prop} {mc ms maxL : Nat} {ret : Option FieldType} (hy : plainName y.cls = true) (hw : wl = Cond.code y cc maxL ret :: wl') (hlen : (lg_sl av).length ≤ maxL)
    (body : ∀ (p : Program) (e : Env) (s : State) (m : MethodId) (below : List Frame) (meth : Method) (c : Code), jv_C p s m av.toArray meth c cc maxL ret y wl D cl tys A → jv_V p l e rm s m av.toArray below meth c D cl A maxL 0 0 (MQ below Qc av.toArray s mc ms A) ws (lv_args 0 av) 0 []) : Met l y wl rm (jv_Pre D cl tys A ws av) Qc mc ms A := by
  refine Met.ofW (cc := cc) (maxL := maxL) (ret := ret) hy hw ?_
  intro p e s m args below meth c s₁ B hml hv
  obtain ⟨rfl, hP, hK, hD, hA⟩ := hv
  have hts := atoms_spec (ws := wl) B.pre
  have hown : s.vm.findClass y.cls = some m.cls := findClass_of_methodNamed B.named
  have hl := lv_entry av (n := maxL) hlen
  rw [lg_entry_eq]
  exact body p e s m below meth c ⟨⟨B.exec, B.bytes⟩, hml, hown, hts, hK, hA, B.returns, B.notSynchronized, (name_of_methodNamed B.named B.method).1⟩ s.heap [] _ hP hD va_S.rf hl
theorem jv_iret {S : Type} {wf : S → va_W} {post : Int32 → S → Prop} {v : Int32} {ty : FieldType} (B : jv_B p c cc) (hr : meth.sig.returnType = some ty) (hn : narrow ty (.int v) = .int v) (hlocks : meth.locks = false) (hK : va_K D cl tys s) (u : S) (hw : wf u = ws) (hp : post v u) (hd : decode cc pc = .ok (.ireturn, 1)) :
    jv_V p l e R s m args below meth c D cl A nL cells slots (MQ below (va_Qi post (jv_End D cl tys A wf) A) args s cells slots A) ws lv pc [.int v] := by
  intro H locs ls hP hD hS hl
  subst hw
  exact W.zret B.1 B.2 hr hn (fun t ht hW => ⟨⟨v, u, rfl, hp, by rw [ht]; exact hP, va_K.moved hW.alike hK, hD⟩, hS.F ht⟩) hS.2.2 hd hlocks
theorem jv_vret {S : Type} {wf : S → va_W} {post : S → Prop} (B : jv_B p c cc) (hr : meth.sig.returnType = none) (hlocks : meth.locks = false) (hK : va_K D cl tys s) (u : S) (hw : wf u = ws) (hp : post u) (hd : decode cc pc = .ok (.return_, 1)) :
    jv_V p l e R s m args below meth c D cl A nL cells slots (MQ below (va_Qv post (jv_End D cl tys A wf) A) args s cells slots A) ws lv pc [] := by
  intro H locs ls hP hD hS hl
  subst hw
  exact W.vret B.1 B.2 hr (fun t ht hW => ⟨⟨u, rfl, hp, by rw [ht]; exact hP, va_K.moved hW.alike hK, hD⟩, hS.F ht⟩) hS.2.2 hd hlocks
section JVC
variable {S : Type} {wf : S → va_W} {y : MethodName} {bytes : ByteArray} {maxL mc ms n index : Nat} {ret : Option FieldType} {wl Ts : List Cond} {rm : Room} {own C : String} {b : Addr} {As : List Value}
theorem jv_civ {post : Int32 → S → Prop} (B : jv_B p c cc) (hml : c.maxLocals = nL) (hown : s.vm.findClass own = some m.cls) (hts : ∀ w ∈ Ts, w.before args s = true) (hK : va_K D cl tys s) (hA : ∀ q : Nat, s.heap.size ≤ q → A q)
    (hM : Met l y wl rm (jv_Pre D cl tys A ws (.ref b :: As)) (va_Qi post (jv_End D cl tys A wf) A) mc ms A) (cw : CallW R s args own C index y bytes maxL ret wl rm mc ms n) (q0 ci : Nat) {q : vw_C} {fs : List Value} (hc : cl[ci]? = some q) (hq : q.1 = C) (he : ws[q0]? = some (b, .inr (ci, fs)))
    (hn : As.length = n) (hW : (st.map fun v => v.category).sum ≤ 8) (hd : decode cc pc = .ok (.invokevirtual index, 3)) (hf : cells + mc ≤ R.cells ∧ slots + ms ≤ R.slots) {st0 : List Value} (hst : st0 = As.reverse ++ .ref b :: st)
    (k : ∀ (r : Int32) (u : S), post r u → jv_V p l e R s m args below meth c D cl A nL (cells + mc) (slots + ms) Q (wf u) lv (pc + 3) (.int r :: st)) : jv_V p l e R s m args below meth c D cl A nL cells slots Q ws lv pc st0 := by
  subst hq
  intro H locs ls hP hD hS hl
  exact va_calli (va_runV (As := As) (rest := st) ⟨B.1, B.2, hml, hown, hts⟩ hM cw ⟨jv_blind, va_recv hK hP hc he, jv_pre hK hA hP hD hS⟩ rfl hn hl.1 hst (lv_room hW) hd hf) hS (fun _ _ h => h) (fun _ h => h) (fun r u t H1 locs1 ht hvm hp hB hz hk hS1 => k r u hp H1 locs1 ls (ht ▸ hB.1) hB.2.2 hS1 hl)
theorem jv_cvv {post : S → Prop} (B : jv_B p c cc) (hml : c.maxLocals = nL) (hown : s.vm.findClass own = some m.cls) (hts : ∀ w ∈ Ts, w.before args s = true) (hK : va_K D cl tys s) (hA : ∀ q : Nat, s.heap.size ≤ q → A q)
    (hM : Met l y wl rm (jv_Pre D cl tys A ws (.ref b :: As)) (va_Qv post (jv_End D cl tys A wf) A) mc ms A) (cw : CallW R s args own C index y bytes maxL ret wl rm mc ms n) (q0 ci : Nat) {q : vw_C} {fs : List Value} (hc : cl[ci]? = some q) (hq : q.1 = C) (he : ws[q0]? = some (b, .inr (ci, fs)))
    (hn : As.length = n) (hW : (st.map fun v => v.category).sum ≤ 8) (hd : decode cc pc = .ok (.invokevirtual index, 3)) (hf : cells + mc ≤ R.cells ∧ slots + ms ≤ R.slots) {st0 : List Value} (hst : st0 = As.reverse ++ .ref b :: st)
    (k : ∀ u : S, post u → jv_V p l e R s m args below meth c D cl A nL (cells + mc) (slots + ms) Q (wf u) lv (pc + 3) st) : jv_V p l e R s m args below meth c D cl A nL cells slots Q ws lv pc st0 := by
  subst hq
  intro H locs ls hP hD hS hl
  exact va_callv (va_runV (As := As) (rest := st) ⟨B.1, B.2, hml, hown, hts⟩ hM cw ⟨jv_blind, va_recv hK hP hc he, jv_pre hK hA hP hD hS⟩ rfl hn hl.1 hst (lv_room hW) hd hf) hS (fun _ _ h => h) (fun _ h => h) (fun u t H1 locs1 ht hvm hp hB hz hk hS1 => k u hp H1 locs1 ls (ht ▸ hB.1) hB.2.2 hS1 hl)
theorem jv_cis {post : Int32 → S → Prop} (B : jv_B p c cc) (hml : c.maxLocals = nL) (hown : s.vm.findClass own = some m.cls) (hts : ∀ w ∈ Ts, w.before args s = true) (hK : va_K D cl tys s) (hA : ∀ q : Nat, s.heap.size ≤ q → A q)
    (hM : Met l y wl rm (jv_Pre D cl tys A ws As) (va_Qi post (jv_End D cl tys A wf) A) mc ms A) (cw : CallB R s args own index y bytes maxL ret wl rm mc ms n ∧ (Cond.static y).before args s = true)
    (hn : As.length = n) (hW : (st.map fun v => v.category).sum ≤ 8) (hd : decode cc pc = .ok (.invokestatic index, 3)) (hf : cells + mc ≤ R.cells ∧ slots + ms ≤ R.slots) {st0 : List Value} (hst : st0 = As.reverse ++ st)
    (k : ∀ (r : Int32) (u : S), post r u → jv_V p l e R s m args below meth c D cl A nL (cells + mc) (slots + ms) Q (wf u) lv (pc + 3) (.int r :: st)) : jv_V p l e R s m args below meth c D cl A nL cells slots Q ws lv pc st0 := by
  intro H locs ls hP hD hS hl
  exact va_calli (va_runS (As := As) (rest := st) ⟨B.1, B.2, hml, hown, hts⟩ hM cw ⟨jv_blind, jv_pre hK hA hP hD hS⟩ rfl hn hl.1 hst (lv_room hW) hd hf) hS (fun _ _ h => h) (fun _ h => h) (fun r u t H1 locs1 ht hvm hp hB hz hk hS1 => k r u hp H1 locs1 ls (ht ▸ hB.1) hB.2.2 hS1 hl)
theorem jv_cvs {post : S → Prop} (B : jv_B p c cc) (hml : c.maxLocals = nL) (hown : s.vm.findClass own = some m.cls) (hts : ∀ w ∈ Ts, w.before args s = true) (hK : va_K D cl tys s) (hA : ∀ q : Nat, s.heap.size ≤ q → A q)
    (hM : Met l y wl rm (jv_Pre D cl tys A ws As) (va_Qv post (jv_End D cl tys A wf) A) mc ms A) (cw : CallB R s args own index y bytes maxL ret wl rm mc ms n ∧ (Cond.static y).before args s = true)
    (hn : As.length = n) (hW : (st.map fun v => v.category).sum ≤ 8) (hd : decode cc pc = .ok (.invokestatic index, 3)) (hf : cells + mc ≤ R.cells ∧ slots + ms ≤ R.slots) {st0 : List Value} (hst : st0 = As.reverse ++ st)
    (k : ∀ u : S, post u → jv_V p l e R s m args below meth c D cl A nL (cells + mc) (slots + ms) Q (wf u) lv (pc + 3) st) : jv_V p l e R s m args below meth c D cl A nL cells slots Q ws lv pc st0 := by
  intro H locs ls hP hD hS hl
  exact va_callv (va_runS (As := As) (rest := st) ⟨B.1, B.2, hml, hown, hts⟩ hM cw ⟨jv_blind, jv_pre hK hA hP hD hS⟩ rfl hn hl.1 hst (lv_room hW) hd hf) hS (fun _ _ h => h) (fun _ h => h) (fun u t H1 locs1 ht hvm hp hB hz hk hS1 => k u hp H1 locs1 ls (ht ▸ hB.1) hB.2.2 hS1 hl)
end JVC
/-- a field read, a field written -/
theorem jv_get (B : jv_B p c cc) {own ref C : String} {T : u_T} {N ci index : Nat} {Ts : List Cond} (hts : ∀ w ∈ Ts, w.before args s = true) (hin : ∀ w ∈ u_ws C T N, w ∈ Ts) (hown : s.vm.findClass own = some m.cls) (hK : va_K D cl tys s) (q0 : Nat) {a : Nat} {fs : List Value} (he : ws[q0]? = some (a, .inr (ci, fs))) (hc : cl[ci]? = some (C, T, N)) (k : Nat) (hk : k < N) (hlink : (Cond.fieldLink own index ref (T k).2.1 (T k).2.2.1).before args s = true) (hsame : ∀ x, s.fieldFound? (T k).1 (T k).2.1 (T k).2.2.1 = some x → s.fieldFound? ref (T k).2.1 (T k).2.2.1 = some x) {v : Value} (hv : fs[k]? = some v) (hd : decode cc pc = .ok (.getfield index, 3))
    (kk : jv_V p l e R s m args below meth c D cl A nL cells slots Q ws lv (pc + 3) (v :: st)) : jv_V p l e R s m args below meth c D cl A nL cells slots Q ws lv pc (.ref a :: st) := fun H locs ls a9 b d h => va_get B.1 B.2 hts hin hown hK a9 q0 he hc k hk hlink hsame hv hd (kk H locs ls a9 b d h)
theorem jv_put (B : jv_B p c cc) {own ref C : String} {T : u_T} {N ci index : Nat} {Ts : List Cond} (hts : ∀ w ∈ Ts, w.before args s = true) (hin : ∀ w ∈ u_ws C T N, w ∈ Ts) (ty0 : Nat → FieldType) (hty : ∀ k, k < N → parseFieldDescriptor (T k).2.2.1 = some (ty0 k)) (hnm : ∀ a, a < N → ∀ b, b < N → a ≠ b → (T a).2.1 ≠ (T b).2.1) (hown : s.vm.findClass own = some m.cls) (hK : va_K D cl tys s) (q0 : Nat) {a : Nat} {fs : List Value} (he : ws[q0]? = some (a, .inr (ci, fs))) (hc : cl[ci]? = some (C, T, N)) (k : Nat) (hk : k < N) (hlink : (Cond.fieldLink own index ref (T k).2.1 (T k).2.2.1).before args s = true) (hsame : ∀ x, s.fieldFound? (T k).1 (T k).2.1 (T k).2.2.1 = some x → s.fieldFound? ref (T k).2.1 (T k).2.2.1 = some x) (hfin : (T k).2.2.2 = false) {ty : FieldType} {v : Value} (hd9 : parseFieldDescriptor (T k).2.2.1 = some ty) (hn : narrow ty v = v) (hfit : fits ty v = true) (hl : k < fs.length)
    (hd : decode cc pc = .ok (.putfield index, 3)) {ws' : va_W} (hw : ws.set q0 (a, .inr (ci, fs.set k v)) = ws') (kk : jv_V p l e R s m args below meth c D cl A nL cells slots Q ws' lv (pc + 3) st) : jv_V p l e R s m args below meth c D cl A nL cells slots Q ws lv pc (v :: .ref a :: st) := fun H locs ls a9 b d h => va_put B.1 B.2 hts hin ty0 hty hnm hown hK a9 b d q0 he hc k hk hlink hsame hfin hd9 hn hfit hl hd (fun H1 locs1 a1 b1 d1 => kk H1 locs1 ls (hw ▸ a1) (hw ▸ b1) d1 h)
theorem jv_putF (B : jv_B p c cc) {own ref C : String} {T : u_T} {N ci index : Nat} {Ts : List Cond} (hts : ∀ w ∈ Ts, w.before args s = true) (hin : ∀ w ∈ u_ws C T N, w ∈ Ts) (ty0 : Nat → FieldType) (hty : ∀ k, k < N → parseFieldDescriptor (T k).2.2.1 = some (ty0 k)) (hnm : ∀ a, a < N → ∀ b, b < N → a ≠ b → (T a).2.1 ≠ (T b).2.1) (hown : s.vm.findClass own = some m.cls) (hK : va_K D cl tys s) (q0 : Nat) {a : Nat} {fs : List Value} (he : ws[q0]? = some (a, .inr (ci, fs))) (hc : cl[ci]? = some (C, T, N)) (k : Nat) (hk : k < N) (hlink : (Cond.fieldLink own index ref (T k).2.1 (T k).2.2.1).before args s = true) (hsame : ∀ x, s.fieldFound? (T k).1 (T k).2.1 (T k).2.2.1 = some x → s.fieldFound? ref (T k).2.1 (T k).2.2.1 = some x) (hfin : (T k).2.2.2 = true) (hin2 : meth.name = "<init>") (hdecl : (T k).1 = own) {ty : FieldType} {v : Value} (hd9 : parseFieldDescriptor (T k).2.2.1 = some ty) (hn : narrow ty v = v) (hfit : fits ty v = true) (hl : k < fs.length)
    (hd : decode cc pc = .ok (.putfield index, 3)) {ws' : va_W} (hw : ws.set q0 (a, .inr (ci, fs.set k v)) = ws') (kk : jv_V p l e R s m args below meth c D cl A nL cells slots Q ws' lv (pc + 3) st) : jv_V p l e R s m args below meth c D cl A nL cells slots Q ws lv pc (v :: .ref a :: st) := fun H locs ls a9 b d h => va_putF B.1 B.2 hts hin ty0 hty hnm hown hK a9 b d q0 he hc k hk hlink hsame hfin hin2 hdecl hd9 hn hfit hl hd (fun H1 locs1 a1 b1 d1 => kk H1 locs1 ls (hw ▸ a1) (hw ▸ b1) d1 h)
end JV
end
section
abbrev jS : Type := Nat → Nat → Int32
/-- one number of one cell; the first n places of an array; a stretch out of another array -/
def up2 (σ : jS) (i j : Nat) (v : Int32) : jS := fun a => if a = i then (fun b => if b = j then v else σ a b) else σ a
def upA (σ : jS) (i n : Nat) (v : Int32) : jS := fun a => if a = i then (fun b => if b < n then v else σ a b) else σ a
def upC (σ : jS) (i k sp dp n : Nat) : jS := fun a => if a = i then va_cpy (σ k) (σ a) sp dp n else σ a
abbrev jTy (cI cA cL : ClassId) : List (ClassId × FieldType) := [(cI, .int), (cA, .array .int), (cL, .long)]
abbrev bz (v : Int32) : Prop := v = 0 ∨ v = 1
abbrev rmk (d mc ms : Nat) : Room := { frames := d, cells := mc, slots := ms, locals := 32 * d }
/-- the words of the tables that stay -/
def wb : List Cond := lw_tbl.filter goodWord
theorem wb_good {w : Cond} (h : w ∈ wb) : (w.onTables && w.keeps) = true ∨ ∃ ty, w = .arrayClass ty := good_of_word (List.mem_filter.mp h).2
theorem wb_t {w : Cond} (i : Nat) (h : tables_1[i]? = some w) (hg : goodWord w = true) : w ∈ wb := List.mem_filter.mpr ⟨List.mem_append_right _ (List.mem_of_getElem? h), hg⟩
theorem wb_s {w : Cond} (i : Nat) (h : (k2_sels lw_privs)[i]? = some w) (hg : goodWord w = true) : w ∈ wb := List.mem_filter.mpr ⟨List.mem_append_left _ (List.mem_of_getElem? h), hg⟩
theorem gw_V {own C : String} {idx maxL : Nat} {y : MethodName} {cc : ByteArray} {ret : Option FieldType} (h1 : Cond.methodLink own idx y ∈ wb) (h2 : Cond.instanceMethod y ∈ wb) (h3 : Cond.selects C y y ∈ wb) (h4 : Cond.initialized C ∈ wb) (h5 : Cond.code y cc maxL ret ∈ wb) : GoodIn wb (wsV own idx C y (Cond.code y cc maxL ret :: wb)) := by
  intro w hw
  have h : w ∈ wb := by
    simp only [wsV, List.cons_append, List.nil_append, List.mem_cons] at hw
    rcases hw with rfl | rfl | rfl | rfl | rfl | hw
    · exact h1
    · exact h2
    · exact h3
    · exact h4
    · exact h5
    · exact hw
  exact ⟨h, wb_good h⟩
theorem gw_S {own : String} {idx maxL : Nat} {y : MethodName} {cc : ByteArray} {ret : Option FieldType} (h1 : Cond.methodLink own idx y ∈ wb) (h2 : Cond.static y ∈ wb) (h4 : Cond.initialized own ∈ wb) (h5 : Cond.code y cc maxL ret ∈ wb) : GoodIn wb (wsS own idx y (Cond.code y cc maxL ret :: wb)) := by
  intro w hw
  have h : w ∈ wb := by
    simp only [wsS, List.cons_append, List.nil_append, List.mem_cons] at hw
    rcases hw with rfl | rfl | rfl | rfl | hw
    · exact h1
    · exact h2
    · exact h4
    · exact h5
    · exact hw
  exact ⟨h, wb_good h⟩
/-- the world of the class -/
def cw (ad : Nat → Nat) (cI cA : ClassId) (σ : jS) (F : va_W) : va_W :=
  (ad 0, .inr (4, [.ref (ad 1), .ref (ad 6), .ref (ad 8), .ref (ad 9)])) ::
  (ad 1, .inr (1, [.ref (ad 2), .ref (ad 3), .ref (ad 4), .ref (ad 5), .int (σ 1 4), .int (σ 1 5), .int (σ 1 6)])) ::
  (ad 2, .inl (cI, 64, .inl (σ 2))) ::
  (ad 3, .inl (cI, 64, .inl (σ 3))) ::
  (ad 4, .inl (cI, 64, .inl (σ 4))) ::
  (ad 5, .inl (cI, 64, .inl (σ 5))) ::
  (ad 6, .inr (3, [.ref (ad 7), .int (σ 6 1)])) ::
  (ad 7, .inl (cI, 64, .inl (σ 7))) ::
  (ad 8, .inr (0, [.ref (ad 1), .ref (ad 6), .int (σ 8 2), .int (σ 8 3), .int (σ 8 4), .int (σ 8 5), .int (σ 8 6), .int (σ 8 7)])) ::
  (ad 9, .inr (2, [.ref (ad 10), .ref (ad 13), .int (σ 9 2)])) ::
  (ad 10, .inl (cA, 2, .inr (.inr (.inr (.inr (fun j => if j < 2 then some (ad (11 + j)) else none)))))) ::
  (ad 11, .inl (cI, 140, .inl (σ 11))) ::
  (ad 12, .inl (cI, 140, .inl (σ 12))) ::
  (ad 13, .inl (cI, 140, .inl (σ 13))) :: F
/-- the world of the reference -/
def mw (ad : Nat → Nat) (cI cA : ClassId) (σ : jS) (F : va_W) : va_W :=
  (ad 0, .inr (5, [.int (σ 0 0), .int (σ 0 1), .ref (ad 1), .ref (ad 2), .ref (ad 3), .ref (ad 4), .int (σ 0 6), .int (σ 0 7), .int (σ 0 8), .int (σ 0 9), .ref (ad 5), .int (σ 0 11), .int (σ 0 12), .int (σ 0 13), .int (σ 0 14), .int (σ 0 15), .int (σ 0 16), .int (σ 0 17), .ref (ad 6), .ref (ad 7), .int (σ 0 20)])) ::
  (ad 1, .inl (cI, 64, .inl (σ 1))) ::
  (ad 2, .inl (cI, 64, .inl (σ 2))) ::
  (ad 3, .inl (cI, 64, .inl (σ 3))) ::
  (ad 4, .inl (cI, 64, .inl (σ 4))) ::
  (ad 5, .inl (cI, 64, .inl (σ 5))) ::
  (ad 6, .inl (cI, 280, .inl (σ 6))) ::
  (ad 7, .inl (cI, 140, .inl (σ 7))) :: F
theorem kw_29 : Cond.fieldLink rn_D 9 "RescueDesk$Disk" "words" "[I" ∈ wb := wb_t 29 (by decide +kernel) (by decide +kernel)
theorem kw_30 : Cond.fieldLink rn_D 15 "RescueDesk$Disk" "failuresLeft" "[I" ∈ wb := wb_t 30 (by decide +kernel) (by decide +kernel)
theorem kw_31 : Cond.fieldLink rn_D 18 "RescueDesk$Disk" "readCounts" "[I" ∈ wb := wb_t 31 (by decide +kernel) (by decide +kernel)
theorem kw_32 : Cond.fieldLink rn_D 21 "RescueDesk$Disk" "target" "[I" ∈ wb := wb_t 32 (by decide +kernel) (by decide +kernel)
theorem kw_33 : Cond.fieldLink rn_D 24 "RescueDesk$Disk" "sectors" "I" ∈ wb := wb_t 33 (by decide +kernel) (by decide +kernel)
theorem kw_34 : Cond.fieldLink rn_D 28 "RescueDesk$Disk" "stretches" "I" ∈ wb := wb_t 34 (by decide +kernel) (by decide +kernel)
theorem kw_35 : Cond.fieldLink rn_D 31 "RescueDesk$Disk" "failedStretches" "I" ∈ wb := wb_t 35 (by decide +kernel) (by decide +kernel)
theorem kw_36 : Cond.laysFinal "RescueDesk$Disk" "RescueDesk$Disk" "words" "[I" ∈ wb := wb_t 36 (by decide +kernel) (by decide +kernel)
theorem kw_38 : Cond.laysFinal "RescueDesk$Disk" "RescueDesk$Disk" "failuresLeft" "[I" ∈ wb := wb_t 38 (by decide +kernel) (by decide +kernel)
theorem kw_40 : Cond.laysFinal "RescueDesk$Disk" "RescueDesk$Disk" "readCounts" "[I" ∈ wb := wb_t 40 (by decide +kernel) (by decide +kernel)
theorem kw_42 : Cond.laysFinal "RescueDesk$Disk" "RescueDesk$Disk" "target" "[I" ∈ wb := wb_t 42 (by decide +kernel) (by decide +kernel)
theorem kw_44 : Cond.lays "RescueDesk$Disk" "RescueDesk$Disk" "sectors" "I" ∈ wb := wb_t 44 (by decide +kernel) (by decide +kernel)
theorem kw_46 : Cond.lays "RescueDesk$Disk" "RescueDesk$Disk" "stretches" "I" ∈ wb := wb_t 46 (by decide +kernel) (by decide +kernel)
theorem kw_48 : Cond.lays "RescueDesk$Disk" "RescueDesk$Disk" "failedStretches" "I" ∈ wb := wb_t 48 (by decide +kernel) (by decide +kernel)
theorem kw_58 : Cond.fieldLink rn_S 9 "RescueDesk$SectorMap" "states" "[I" ∈ wb := wb_t 58 (by decide +kernel) (by decide +kernel)
theorem kw_59 : Cond.fieldLink rn_S 24 "RescueDesk$SectorMap" "sectors" "I" ∈ wb := wb_t 59 (by decide +kernel) (by decide +kernel)
theorem kw_60 : Cond.laysFinal "RescueDesk$SectorMap" "RescueDesk$SectorMap" "states" "[I" ∈ wb := wb_t 60 (by decide +kernel) (by decide +kernel)
theorem kw_62 : Cond.lays "RescueDesk$SectorMap" "RescueDesk$SectorMap" "sectors" "I" ∈ wb := wb_t 62 (by decide +kernel) (by decide +kernel)
theorem kw_71 : Cond.fieldLink rn_K 9 "RescueDesk$Copier" "disk" "LRescueDesk$Disk;" ∈ wb := wb_t 71 (by decide +kernel) (by decide +kernel)
theorem kw_72 : Cond.fieldLink rn_K 15 "RescueDesk$Copier" "map" "LRescueDesk$SectorMap;" ∈ wb := wb_t 72 (by decide +kernel) (by decide +kernel)
theorem kw_73 : Cond.fieldLink rn_K 19 "RescueDesk$Copier" "phaseNow" "I" ∈ wb := wb_t 73 (by decide +kernel) (by decide +kernel)
theorem kw_74 : Cond.fieldLink rn_K 39 "RescueDesk$Copier" "position" "I" ∈ wb := wb_t 74 (by decide +kernel) (by decide +kernel)
theorem kw_75 : Cond.fieldLink rn_K 30 "RescueDesk$Copier" "leap" "I" ∈ wb := wb_t 75 (by decide +kernel) (by decide +kernel)
theorem kw_76 : Cond.fieldLink rn_K 42 "RescueDesk$Copier" "round" "I" ∈ wb := wb_t 76 (by decide +kernel) (by decide +kernel)
theorem kw_77 : Cond.fieldLink rn_K 23 "RescueDesk$Copier" "retryRounds" "I" ∈ wb := wb_t 77 (by decide +kernel) (by decide +kernel)
theorem kw_78 : Cond.fieldLink rn_K 45 "RescueDesk$Copier" "trimsLast" "Z" ∈ wb := wb_t 78 (by decide +kernel) (by decide +kernel)
theorem kw_79 : Cond.laysFinal "RescueDesk$Copier" "RescueDesk$Copier" "disk" "LRescueDesk$Disk;" ∈ wb := wb_t 79 (by decide +kernel) (by decide +kernel)
theorem kw_81 : Cond.laysFinal "RescueDesk$Copier" "RescueDesk$Copier" "map" "LRescueDesk$SectorMap;" ∈ wb := wb_t 81 (by decide +kernel) (by decide +kernel)
theorem kw_83 : Cond.lays "RescueDesk$Copier" "RescueDesk$Copier" "phaseNow" "I" ∈ wb := wb_t 83 (by decide +kernel) (by decide +kernel)
theorem kw_85 : Cond.lays "RescueDesk$Copier" "RescueDesk$Copier" "position" "I" ∈ wb := wb_t 85 (by decide +kernel) (by decide +kernel)
theorem kw_87 : Cond.lays "RescueDesk$Copier" "RescueDesk$Copier" "leap" "I" ∈ wb := wb_t 87 (by decide +kernel) (by decide +kernel)
theorem kw_89 : Cond.lays "RescueDesk$Copier" "RescueDesk$Copier" "round" "I" ∈ wb := wb_t 89 (by decide +kernel) (by decide +kernel)
theorem kw_91 : Cond.lays "RescueDesk$Copier" "RescueDesk$Copier" "retryRounds" "I" ∈ wb := wb_t 91 (by decide +kernel) (by decide +kernel)
theorem kw_93 : Cond.lays "RescueDesk$Copier" "RescueDesk$Copier" "trimsLast" "Z" ∈ wb := wb_t 93 (by decide +kernel) (by decide +kernel)
theorem kw_104 : Cond.fieldLink rn_V 11 "RescueDesk$Saves" "slots" "[[I" ∈ wb := wb_t 104 (by decide +kernel) (by decide +kernel)
theorem kw_105 : Cond.fieldLink rn_V 16 "RescueDesk$Saves" "drawn" "[I" ∈ wb := wb_t 105 (by decide +kernel) (by decide +kernel)
theorem kw_106 : Cond.fieldLink rn_V 20 "RescueDesk$Saves" "lastNumber" "I" ∈ wb := wb_t 106 (by decide +kernel) (by decide +kernel)
theorem kw_107 : Cond.laysFinal "RescueDesk$Saves" "RescueDesk$Saves" "slots" "[[I" ∈ wb := wb_t 107 (by decide +kernel) (by decide +kernel)
theorem kw_109 : Cond.laysFinal "RescueDesk$Saves" "RescueDesk$Saves" "drawn" "[I" ∈ wb := wb_t 109 (by decide +kernel) (by decide +kernel)
theorem kw_111 : Cond.lays "RescueDesk$Saves" "RescueDesk$Saves" "lastNumber" "I" ∈ wb := wb_t 111 (by decide +kernel) (by decide +kernel)
theorem kw_114 : Cond.fieldLink rn_R 10 "RescueDesk" "disk" "LRescueDesk$Disk;" ∈ wb := wb_t 114 (by decide +kernel) (by decide +kernel)
theorem kw_115 : Cond.fieldLink rn_R 19 "RescueDesk" "map" "LRescueDesk$SectorMap;" ∈ wb := wb_t 115 (by decide +kernel) (by decide +kernel)
theorem kw_116 : Cond.fieldLink rn_R 28 "RescueDesk" "copier" "LRescueDesk$Copier;" ∈ wb := wb_t 116 (by decide +kernel) (by decide +kernel)
theorem kw_117 : Cond.fieldLink rn_R 35 "RescueDesk" "saves" "LRescueDesk$Saves;" ∈ wb := wb_t 117 (by decide +kernel) (by decide +kernel)
theorem kw_118 : Cond.laysFinal "RescueDesk" "RescueDesk" "disk" "LRescueDesk$Disk;" ∈ wb := wb_t 118 (by decide +kernel) (by decide +kernel)
theorem kw_120 : Cond.laysFinal "RescueDesk" "RescueDesk" "map" "LRescueDesk$SectorMap;" ∈ wb := wb_t 120 (by decide +kernel) (by decide +kernel)
theorem kw_122 : Cond.laysFinal "RescueDesk" "RescueDesk" "copier" "LRescueDesk$Copier;" ∈ wb := wb_t 122 (by decide +kernel) (by decide +kernel)
theorem kw_124 : Cond.laysFinal "RescueDesk" "RescueDesk" "saves" "LRescueDesk$Saves;" ∈ wb := wb_t 124 (by decide +kernel) (by decide +kernel)
theorem kw_562 : Cond.fieldLink rn_M 35 "RescueDeskModel" "code" "I" ∈ wb := wb_t 562 (by decide +kernel) (by decide +kernel)
theorem kw_563 : Cond.fieldLink rn_M 38 "RescueDeskModel" "sectors" "I" ∈ wb := wb_t 563 (by decide +kernel) (by decide +kernel)
theorem kw_564 : Cond.fieldLink rn_M 7 "RescueDeskModel" "words" "[I" ∈ wb := wb_t 564 (by decide +kernel) (by decide +kernel)
theorem kw_565 : Cond.fieldLink rn_M 13 "RescueDeskModel" "failures" "[I" ∈ wb := wb_t 565 (by decide +kernel) (by decide +kernel)
theorem kw_566 : Cond.fieldLink rn_M 16 "RescueDeskModel" "reads" "[I" ∈ wb := wb_t 566 (by decide +kernel) (by decide +kernel)
theorem kw_567 : Cond.fieldLink rn_M 19 "RescueDeskModel" "target" "[I" ∈ wb := wb_t 567 (by decide +kernel) (by decide +kernel)
theorem kw_568 : Cond.fieldLink rn_M 41 "RescueDeskModel" "made" "I" ∈ wb := wb_t 568 (by decide +kernel) (by decide +kernel)
theorem kw_569 : Cond.fieldLink rn_M 44 "RescueDeskModel" "failed" "I" ∈ wb := wb_t 569 (by decide +kernel) (by decide +kernel)
theorem kw_570 : Cond.fieldLink rn_M 22 "RescueDeskModel" "phase" "I" ∈ wb := wb_t 570 (by decide +kernel) (by decide +kernel)
theorem kw_571 : Cond.fieldLink rn_M 73 "RescueDeskModel" "retries" "I" ∈ wb := wb_t 571 (by decide +kernel) (by decide +kernel)
theorem kw_572 : Cond.fieldLink rn_M 26 "RescueDeskModel" "states" "[I" ∈ wb := wb_t 572 (by decide +kernel) (by decide +kernel)
theorem kw_573 : Cond.fieldLink rn_M 60 "RescueDeskModel" "position" "I" ∈ wb := wb_t 573 (by decide +kernel) (by decide +kernel)
theorem kw_574 : Cond.fieldLink rn_M 63 "RescueDeskModel" "leap" "I" ∈ wb := wb_t 574 (by decide +kernel) (by decide +kernel)
theorem kw_575 : Cond.fieldLink rn_M 66 "RescueDeskModel" "round" "I" ∈ wb := wb_t 575 (by decide +kernel) (by decide +kernel)
theorem kw_576 : Cond.fieldLink rn_M 69 "RescueDeskModel" "backwards" "Z" ∈ wb := wb_t 576 (by decide +kernel) (by decide +kernel)
theorem kw_577 : Cond.fieldLink rn_M 54 "RescueDeskModel" "from" "I" ∈ wb := wb_t 577 (by decide +kernel) (by decide +kernel)
theorem kw_578 : Cond.fieldLink rn_M 57 "RescueDeskModel" "to" "I" ∈ wb := wb_t 578 (by decide +kernel) (by decide +kernel)
theorem kw_579 : Cond.fieldLink rn_M 47 "RescueDeskModel" "number" "I" ∈ wb := wb_t 579 (by decide +kernel) (by decide +kernel)
theorem kw_580 : Cond.fieldLink rn_M 29 "RescueDeskModel" "slots" "[I" ∈ wb := wb_t 580 (by decide +kernel) (by decide +kernel)
theorem kw_581 : Cond.fieldLink rn_M 32 "RescueDeskModel" "image" "[I" ∈ wb := wb_t 581 (by decide +kernel) (by decide +kernel)
theorem kw_582 : Cond.fieldLink rn_M 114 "RescueDeskModel" "size" "I" ∈ wb := wb_t 582 (by decide +kernel) (by decide +kernel)
theorem kw_583 : Cond.lays "RescueDeskModel" "RescueDeskModel" "code" "I" ∈ wb := wb_t 583 (by decide +kernel) (by decide +kernel)
theorem kw_585 : Cond.lays "RescueDeskModel" "RescueDeskModel" "sectors" "I" ∈ wb := wb_t 585 (by decide +kernel) (by decide +kernel)
theorem kw_587 : Cond.laysFinal "RescueDeskModel" "RescueDeskModel" "words" "[I" ∈ wb := wb_t 587 (by decide +kernel) (by decide +kernel)
theorem kw_589 : Cond.laysFinal "RescueDeskModel" "RescueDeskModel" "failures" "[I" ∈ wb := wb_t 589 (by decide +kernel) (by decide +kernel)
theorem kw_591 : Cond.laysFinal "RescueDeskModel" "RescueDeskModel" "reads" "[I" ∈ wb := wb_t 591 (by decide +kernel) (by decide +kernel)
theorem kw_593 : Cond.laysFinal "RescueDeskModel" "RescueDeskModel" "target" "[I" ∈ wb := wb_t 593 (by decide +kernel) (by decide +kernel)
theorem kw_595 : Cond.lays "RescueDeskModel" "RescueDeskModel" "made" "I" ∈ wb := wb_t 595 (by decide +kernel) (by decide +kernel)
theorem kw_597 : Cond.lays "RescueDeskModel" "RescueDeskModel" "failed" "I" ∈ wb := wb_t 597 (by decide +kernel) (by decide +kernel)
theorem kw_599 : Cond.lays "RescueDeskModel" "RescueDeskModel" "phase" "I" ∈ wb := wb_t 599 (by decide +kernel) (by decide +kernel)
theorem kw_601 : Cond.lays "RescueDeskModel" "RescueDeskModel" "retries" "I" ∈ wb := wb_t 601 (by decide +kernel) (by decide +kernel)
theorem kw_603 : Cond.laysFinal "RescueDeskModel" "RescueDeskModel" "states" "[I" ∈ wb := wb_t 603 (by decide +kernel) (by decide +kernel)
theorem kw_605 : Cond.lays "RescueDeskModel" "RescueDeskModel" "position" "I" ∈ wb := wb_t 605 (by decide +kernel) (by decide +kernel)
theorem kw_607 : Cond.lays "RescueDeskModel" "RescueDeskModel" "leap" "I" ∈ wb := wb_t 607 (by decide +kernel) (by decide +kernel)
theorem kw_609 : Cond.lays "RescueDeskModel" "RescueDeskModel" "round" "I" ∈ wb := wb_t 609 (by decide +kernel) (by decide +kernel)
theorem kw_611 : Cond.lays "RescueDeskModel" "RescueDeskModel" "backwards" "Z" ∈ wb := wb_t 611 (by decide +kernel) (by decide +kernel)
theorem kw_613 : Cond.lays "RescueDeskModel" "RescueDeskModel" "from" "I" ∈ wb := wb_t 613 (by decide +kernel) (by decide +kernel)
theorem kw_615 : Cond.lays "RescueDeskModel" "RescueDeskModel" "to" "I" ∈ wb := wb_t 615 (by decide +kernel) (by decide +kernel)
theorem kw_617 : Cond.lays "RescueDeskModel" "RescueDeskModel" "number" "I" ∈ wb := wb_t 617 (by decide +kernel) (by decide +kernel)
theorem kw_619 : Cond.laysFinal "RescueDeskModel" "RescueDeskModel" "slots" "[I" ∈ wb := wb_t 619 (by decide +kernel) (by decide +kernel)
theorem kw_621 : Cond.laysFinal "RescueDeskModel" "RescueDeskModel" "image" "[I" ∈ wb := wb_t 621 (by decide +kernel) (by decide +kernel)
theorem kw_623 : Cond.lays "RescueDeskModel" "RescueDeskModel" "size" "I" ∈ wb := wb_t 623 (by decide +kernel) (by decide +kernel)
section JW
variable {p : Program} {l : Launch} {e : Env} {R : Room} {s : State} {m : MethodId} {args : Array Value} {below : List Frame} {meth : Method} {c : Code} {cells slots : Nat} {Q : State → Prop}
variable {cc : ByteArray} {pc : Nat} {st : List Value} {D : va_G} {A : Nat → Prop} {nL : Nat} {lv : List (Nat × Value)} {ad : Nat → Nat} {cI cA cL : ClassId} {σ : jS} {F : va_W}
theorem in_K : ∀ w ∈ u_ws rn_K tf_K 8, w ∈ wb := by
  intro w hw
  obtain ⟨j, hj, rfl⟩ := List.mem_map.mp hw
  have hj := List.mem_range.mp hj
  match j, hj with
  | 0, _ => exact kw_79
  | 1, _ => exact kw_81
  | 2, _ => exact kw_83
  | 3, _ => exact kw_85
  | 4, _ => exact kw_87
  | 5, _ => exact kw_89
  | 6, _ => exact kw_91
  | 7, _ => exact kw_93
  | j + 8, hj => omega
theorem fg_K_disk (B : jv_B p c cc) (hts : ∀ w ∈ wb, w.before args s = true) (hown : s.vm.findClass rn_K = some m.cls) (hK : va_K D jClasses (jTy cI cA cL) s) (hd : decode cc pc = .ok (.getfield 9, 3))
    (kk : jv_V p l e R s m args below meth c D jClasses A nL cells slots Q (cw ad cI cA σ F) lv (pc + 3) (.ref (ad 1) :: st)) : jv_V p l e R s m args below meth c D jClasses A nL cells slots Q (cw ad cI cA σ F) lv pc (.ref (ad 8) :: st) := jv_get B hts in_K hown hK 8 rfl rfl 0 (by decide) (hts _ kw_71) (fun _ h => h) rfl hd kk
theorem fg_K_map (B : jv_B p c cc) (hts : ∀ w ∈ wb, w.before args s = true) (hown : s.vm.findClass rn_K = some m.cls) (hK : va_K D jClasses (jTy cI cA cL) s) (hd : decode cc pc = .ok (.getfield 15, 3))
    (kk : jv_V p l e R s m args below meth c D jClasses A nL cells slots Q (cw ad cI cA σ F) lv (pc + 3) (.ref (ad 6) :: st)) : jv_V p l e R s m args below meth c D jClasses A nL cells slots Q (cw ad cI cA σ F) lv pc (.ref (ad 8) :: st) := jv_get B hts in_K hown hK 8 rfl rfl 1 (by decide) (hts _ kw_72) (fun _ h => h) rfl hd kk
theorem fg_K_phaseNow (B : jv_B p c cc) (hts : ∀ w ∈ wb, w.before args s = true) (hown : s.vm.findClass rn_K = some m.cls) (hK : va_K D jClasses (jTy cI cA cL) s) (hd : decode cc pc = .ok (.getfield 19, 3))
    (kk : jv_V p l e R s m args below meth c D jClasses A nL cells slots Q (cw ad cI cA σ F) lv (pc + 3) (.int (σ 8 2) :: st)) : jv_V p l e R s m args below meth c D jClasses A nL cells slots Q (cw ad cI cA σ F) lv pc (.ref (ad 8) :: st) := jv_get B hts in_K hown hK 8 rfl rfl 2 (by decide) (hts _ kw_73) (fun _ h => h) rfl hd kk
theorem fs_K_phaseNow (B : jv_B p c cc) (hts : ∀ w ∈ wb, w.before args s = true) (hown : s.vm.findClass rn_K = some m.cls) (hK : va_K D jClasses (jTy cI cA cL) s) {v : Int32} (hd : decode cc pc = .ok (.putfield 19, 3))
    (kk : jv_V p l e R s m args below meth c D jClasses A nL cells slots Q (cw ad cI cA (up2 σ 8 2 v) F) lv (pc + 3) st) : jv_V p l e R s m args below meth c D jClasses A nL cells slots Q (cw ad cI cA σ F) lv pc (.int v :: .ref (ad 8) :: st) := jv_put (ty := .int) (ci := 0) (fs := [.ref (ad 1), .ref (ad 6), .int (σ 8 2), .int (σ 8 3), .int (σ 8 4), .int (σ 8 5), .int (σ 8 6), .int (σ 8 7)]) (ws' := cw ad cI cA (up2 σ 8 2 v) F) B hts in_K ty_K tyok_K nm_K hown hK 8 rfl rfl 2 (by decide) (hts _ kw_73) (fun _ h => h) rfl (by decide +kernel) rfl rfl (Nat.le_of_ble_eq_true rfl) hd rfl kk
theorem fg_K_position (B : jv_B p c cc) (hts : ∀ w ∈ wb, w.before args s = true) (hown : s.vm.findClass rn_K = some m.cls) (hK : va_K D jClasses (jTy cI cA cL) s) (hd : decode cc pc = .ok (.getfield 39, 3))
    (kk : jv_V p l e R s m args below meth c D jClasses A nL cells slots Q (cw ad cI cA σ F) lv (pc + 3) (.int (σ 8 3) :: st)) : jv_V p l e R s m args below meth c D jClasses A nL cells slots Q (cw ad cI cA σ F) lv pc (.ref (ad 8) :: st) := jv_get B hts in_K hown hK 8 rfl rfl 3 (by decide) (hts _ kw_74) (fun _ h => h) rfl hd kk
theorem fs_K_position (B : jv_B p c cc) (hts : ∀ w ∈ wb, w.before args s = true) (hown : s.vm.findClass rn_K = some m.cls) (hK : va_K D jClasses (jTy cI cA cL) s) {v : Int32} (hd : decode cc pc = .ok (.putfield 39, 3))
    (kk : jv_V p l e R s m args below meth c D jClasses A nL cells slots Q (cw ad cI cA (up2 σ 8 3 v) F) lv (pc + 3) st) : jv_V p l e R s m args below meth c D jClasses A nL cells slots Q (cw ad cI cA σ F) lv pc (.int v :: .ref (ad 8) :: st) := jv_put (ty := .int) (ci := 0) (fs := [.ref (ad 1), .ref (ad 6), .int (σ 8 2), .int (σ 8 3), .int (σ 8 4), .int (σ 8 5), .int (σ 8 6), .int (σ 8 7)]) (ws' := cw ad cI cA (up2 σ 8 3 v) F) B hts in_K ty_K tyok_K nm_K hown hK 8 rfl rfl 3 (by decide) (hts _ kw_74) (fun _ h => h) rfl (by decide +kernel) rfl rfl (Nat.le_of_ble_eq_true rfl) hd rfl kk
theorem fg_K_leap (B : jv_B p c cc) (hts : ∀ w ∈ wb, w.before args s = true) (hown : s.vm.findClass rn_K = some m.cls) (hK : va_K D jClasses (jTy cI cA cL) s) (hd : decode cc pc = .ok (.getfield 30, 3))
    (kk : jv_V p l e R s m args below meth c D jClasses A nL cells slots Q (cw ad cI cA σ F) lv (pc + 3) (.int (σ 8 4) :: st)) : jv_V p l e R s m args below meth c D jClasses A nL cells slots Q (cw ad cI cA σ F) lv pc (.ref (ad 8) :: st) := jv_get B hts in_K hown hK 8 rfl rfl 4 (by decide) (hts _ kw_75) (fun _ h => h) rfl hd kk
theorem fs_K_leap (B : jv_B p c cc) (hts : ∀ w ∈ wb, w.before args s = true) (hown : s.vm.findClass rn_K = some m.cls) (hK : va_K D jClasses (jTy cI cA cL) s) {v : Int32} (hd : decode cc pc = .ok (.putfield 30, 3))
    (kk : jv_V p l e R s m args below meth c D jClasses A nL cells slots Q (cw ad cI cA (up2 σ 8 4 v) F) lv (pc + 3) st) : jv_V p l e R s m args below meth c D jClasses A nL cells slots Q (cw ad cI cA σ F) lv pc (.int v :: .ref (ad 8) :: st) := jv_put (ty := .int) (ci := 0) (fs := [.ref (ad 1), .ref (ad 6), .int (σ 8 2), .int (σ 8 3), .int (σ 8 4), .int (σ 8 5), .int (σ 8 6), .int (σ 8 7)]) (ws' := cw ad cI cA (up2 σ 8 4 v) F) B hts in_K ty_K tyok_K nm_K hown hK 8 rfl rfl 4 (by decide) (hts _ kw_75) (fun _ h => h) rfl (by decide +kernel) rfl rfl (Nat.le_of_ble_eq_true rfl) hd rfl kk
theorem fg_K_round (B : jv_B p c cc) (hts : ∀ w ∈ wb, w.before args s = true) (hown : s.vm.findClass rn_K = some m.cls) (hK : va_K D jClasses (jTy cI cA cL) s) (hd : decode cc pc = .ok (.getfield 42, 3))
    (kk : jv_V p l e R s m args below meth c D jClasses A nL cells slots Q (cw ad cI cA σ F) lv (pc + 3) (.int (σ 8 5) :: st)) : jv_V p l e R s m args below meth c D jClasses A nL cells slots Q (cw ad cI cA σ F) lv pc (.ref (ad 8) :: st) := jv_get B hts in_K hown hK 8 rfl rfl 5 (by decide) (hts _ kw_76) (fun _ h => h) rfl hd kk
theorem fs_K_round (B : jv_B p c cc) (hts : ∀ w ∈ wb, w.before args s = true) (hown : s.vm.findClass rn_K = some m.cls) (hK : va_K D jClasses (jTy cI cA cL) s) {v : Int32} (hd : decode cc pc = .ok (.putfield 42, 3))
    (kk : jv_V p l e R s m args below meth c D jClasses A nL cells slots Q (cw ad cI cA (up2 σ 8 5 v) F) lv (pc + 3) st) : jv_V p l e R s m args below meth c D jClasses A nL cells slots Q (cw ad cI cA σ F) lv pc (.int v :: .ref (ad 8) :: st) := jv_put (ty := .int) (ci := 0) (fs := [.ref (ad 1), .ref (ad 6), .int (σ 8 2), .int (σ 8 3), .int (σ 8 4), .int (σ 8 5), .int (σ 8 6), .int (σ 8 7)]) (ws' := cw ad cI cA (up2 σ 8 5 v) F) B hts in_K ty_K tyok_K nm_K hown hK 8 rfl rfl 5 (by decide) (hts _ kw_76) (fun _ h => h) rfl (by decide +kernel) rfl rfl (Nat.le_of_ble_eq_true rfl) hd rfl kk
theorem fg_K_retryRounds (B : jv_B p c cc) (hts : ∀ w ∈ wb, w.before args s = true) (hown : s.vm.findClass rn_K = some m.cls) (hK : va_K D jClasses (jTy cI cA cL) s) (hd : decode cc pc = .ok (.getfield 23, 3))
    (kk : jv_V p l e R s m args below meth c D jClasses A nL cells slots Q (cw ad cI cA σ F) lv (pc + 3) (.int (σ 8 6) :: st)) : jv_V p l e R s m args below meth c D jClasses A nL cells slots Q (cw ad cI cA σ F) lv pc (.ref (ad 8) :: st) := jv_get B hts in_K hown hK 8 rfl rfl 6 (by decide) (hts _ kw_77) (fun _ h => h) rfl hd kk
theorem fs_K_retryRounds (B : jv_B p c cc) (hts : ∀ w ∈ wb, w.before args s = true) (hown : s.vm.findClass rn_K = some m.cls) (hK : va_K D jClasses (jTy cI cA cL) s) {v : Int32} (hd : decode cc pc = .ok (.putfield 23, 3))
    (kk : jv_V p l e R s m args below meth c D jClasses A nL cells slots Q (cw ad cI cA (up2 σ 8 6 v) F) lv (pc + 3) st) : jv_V p l e R s m args below meth c D jClasses A nL cells slots Q (cw ad cI cA σ F) lv pc (.int v :: .ref (ad 8) :: st) := jv_put (ty := .int) (ci := 0) (fs := [.ref (ad 1), .ref (ad 6), .int (σ 8 2), .int (σ 8 3), .int (σ 8 4), .int (σ 8 5), .int (σ 8 6), .int (σ 8 7)]) (ws' := cw ad cI cA (up2 σ 8 6 v) F) B hts in_K ty_K tyok_K nm_K hown hK 8 rfl rfl 6 (by decide) (hts _ kw_77) (fun _ h => h) rfl (by decide +kernel) rfl rfl (Nat.le_of_ble_eq_true rfl) hd rfl kk
theorem fg_K_trimsLast (B : jv_B p c cc) (hts : ∀ w ∈ wb, w.before args s = true) (hown : s.vm.findClass rn_K = some m.cls) (hK : va_K D jClasses (jTy cI cA cL) s) (hd : decode cc pc = .ok (.getfield 45, 3))
    (kk : jv_V p l e R s m args below meth c D jClasses A nL cells slots Q (cw ad cI cA σ F) lv (pc + 3) (.int (σ 8 7) :: st)) : jv_V p l e R s m args below meth c D jClasses A nL cells slots Q (cw ad cI cA σ F) lv pc (.ref (ad 8) :: st) := jv_get B hts in_K hown hK 8 rfl rfl 7 (by decide) (hts _ kw_78) (fun _ h => h) rfl hd kk
theorem fs_K_trimsLast (B : jv_B p c cc) (hts : ∀ w ∈ wb, w.before args s = true) (hown : s.vm.findClass rn_K = some m.cls) (hK : va_K D jClasses (jTy cI cA cL) s) {v : Int32} (hz : v = 0 ∨ v = 1) (hd : decode cc pc = .ok (.putfield 45, 3))
    (kk : jv_V p l e R s m args below meth c D jClasses A nL cells slots Q (cw ad cI cA (up2 σ 8 7 v) F) lv (pc + 3) st) : jv_V p l e R s m args below meth c D jClasses A nL cells slots Q (cw ad cI cA σ F) lv pc (.int v :: .ref (ad 8) :: st) := jv_put (ty := .boolean) (ci := 0) (fs := [.ref (ad 1), .ref (ad 6), .int (σ 8 2), .int (σ 8 3), .int (σ 8 4), .int (σ 8 5), .int (σ 8 6), .int (σ 8 7)]) (ws' := cw ad cI cA (up2 σ 8 7 v) F) B hts in_K ty_K tyok_K nm_K hown hK 8 rfl rfl 7 (by decide) (hts _ kw_78) (fun _ h => h) rfl (by decide +kernel) (by rcases hz with rfl | rfl <;> rfl) (by rcases hz with rfl | rfl <;> rfl) (Nat.le_of_ble_eq_true rfl) hd rfl kk
theorem in_D : ∀ w ∈ u_ws rn_D tf_D 7, w ∈ wb := by
  intro w hw
  obtain ⟨j, hj, rfl⟩ := List.mem_map.mp hw
  have hj := List.mem_range.mp hj
  match j, hj with
  | 0, _ => exact kw_36
  | 1, _ => exact kw_38
  | 2, _ => exact kw_40
  | 3, _ => exact kw_42
  | 4, _ => exact kw_44
  | 5, _ => exact kw_46
  | 6, _ => exact kw_48
  | j + 7, hj => omega
theorem fg_D_words (B : jv_B p c cc) (hts : ∀ w ∈ wb, w.before args s = true) (hown : s.vm.findClass rn_D = some m.cls) (hK : va_K D jClasses (jTy cI cA cL) s) (hd : decode cc pc = .ok (.getfield 9, 3))
    (kk : jv_V p l e R s m args below meth c D jClasses A nL cells slots Q (cw ad cI cA σ F) lv (pc + 3) (.ref (ad 2) :: st)) : jv_V p l e R s m args below meth c D jClasses A nL cells slots Q (cw ad cI cA σ F) lv pc (.ref (ad 1) :: st) := jv_get B hts in_D hown hK 1 rfl rfl 0 (by decide) (hts _ kw_29) (fun _ h => h) rfl hd kk
theorem fg_D_failuresLeft (B : jv_B p c cc) (hts : ∀ w ∈ wb, w.before args s = true) (hown : s.vm.findClass rn_D = some m.cls) (hK : va_K D jClasses (jTy cI cA cL) s) (hd : decode cc pc = .ok (.getfield 15, 3))
    (kk : jv_V p l e R s m args below meth c D jClasses A nL cells slots Q (cw ad cI cA σ F) lv (pc + 3) (.ref (ad 3) :: st)) : jv_V p l e R s m args below meth c D jClasses A nL cells slots Q (cw ad cI cA σ F) lv pc (.ref (ad 1) :: st) := jv_get B hts in_D hown hK 1 rfl rfl 1 (by decide) (hts _ kw_30) (fun _ h => h) rfl hd kk
theorem fg_D_readCounts (B : jv_B p c cc) (hts : ∀ w ∈ wb, w.before args s = true) (hown : s.vm.findClass rn_D = some m.cls) (hK : va_K D jClasses (jTy cI cA cL) s) (hd : decode cc pc = .ok (.getfield 18, 3))
    (kk : jv_V p l e R s m args below meth c D jClasses A nL cells slots Q (cw ad cI cA σ F) lv (pc + 3) (.ref (ad 4) :: st)) : jv_V p l e R s m args below meth c D jClasses A nL cells slots Q (cw ad cI cA σ F) lv pc (.ref (ad 1) :: st) := jv_get B hts in_D hown hK 1 rfl rfl 2 (by decide) (hts _ kw_31) (fun _ h => h) rfl hd kk
theorem fg_D_target (B : jv_B p c cc) (hts : ∀ w ∈ wb, w.before args s = true) (hown : s.vm.findClass rn_D = some m.cls) (hK : va_K D jClasses (jTy cI cA cL) s) (hd : decode cc pc = .ok (.getfield 21, 3))
    (kk : jv_V p l e R s m args below meth c D jClasses A nL cells slots Q (cw ad cI cA σ F) lv (pc + 3) (.ref (ad 5) :: st)) : jv_V p l e R s m args below meth c D jClasses A nL cells slots Q (cw ad cI cA σ F) lv pc (.ref (ad 1) :: st) := jv_get B hts in_D hown hK 1 rfl rfl 3 (by decide) (hts _ kw_32) (fun _ h => h) rfl hd kk
theorem fg_D_sectors (B : jv_B p c cc) (hts : ∀ w ∈ wb, w.before args s = true) (hown : s.vm.findClass rn_D = some m.cls) (hK : va_K D jClasses (jTy cI cA cL) s) (hd : decode cc pc = .ok (.getfield 24, 3))
    (kk : jv_V p l e R s m args below meth c D jClasses A nL cells slots Q (cw ad cI cA σ F) lv (pc + 3) (.int (σ 1 4) :: st)) : jv_V p l e R s m args below meth c D jClasses A nL cells slots Q (cw ad cI cA σ F) lv pc (.ref (ad 1) :: st) := jv_get B hts in_D hown hK 1 rfl rfl 4 (by decide) (hts _ kw_33) (fun _ h => h) rfl hd kk
theorem fs_D_sectors (B : jv_B p c cc) (hts : ∀ w ∈ wb, w.before args s = true) (hown : s.vm.findClass rn_D = some m.cls) (hK : va_K D jClasses (jTy cI cA cL) s) {v : Int32} (hd : decode cc pc = .ok (.putfield 24, 3))
    (kk : jv_V p l e R s m args below meth c D jClasses A nL cells slots Q (cw ad cI cA (up2 σ 1 4 v) F) lv (pc + 3) st) : jv_V p l e R s m args below meth c D jClasses A nL cells slots Q (cw ad cI cA σ F) lv pc (.int v :: .ref (ad 1) :: st) := jv_put (ty := .int) (ci := 1) (fs := [.ref (ad 2), .ref (ad 3), .ref (ad 4), .ref (ad 5), .int (σ 1 4), .int (σ 1 5), .int (σ 1 6)]) (ws' := cw ad cI cA (up2 σ 1 4 v) F) B hts in_D ty_D tyok_D nm_D hown hK 1 rfl rfl 4 (by decide) (hts _ kw_33) (fun _ h => h) rfl (by decide +kernel) rfl rfl (Nat.le_of_ble_eq_true rfl) hd rfl kk
theorem fg_D_stretches (B : jv_B p c cc) (hts : ∀ w ∈ wb, w.before args s = true) (hown : s.vm.findClass rn_D = some m.cls) (hK : va_K D jClasses (jTy cI cA cL) s) (hd : decode cc pc = .ok (.getfield 28, 3))
    (kk : jv_V p l e R s m args below meth c D jClasses A nL cells slots Q (cw ad cI cA σ F) lv (pc + 3) (.int (σ 1 5) :: st)) : jv_V p l e R s m args below meth c D jClasses A nL cells slots Q (cw ad cI cA σ F) lv pc (.ref (ad 1) :: st) := jv_get B hts in_D hown hK 1 rfl rfl 5 (by decide) (hts _ kw_34) (fun _ h => h) rfl hd kk
theorem fs_D_stretches (B : jv_B p c cc) (hts : ∀ w ∈ wb, w.before args s = true) (hown : s.vm.findClass rn_D = some m.cls) (hK : va_K D jClasses (jTy cI cA cL) s) {v : Int32} (hd : decode cc pc = .ok (.putfield 28, 3))
    (kk : jv_V p l e R s m args below meth c D jClasses A nL cells slots Q (cw ad cI cA (up2 σ 1 5 v) F) lv (pc + 3) st) : jv_V p l e R s m args below meth c D jClasses A nL cells slots Q (cw ad cI cA σ F) lv pc (.int v :: .ref (ad 1) :: st) := jv_put (ty := .int) (ci := 1) (fs := [.ref (ad 2), .ref (ad 3), .ref (ad 4), .ref (ad 5), .int (σ 1 4), .int (σ 1 5), .int (σ 1 6)]) (ws' := cw ad cI cA (up2 σ 1 5 v) F) B hts in_D ty_D tyok_D nm_D hown hK 1 rfl rfl 5 (by decide) (hts _ kw_34) (fun _ h => h) rfl (by decide +kernel) rfl rfl (Nat.le_of_ble_eq_true rfl) hd rfl kk
theorem fg_D_failedStretches (B : jv_B p c cc) (hts : ∀ w ∈ wb, w.before args s = true) (hown : s.vm.findClass rn_D = some m.cls) (hK : va_K D jClasses (jTy cI cA cL) s) (hd : decode cc pc = .ok (.getfield 31, 3))
    (kk : jv_V p l e R s m args below meth c D jClasses A nL cells slots Q (cw ad cI cA σ F) lv (pc + 3) (.int (σ 1 6) :: st)) : jv_V p l e R s m args below meth c D jClasses A nL cells slots Q (cw ad cI cA σ F) lv pc (.ref (ad 1) :: st) := jv_get B hts in_D hown hK 1 rfl rfl 6 (by decide) (hts _ kw_35) (fun _ h => h) rfl hd kk
theorem fs_D_failedStretches (B : jv_B p c cc) (hts : ∀ w ∈ wb, w.before args s = true) (hown : s.vm.findClass rn_D = some m.cls) (hK : va_K D jClasses (jTy cI cA cL) s) {v : Int32} (hd : decode cc pc = .ok (.putfield 31, 3))
    (kk : jv_V p l e R s m args below meth c D jClasses A nL cells slots Q (cw ad cI cA (up2 σ 1 6 v) F) lv (pc + 3) st) : jv_V p l e R s m args below meth c D jClasses A nL cells slots Q (cw ad cI cA σ F) lv pc (.int v :: .ref (ad 1) :: st) := jv_put (ty := .int) (ci := 1) (fs := [.ref (ad 2), .ref (ad 3), .ref (ad 4), .ref (ad 5), .int (σ 1 4), .int (σ 1 5), .int (σ 1 6)]) (ws' := cw ad cI cA (up2 σ 1 6 v) F) B hts in_D ty_D tyok_D nm_D hown hK 1 rfl rfl 6 (by decide) (hts _ kw_35) (fun _ h => h) rfl (by decide +kernel) rfl rfl (Nat.le_of_ble_eq_true rfl) hd rfl kk
theorem in_V : ∀ w ∈ u_ws rn_V tf_V 3, w ∈ wb := by
  intro w hw
  obtain ⟨j, hj, rfl⟩ := List.mem_map.mp hw
  have hj := List.mem_range.mp hj
  match j, hj with
  | 0, _ => exact kw_107
  | 1, _ => exact kw_109
  | 2, _ => exact kw_111
  | j + 3, hj => omega
theorem fg_V_slots (B : jv_B p c cc) (hts : ∀ w ∈ wb, w.before args s = true) (hown : s.vm.findClass rn_V = some m.cls) (hK : va_K D jClasses (jTy cI cA cL) s) (hd : decode cc pc = .ok (.getfield 11, 3))
    (kk : jv_V p l e R s m args below meth c D jClasses A nL cells slots Q (cw ad cI cA σ F) lv (pc + 3) (.ref (ad 10) :: st)) : jv_V p l e R s m args below meth c D jClasses A nL cells slots Q (cw ad cI cA σ F) lv pc (.ref (ad 9) :: st) := jv_get B hts in_V hown hK 9 rfl rfl 0 (by decide) (hts _ kw_104) (fun _ h => h) rfl hd kk
theorem fg_V_drawn (B : jv_B p c cc) (hts : ∀ w ∈ wb, w.before args s = true) (hown : s.vm.findClass rn_V = some m.cls) (hK : va_K D jClasses (jTy cI cA cL) s) (hd : decode cc pc = .ok (.getfield 16, 3))
    (kk : jv_V p l e R s m args below meth c D jClasses A nL cells slots Q (cw ad cI cA σ F) lv (pc + 3) (.ref (ad 13) :: st)) : jv_V p l e R s m args below meth c D jClasses A nL cells slots Q (cw ad cI cA σ F) lv pc (.ref (ad 9) :: st) := jv_get B hts in_V hown hK 9 rfl rfl 1 (by decide) (hts _ kw_105) (fun _ h => h) rfl hd kk
theorem fg_V_lastNumber (B : jv_B p c cc) (hts : ∀ w ∈ wb, w.before args s = true) (hown : s.vm.findClass rn_V = some m.cls) (hK : va_K D jClasses (jTy cI cA cL) s) (hd : decode cc pc = .ok (.getfield 20, 3))
    (kk : jv_V p l e R s m args below meth c D jClasses A nL cells slots Q (cw ad cI cA σ F) lv (pc + 3) (.int (σ 9 2) :: st)) : jv_V p l e R s m args below meth c D jClasses A nL cells slots Q (cw ad cI cA σ F) lv pc (.ref (ad 9) :: st) := jv_get B hts in_V hown hK 9 rfl rfl 2 (by decide) (hts _ kw_106) (fun _ h => h) rfl hd kk
theorem fs_V_lastNumber (B : jv_B p c cc) (hts : ∀ w ∈ wb, w.before args s = true) (hown : s.vm.findClass rn_V = some m.cls) (hK : va_K D jClasses (jTy cI cA cL) s) {v : Int32} (hd : decode cc pc = .ok (.putfield 20, 3))
    (kk : jv_V p l e R s m args below meth c D jClasses A nL cells slots Q (cw ad cI cA (up2 σ 9 2 v) F) lv (pc + 3) st) : jv_V p l e R s m args below meth c D jClasses A nL cells slots Q (cw ad cI cA σ F) lv pc (.int v :: .ref (ad 9) :: st) := jv_put (ty := .int) (ci := 2) (fs := [.ref (ad 10), .ref (ad 13), .int (σ 9 2)]) (ws' := cw ad cI cA (up2 σ 9 2 v) F) B hts in_V ty_V tyok_V nm_V hown hK 9 rfl rfl 2 (by decide) (hts _ kw_106) (fun _ h => h) rfl (by decide +kernel) rfl rfl (Nat.le_of_ble_eq_true rfl) hd rfl kk
theorem in_S : ∀ w ∈ u_ws rn_S tf_S 2, w ∈ wb := by
  intro w hw
  obtain ⟨j, hj, rfl⟩ := List.mem_map.mp hw
  have hj := List.mem_range.mp hj
  match j, hj with
  | 0, _ => exact kw_60
  | 1, _ => exact kw_62
  | j + 2, hj => omega
theorem fg_S_states (B : jv_B p c cc) (hts : ∀ w ∈ wb, w.before args s = true) (hown : s.vm.findClass rn_S = some m.cls) (hK : va_K D jClasses (jTy cI cA cL) s) (hd : decode cc pc = .ok (.getfield 9, 3))
    (kk : jv_V p l e R s m args below meth c D jClasses A nL cells slots Q (cw ad cI cA σ F) lv (pc + 3) (.ref (ad 7) :: st)) : jv_V p l e R s m args below meth c D jClasses A nL cells slots Q (cw ad cI cA σ F) lv pc (.ref (ad 6) :: st) := jv_get B hts in_S hown hK 6 rfl rfl 0 (by decide) (hts _ kw_58) (fun _ h => h) rfl hd kk
theorem fg_S_sectors (B : jv_B p c cc) (hts : ∀ w ∈ wb, w.before args s = true) (hown : s.vm.findClass rn_S = some m.cls) (hK : va_K D jClasses (jTy cI cA cL) s) (hd : decode cc pc = .ok (.getfield 24, 3))
    (kk : jv_V p l e R s m args below meth c D jClasses A nL cells slots Q (cw ad cI cA σ F) lv (pc + 3) (.int (σ 6 1) :: st)) : jv_V p l e R s m args below meth c D jClasses A nL cells slots Q (cw ad cI cA σ F) lv pc (.ref (ad 6) :: st) := jv_get B hts in_S hown hK 6 rfl rfl 1 (by decide) (hts _ kw_59) (fun _ h => h) rfl hd kk
theorem fs_S_sectors (B : jv_B p c cc) (hts : ∀ w ∈ wb, w.before args s = true) (hown : s.vm.findClass rn_S = some m.cls) (hK : va_K D jClasses (jTy cI cA cL) s) {v : Int32} (hd : decode cc pc = .ok (.putfield 24, 3))
    (kk : jv_V p l e R s m args below meth c D jClasses A nL cells slots Q (cw ad cI cA (up2 σ 6 1 v) F) lv (pc + 3) st) : jv_V p l e R s m args below meth c D jClasses A nL cells slots Q (cw ad cI cA σ F) lv pc (.int v :: .ref (ad 6) :: st) := jv_put (ty := .int) (ci := 3) (fs := [.ref (ad 7), .int (σ 6 1)]) (ws' := cw ad cI cA (up2 σ 6 1 v) F) B hts in_S ty_S tyok_S nm_S hown hK 6 rfl rfl 1 (by decide) (hts _ kw_59) (fun _ h => h) rfl (by decide +kernel) rfl rfl (Nat.le_of_ble_eq_true rfl) hd rfl kk
theorem in_R : ∀ w ∈ u_ws rn_R tf_R 4, w ∈ wb := by
  intro w hw
  obtain ⟨j, hj, rfl⟩ := List.mem_map.mp hw
  have hj := List.mem_range.mp hj
  match j, hj with
  | 0, _ => exact kw_118
  | 1, _ => exact kw_120
  | 2, _ => exact kw_122
  | 3, _ => exact kw_124
  | j + 4, hj => omega
theorem fg_R_disk (B : jv_B p c cc) (hts : ∀ w ∈ wb, w.before args s = true) (hown : s.vm.findClass rn_R = some m.cls) (hK : va_K D jClasses (jTy cI cA cL) s) (hd : decode cc pc = .ok (.getfield 10, 3))
    (kk : jv_V p l e R s m args below meth c D jClasses A nL cells slots Q (cw ad cI cA σ F) lv (pc + 3) (.ref (ad 1) :: st)) : jv_V p l e R s m args below meth c D jClasses A nL cells slots Q (cw ad cI cA σ F) lv pc (.ref (ad 0) :: st) := jv_get B hts in_R hown hK 0 rfl rfl 0 (by decide) (hts _ kw_114) (fun _ h => h) rfl hd kk
theorem fg_R_map (B : jv_B p c cc) (hts : ∀ w ∈ wb, w.before args s = true) (hown : s.vm.findClass rn_R = some m.cls) (hK : va_K D jClasses (jTy cI cA cL) s) (hd : decode cc pc = .ok (.getfield 19, 3))
    (kk : jv_V p l e R s m args below meth c D jClasses A nL cells slots Q (cw ad cI cA σ F) lv (pc + 3) (.ref (ad 6) :: st)) : jv_V p l e R s m args below meth c D jClasses A nL cells slots Q (cw ad cI cA σ F) lv pc (.ref (ad 0) :: st) := jv_get B hts in_R hown hK 0 rfl rfl 1 (by decide) (hts _ kw_115) (fun _ h => h) rfl hd kk
theorem fg_R_copier (B : jv_B p c cc) (hts : ∀ w ∈ wb, w.before args s = true) (hown : s.vm.findClass rn_R = some m.cls) (hK : va_K D jClasses (jTy cI cA cL) s) (hd : decode cc pc = .ok (.getfield 28, 3))
    (kk : jv_V p l e R s m args below meth c D jClasses A nL cells slots Q (cw ad cI cA σ F) lv (pc + 3) (.ref (ad 8) :: st)) : jv_V p l e R s m args below meth c D jClasses A nL cells slots Q (cw ad cI cA σ F) lv pc (.ref (ad 0) :: st) := jv_get B hts in_R hown hK 0 rfl rfl 2 (by decide) (hts _ kw_116) (fun _ h => h) rfl hd kk
theorem fg_R_saves (B : jv_B p c cc) (hts : ∀ w ∈ wb, w.before args s = true) (hown : s.vm.findClass rn_R = some m.cls) (hK : va_K D jClasses (jTy cI cA cL) s) (hd : decode cc pc = .ok (.getfield 35, 3))
    (kk : jv_V p l e R s m args below meth c D jClasses A nL cells slots Q (cw ad cI cA σ F) lv (pc + 3) (.ref (ad 9) :: st)) : jv_V p l e R s m args below meth c D jClasses A nL cells slots Q (cw ad cI cA σ F) lv pc (.ref (ad 0) :: st) := jv_get B hts in_R hown hK 0 rfl rfl 3 (by decide) (hts _ kw_117) (fun _ h => h) rfl hd kk
theorem in_M : ∀ w ∈ u_ws rn_M tf_M 21, w ∈ wb := by
  intro w hw
  obtain ⟨j, hj, rfl⟩ := List.mem_map.mp hw
  have hj := List.mem_range.mp hj
  match j, hj with
  | 0, _ => exact kw_583
  | 1, _ => exact kw_585
  | 2, _ => exact kw_587
  | 3, _ => exact kw_589
  | 4, _ => exact kw_591
  | 5, _ => exact kw_593
  | 6, _ => exact kw_595
  | 7, _ => exact kw_597
  | 8, _ => exact kw_599
  | 9, _ => exact kw_601
  | 10, _ => exact kw_603
  | 11, _ => exact kw_605
  | 12, _ => exact kw_607
  | 13, _ => exact kw_609
  | 14, _ => exact kw_611
  | 15, _ => exact kw_613
  | 16, _ => exact kw_615
  | 17, _ => exact kw_617
  | 18, _ => exact kw_619
  | 19, _ => exact kw_621
  | 20, _ => exact kw_623
  | j + 21, hj => omega
theorem fg_M_code (B : jv_B p c cc) (hts : ∀ w ∈ wb, w.before args s = true) (hown : s.vm.findClass rn_M = some m.cls) (hK : va_K D jClasses (jTy cI cA cL) s) (hd : decode cc pc = .ok (.getfield 35, 3))
    (kk : jv_V p l e R s m args below meth c D jClasses A nL cells slots Q (mw ad cI cA σ F) lv (pc + 3) (.int (σ 0 0) :: st)) : jv_V p l e R s m args below meth c D jClasses A nL cells slots Q (mw ad cI cA σ F) lv pc (.ref (ad 0) :: st) := jv_get B hts in_M hown hK 0 rfl rfl 0 (by decide) (hts _ kw_562) (fun _ h => h) rfl hd kk
theorem fs_M_code (B : jv_B p c cc) (hts : ∀ w ∈ wb, w.before args s = true) (hown : s.vm.findClass rn_M = some m.cls) (hK : va_K D jClasses (jTy cI cA cL) s) {v : Int32} (hd : decode cc pc = .ok (.putfield 35, 3))
    (kk : jv_V p l e R s m args below meth c D jClasses A nL cells slots Q (mw ad cI cA (up2 σ 0 0 v) F) lv (pc + 3) st) : jv_V p l e R s m args below meth c D jClasses A nL cells slots Q (mw ad cI cA σ F) lv pc (.int v :: .ref (ad 0) :: st) := jv_put (ty := .int) (ci := 5) (fs := [.int (σ 0 0), .int (σ 0 1), .ref (ad 1), .ref (ad 2), .ref (ad 3), .ref (ad 4), .int (σ 0 6), .int (σ 0 7), .int (σ 0 8), .int (σ 0 9), .ref (ad 5), .int (σ 0 11), .int (σ 0 12), .int (σ 0 13), .int (σ 0 14), .int (σ 0 15), .int (σ 0 16), .int (σ 0 17), .ref (ad 6), .ref (ad 7), .int (σ 0 20)]) (ws' := mw ad cI cA (up2 σ 0 0 v) F) B hts in_M ty_M tyok_M nm_M hown hK 0 rfl rfl 0 (by decide) (hts _ kw_562) (fun _ h => h) rfl (by decide +kernel) rfl rfl (Nat.le_of_ble_eq_true rfl) hd rfl kk
theorem fg_M_sectors (B : jv_B p c cc) (hts : ∀ w ∈ wb, w.before args s = true) (hown : s.vm.findClass rn_M = some m.cls) (hK : va_K D jClasses (jTy cI cA cL) s) (hd : decode cc pc = .ok (.getfield 38, 3))
    (kk : jv_V p l e R s m args below meth c D jClasses A nL cells slots Q (mw ad cI cA σ F) lv (pc + 3) (.int (σ 0 1) :: st)) : jv_V p l e R s m args below meth c D jClasses A nL cells slots Q (mw ad cI cA σ F) lv pc (.ref (ad 0) :: st) := jv_get B hts in_M hown hK 0 rfl rfl 1 (by decide) (hts _ kw_563) (fun _ h => h) rfl hd kk
theorem fs_M_sectors (B : jv_B p c cc) (hts : ∀ w ∈ wb, w.before args s = true) (hown : s.vm.findClass rn_M = some m.cls) (hK : va_K D jClasses (jTy cI cA cL) s) {v : Int32} (hd : decode cc pc = .ok (.putfield 38, 3))
    (kk : jv_V p l e R s m args below meth c D jClasses A nL cells slots Q (mw ad cI cA (up2 σ 0 1 v) F) lv (pc + 3) st) : jv_V p l e R s m args below meth c D jClasses A nL cells slots Q (mw ad cI cA σ F) lv pc (.int v :: .ref (ad 0) :: st) := jv_put (ty := .int) (ci := 5) (fs := [.int (σ 0 0), .int (σ 0 1), .ref (ad 1), .ref (ad 2), .ref (ad 3), .ref (ad 4), .int (σ 0 6), .int (σ 0 7), .int (σ 0 8), .int (σ 0 9), .ref (ad 5), .int (σ 0 11), .int (σ 0 12), .int (σ 0 13), .int (σ 0 14), .int (σ 0 15), .int (σ 0 16), .int (σ 0 17), .ref (ad 6), .ref (ad 7), .int (σ 0 20)]) (ws' := mw ad cI cA (up2 σ 0 1 v) F) B hts in_M ty_M tyok_M nm_M hown hK 0 rfl rfl 1 (by decide) (hts _ kw_563) (fun _ h => h) rfl (by decide +kernel) rfl rfl (Nat.le_of_ble_eq_true rfl) hd rfl kk
theorem fg_M_words (B : jv_B p c cc) (hts : ∀ w ∈ wb, w.before args s = true) (hown : s.vm.findClass rn_M = some m.cls) (hK : va_K D jClasses (jTy cI cA cL) s) (hd : decode cc pc = .ok (.getfield 7, 3))
    (kk : jv_V p l e R s m args below meth c D jClasses A nL cells slots Q (mw ad cI cA σ F) lv (pc + 3) (.ref (ad 1) :: st)) : jv_V p l e R s m args below meth c D jClasses A nL cells slots Q (mw ad cI cA σ F) lv pc (.ref (ad 0) :: st) := jv_get B hts in_M hown hK 0 rfl rfl 2 (by decide) (hts _ kw_564) (fun _ h => h) rfl hd kk
theorem fg_M_failures (B : jv_B p c cc) (hts : ∀ w ∈ wb, w.before args s = true) (hown : s.vm.findClass rn_M = some m.cls) (hK : va_K D jClasses (jTy cI cA cL) s) (hd : decode cc pc = .ok (.getfield 13, 3))
    (kk : jv_V p l e R s m args below meth c D jClasses A nL cells slots Q (mw ad cI cA σ F) lv (pc + 3) (.ref (ad 2) :: st)) : jv_V p l e R s m args below meth c D jClasses A nL cells slots Q (mw ad cI cA σ F) lv pc (.ref (ad 0) :: st) := jv_get B hts in_M hown hK 0 rfl rfl 3 (by decide) (hts _ kw_565) (fun _ h => h) rfl hd kk
theorem fg_M_reads (B : jv_B p c cc) (hts : ∀ w ∈ wb, w.before args s = true) (hown : s.vm.findClass rn_M = some m.cls) (hK : va_K D jClasses (jTy cI cA cL) s) (hd : decode cc pc = .ok (.getfield 16, 3))
    (kk : jv_V p l e R s m args below meth c D jClasses A nL cells slots Q (mw ad cI cA σ F) lv (pc + 3) (.ref (ad 3) :: st)) : jv_V p l e R s m args below meth c D jClasses A nL cells slots Q (mw ad cI cA σ F) lv pc (.ref (ad 0) :: st) := jv_get B hts in_M hown hK 0 rfl rfl 4 (by decide) (hts _ kw_566) (fun _ h => h) rfl hd kk
theorem fg_M_target (B : jv_B p c cc) (hts : ∀ w ∈ wb, w.before args s = true) (hown : s.vm.findClass rn_M = some m.cls) (hK : va_K D jClasses (jTy cI cA cL) s) (hd : decode cc pc = .ok (.getfield 19, 3))
    (kk : jv_V p l e R s m args below meth c D jClasses A nL cells slots Q (mw ad cI cA σ F) lv (pc + 3) (.ref (ad 4) :: st)) : jv_V p l e R s m args below meth c D jClasses A nL cells slots Q (mw ad cI cA σ F) lv pc (.ref (ad 0) :: st) := jv_get B hts in_M hown hK 0 rfl rfl 5 (by decide) (hts _ kw_567) (fun _ h => h) rfl hd kk
theorem fg_M_made (B : jv_B p c cc) (hts : ∀ w ∈ wb, w.before args s = true) (hown : s.vm.findClass rn_M = some m.cls) (hK : va_K D jClasses (jTy cI cA cL) s) (hd : decode cc pc = .ok (.getfield 41, 3))
    (kk : jv_V p l e R s m args below meth c D jClasses A nL cells slots Q (mw ad cI cA σ F) lv (pc + 3) (.int (σ 0 6) :: st)) : jv_V p l e R s m args below meth c D jClasses A nL cells slots Q (mw ad cI cA σ F) lv pc (.ref (ad 0) :: st) := jv_get B hts in_M hown hK 0 rfl rfl 6 (by decide) (hts _ kw_568) (fun _ h => h) rfl hd kk
theorem fs_M_made (B : jv_B p c cc) (hts : ∀ w ∈ wb, w.before args s = true) (hown : s.vm.findClass rn_M = some m.cls) (hK : va_K D jClasses (jTy cI cA cL) s) {v : Int32} (hd : decode cc pc = .ok (.putfield 41, 3))
    (kk : jv_V p l e R s m args below meth c D jClasses A nL cells slots Q (mw ad cI cA (up2 σ 0 6 v) F) lv (pc + 3) st) : jv_V p l e R s m args below meth c D jClasses A nL cells slots Q (mw ad cI cA σ F) lv pc (.int v :: .ref (ad 0) :: st) := jv_put (ty := .int) (ci := 5) (fs := [.int (σ 0 0), .int (σ 0 1), .ref (ad 1), .ref (ad 2), .ref (ad 3), .ref (ad 4), .int (σ 0 6), .int (σ 0 7), .int (σ 0 8), .int (σ 0 9), .ref (ad 5), .int (σ 0 11), .int (σ 0 12), .int (σ 0 13), .int (σ 0 14), .int (σ 0 15), .int (σ 0 16), .int (σ 0 17), .ref (ad 6), .ref (ad 7), .int (σ 0 20)]) (ws' := mw ad cI cA (up2 σ 0 6 v) F) B hts in_M ty_M tyok_M nm_M hown hK 0 rfl rfl 6 (by decide) (hts _ kw_568) (fun _ h => h) rfl (by decide +kernel) rfl rfl (Nat.le_of_ble_eq_true rfl) hd rfl kk
theorem fg_M_failed (B : jv_B p c cc) (hts : ∀ w ∈ wb, w.before args s = true) (hown : s.vm.findClass rn_M = some m.cls) (hK : va_K D jClasses (jTy cI cA cL) s) (hd : decode cc pc = .ok (.getfield 44, 3))
    (kk : jv_V p l e R s m args below meth c D jClasses A nL cells slots Q (mw ad cI cA σ F) lv (pc + 3) (.int (σ 0 7) :: st)) : jv_V p l e R s m args below meth c D jClasses A nL cells slots Q (mw ad cI cA σ F) lv pc (.ref (ad 0) :: st) := jv_get B hts in_M hown hK 0 rfl rfl 7 (by decide) (hts _ kw_569) (fun _ h => h) rfl hd kk
theorem fs_M_failed (B : jv_B p c cc) (hts : ∀ w ∈ wb, w.before args s = true) (hown : s.vm.findClass rn_M = some m.cls) (hK : va_K D jClasses (jTy cI cA cL) s) {v : Int32} (hd : decode cc pc = .ok (.putfield 44, 3))
    (kk : jv_V p l e R s m args below meth c D jClasses A nL cells slots Q (mw ad cI cA (up2 σ 0 7 v) F) lv (pc + 3) st) : jv_V p l e R s m args below meth c D jClasses A nL cells slots Q (mw ad cI cA σ F) lv pc (.int v :: .ref (ad 0) :: st) := jv_put (ty := .int) (ci := 5) (fs := [.int (σ 0 0), .int (σ 0 1), .ref (ad 1), .ref (ad 2), .ref (ad 3), .ref (ad 4), .int (σ 0 6), .int (σ 0 7), .int (σ 0 8), .int (σ 0 9), .ref (ad 5), .int (σ 0 11), .int (σ 0 12), .int (σ 0 13), .int (σ 0 14), .int (σ 0 15), .int (σ 0 16), .int (σ 0 17), .ref (ad 6), .ref (ad 7), .int (σ 0 20)]) (ws' := mw ad cI cA (up2 σ 0 7 v) F) B hts in_M ty_M tyok_M nm_M hown hK 0 rfl rfl 7 (by decide) (hts _ kw_569) (fun _ h => h) rfl (by decide +kernel) rfl rfl (Nat.le_of_ble_eq_true rfl) hd rfl kk
theorem fg_M_phase (B : jv_B p c cc) (hts : ∀ w ∈ wb, w.before args s = true) (hown : s.vm.findClass rn_M = some m.cls) (hK : va_K D jClasses (jTy cI cA cL) s) (hd : decode cc pc = .ok (.getfield 22, 3))
    (kk : jv_V p l e R s m args below meth c D jClasses A nL cells slots Q (mw ad cI cA σ F) lv (pc + 3) (.int (σ 0 8) :: st)) : jv_V p l e R s m args below meth c D jClasses A nL cells slots Q (mw ad cI cA σ F) lv pc (.ref (ad 0) :: st) := jv_get B hts in_M hown hK 0 rfl rfl 8 (by decide) (hts _ kw_570) (fun _ h => h) rfl hd kk
theorem fs_M_phase (B : jv_B p c cc) (hts : ∀ w ∈ wb, w.before args s = true) (hown : s.vm.findClass rn_M = some m.cls) (hK : va_K D jClasses (jTy cI cA cL) s) {v : Int32} (hd : decode cc pc = .ok (.putfield 22, 3))
    (kk : jv_V p l e R s m args below meth c D jClasses A nL cells slots Q (mw ad cI cA (up2 σ 0 8 v) F) lv (pc + 3) st) : jv_V p l e R s m args below meth c D jClasses A nL cells slots Q (mw ad cI cA σ F) lv pc (.int v :: .ref (ad 0) :: st) := jv_put (ty := .int) (ci := 5) (fs := [.int (σ 0 0), .int (σ 0 1), .ref (ad 1), .ref (ad 2), .ref (ad 3), .ref (ad 4), .int (σ 0 6), .int (σ 0 7), .int (σ 0 8), .int (σ 0 9), .ref (ad 5), .int (σ 0 11), .int (σ 0 12), .int (σ 0 13), .int (σ 0 14), .int (σ 0 15), .int (σ 0 16), .int (σ 0 17), .ref (ad 6), .ref (ad 7), .int (σ 0 20)]) (ws' := mw ad cI cA (up2 σ 0 8 v) F) B hts in_M ty_M tyok_M nm_M hown hK 0 rfl rfl 8 (by decide) (hts _ kw_570) (fun _ h => h) rfl (by decide +kernel) rfl rfl (Nat.le_of_ble_eq_true rfl) hd rfl kk
theorem fg_M_retries (B : jv_B p c cc) (hts : ∀ w ∈ wb, w.before args s = true) (hown : s.vm.findClass rn_M = some m.cls) (hK : va_K D jClasses (jTy cI cA cL) s) (hd : decode cc pc = .ok (.getfield 73, 3))
    (kk : jv_V p l e R s m args below meth c D jClasses A nL cells slots Q (mw ad cI cA σ F) lv (pc + 3) (.int (σ 0 9) :: st)) : jv_V p l e R s m args below meth c D jClasses A nL cells slots Q (mw ad cI cA σ F) lv pc (.ref (ad 0) :: st) := jv_get B hts in_M hown hK 0 rfl rfl 9 (by decide) (hts _ kw_571) (fun _ h => h) rfl hd kk
theorem fs_M_retries (B : jv_B p c cc) (hts : ∀ w ∈ wb, w.before args s = true) (hown : s.vm.findClass rn_M = some m.cls) (hK : va_K D jClasses (jTy cI cA cL) s) {v : Int32} (hd : decode cc pc = .ok (.putfield 73, 3))
    (kk : jv_V p l e R s m args below meth c D jClasses A nL cells slots Q (mw ad cI cA (up2 σ 0 9 v) F) lv (pc + 3) st) : jv_V p l e R s m args below meth c D jClasses A nL cells slots Q (mw ad cI cA σ F) lv pc (.int v :: .ref (ad 0) :: st) := jv_put (ty := .int) (ci := 5) (fs := [.int (σ 0 0), .int (σ 0 1), .ref (ad 1), .ref (ad 2), .ref (ad 3), .ref (ad 4), .int (σ 0 6), .int (σ 0 7), .int (σ 0 8), .int (σ 0 9), .ref (ad 5), .int (σ 0 11), .int (σ 0 12), .int (σ 0 13), .int (σ 0 14), .int (σ 0 15), .int (σ 0 16), .int (σ 0 17), .ref (ad 6), .ref (ad 7), .int (σ 0 20)]) (ws' := mw ad cI cA (up2 σ 0 9 v) F) B hts in_M ty_M tyok_M nm_M hown hK 0 rfl rfl 9 (by decide) (hts _ kw_571) (fun _ h => h) rfl (by decide +kernel) rfl rfl (Nat.le_of_ble_eq_true rfl) hd rfl kk
theorem fg_M_states (B : jv_B p c cc) (hts : ∀ w ∈ wb, w.before args s = true) (hown : s.vm.findClass rn_M = some m.cls) (hK : va_K D jClasses (jTy cI cA cL) s) (hd : decode cc pc = .ok (.getfield 26, 3))
    (kk : jv_V p l e R s m args below meth c D jClasses A nL cells slots Q (mw ad cI cA σ F) lv (pc + 3) (.ref (ad 5) :: st)) : jv_V p l e R s m args below meth c D jClasses A nL cells slots Q (mw ad cI cA σ F) lv pc (.ref (ad 0) :: st) := jv_get B hts in_M hown hK 0 rfl rfl 10 (by decide) (hts _ kw_572) (fun _ h => h) rfl hd kk
theorem fg_M_position (B : jv_B p c cc) (hts : ∀ w ∈ wb, w.before args s = true) (hown : s.vm.findClass rn_M = some m.cls) (hK : va_K D jClasses (jTy cI cA cL) s) (hd : decode cc pc = .ok (.getfield 60, 3))
    (kk : jv_V p l e R s m args below meth c D jClasses A nL cells slots Q (mw ad cI cA σ F) lv (pc + 3) (.int (σ 0 11) :: st)) : jv_V p l e R s m args below meth c D jClasses A nL cells slots Q (mw ad cI cA σ F) lv pc (.ref (ad 0) :: st) := jv_get B hts in_M hown hK 0 rfl rfl 11 (by decide) (hts _ kw_573) (fun _ h => h) rfl hd kk
theorem fs_M_position (B : jv_B p c cc) (hts : ∀ w ∈ wb, w.before args s = true) (hown : s.vm.findClass rn_M = some m.cls) (hK : va_K D jClasses (jTy cI cA cL) s) {v : Int32} (hd : decode cc pc = .ok (.putfield 60, 3))
    (kk : jv_V p l e R s m args below meth c D jClasses A nL cells slots Q (mw ad cI cA (up2 σ 0 11 v) F) lv (pc + 3) st) : jv_V p l e R s m args below meth c D jClasses A nL cells slots Q (mw ad cI cA σ F) lv pc (.int v :: .ref (ad 0) :: st) := jv_put (ty := .int) (ci := 5) (fs := [.int (σ 0 0), .int (σ 0 1), .ref (ad 1), .ref (ad 2), .ref (ad 3), .ref (ad 4), .int (σ 0 6), .int (σ 0 7), .int (σ 0 8), .int (σ 0 9), .ref (ad 5), .int (σ 0 11), .int (σ 0 12), .int (σ 0 13), .int (σ 0 14), .int (σ 0 15), .int (σ 0 16), .int (σ 0 17), .ref (ad 6), .ref (ad 7), .int (σ 0 20)]) (ws' := mw ad cI cA (up2 σ 0 11 v) F) B hts in_M ty_M tyok_M nm_M hown hK 0 rfl rfl 11 (by decide) (hts _ kw_573) (fun _ h => h) rfl (by decide +kernel) rfl rfl (Nat.le_of_ble_eq_true rfl) hd rfl kk
theorem fg_M_leap (B : jv_B p c cc) (hts : ∀ w ∈ wb, w.before args s = true) (hown : s.vm.findClass rn_M = some m.cls) (hK : va_K D jClasses (jTy cI cA cL) s) (hd : decode cc pc = .ok (.getfield 63, 3))
    (kk : jv_V p l e R s m args below meth c D jClasses A nL cells slots Q (mw ad cI cA σ F) lv (pc + 3) (.int (σ 0 12) :: st)) : jv_V p l e R s m args below meth c D jClasses A nL cells slots Q (mw ad cI cA σ F) lv pc (.ref (ad 0) :: st) := jv_get B hts in_M hown hK 0 rfl rfl 12 (by decide) (hts _ kw_574) (fun _ h => h) rfl hd kk
theorem fs_M_leap (B : jv_B p c cc) (hts : ∀ w ∈ wb, w.before args s = true) (hown : s.vm.findClass rn_M = some m.cls) (hK : va_K D jClasses (jTy cI cA cL) s) {v : Int32} (hd : decode cc pc = .ok (.putfield 63, 3))
    (kk : jv_V p l e R s m args below meth c D jClasses A nL cells slots Q (mw ad cI cA (up2 σ 0 12 v) F) lv (pc + 3) st) : jv_V p l e R s m args below meth c D jClasses A nL cells slots Q (mw ad cI cA σ F) lv pc (.int v :: .ref (ad 0) :: st) := jv_put (ty := .int) (ci := 5) (fs := [.int (σ 0 0), .int (σ 0 1), .ref (ad 1), .ref (ad 2), .ref (ad 3), .ref (ad 4), .int (σ 0 6), .int (σ 0 7), .int (σ 0 8), .int (σ 0 9), .ref (ad 5), .int (σ 0 11), .int (σ 0 12), .int (σ 0 13), .int (σ 0 14), .int (σ 0 15), .int (σ 0 16), .int (σ 0 17), .ref (ad 6), .ref (ad 7), .int (σ 0 20)]) (ws' := mw ad cI cA (up2 σ 0 12 v) F) B hts in_M ty_M tyok_M nm_M hown hK 0 rfl rfl 12 (by decide) (hts _ kw_574) (fun _ h => h) rfl (by decide +kernel) rfl rfl (Nat.le_of_ble_eq_true rfl) hd rfl kk
theorem fg_M_round (B : jv_B p c cc) (hts : ∀ w ∈ wb, w.before args s = true) (hown : s.vm.findClass rn_M = some m.cls) (hK : va_K D jClasses (jTy cI cA cL) s) (hd : decode cc pc = .ok (.getfield 66, 3))
    (kk : jv_V p l e R s m args below meth c D jClasses A nL cells slots Q (mw ad cI cA σ F) lv (pc + 3) (.int (σ 0 13) :: st)) : jv_V p l e R s m args below meth c D jClasses A nL cells slots Q (mw ad cI cA σ F) lv pc (.ref (ad 0) :: st) := jv_get B hts in_M hown hK 0 rfl rfl 13 (by decide) (hts _ kw_575) (fun _ h => h) rfl hd kk
theorem fs_M_round (B : jv_B p c cc) (hts : ∀ w ∈ wb, w.before args s = true) (hown : s.vm.findClass rn_M = some m.cls) (hK : va_K D jClasses (jTy cI cA cL) s) {v : Int32} (hd : decode cc pc = .ok (.putfield 66, 3))
    (kk : jv_V p l e R s m args below meth c D jClasses A nL cells slots Q (mw ad cI cA (up2 σ 0 13 v) F) lv (pc + 3) st) : jv_V p l e R s m args below meth c D jClasses A nL cells slots Q (mw ad cI cA σ F) lv pc (.int v :: .ref (ad 0) :: st) := jv_put (ty := .int) (ci := 5) (fs := [.int (σ 0 0), .int (σ 0 1), .ref (ad 1), .ref (ad 2), .ref (ad 3), .ref (ad 4), .int (σ 0 6), .int (σ 0 7), .int (σ 0 8), .int (σ 0 9), .ref (ad 5), .int (σ 0 11), .int (σ 0 12), .int (σ 0 13), .int (σ 0 14), .int (σ 0 15), .int (σ 0 16), .int (σ 0 17), .ref (ad 6), .ref (ad 7), .int (σ 0 20)]) (ws' := mw ad cI cA (up2 σ 0 13 v) F) B hts in_M ty_M tyok_M nm_M hown hK 0 rfl rfl 13 (by decide) (hts _ kw_575) (fun _ h => h) rfl (by decide +kernel) rfl rfl (Nat.le_of_ble_eq_true rfl) hd rfl kk
theorem fg_M_backwards (B : jv_B p c cc) (hts : ∀ w ∈ wb, w.before args s = true) (hown : s.vm.findClass rn_M = some m.cls) (hK : va_K D jClasses (jTy cI cA cL) s) (hd : decode cc pc = .ok (.getfield 69, 3))
    (kk : jv_V p l e R s m args below meth c D jClasses A nL cells slots Q (mw ad cI cA σ F) lv (pc + 3) (.int (σ 0 14) :: st)) : jv_V p l e R s m args below meth c D jClasses A nL cells slots Q (mw ad cI cA σ F) lv pc (.ref (ad 0) :: st) := jv_get B hts in_M hown hK 0 rfl rfl 14 (by decide) (hts _ kw_576) (fun _ h => h) rfl hd kk
theorem fs_M_backwards (B : jv_B p c cc) (hts : ∀ w ∈ wb, w.before args s = true) (hown : s.vm.findClass rn_M = some m.cls) (hK : va_K D jClasses (jTy cI cA cL) s) {v : Int32} (hz : v = 0 ∨ v = 1) (hd : decode cc pc = .ok (.putfield 69, 3))
    (kk : jv_V p l e R s m args below meth c D jClasses A nL cells slots Q (mw ad cI cA (up2 σ 0 14 v) F) lv (pc + 3) st) : jv_V p l e R s m args below meth c D jClasses A nL cells slots Q (mw ad cI cA σ F) lv pc (.int v :: .ref (ad 0) :: st) := jv_put (ty := .boolean) (ci := 5) (fs := [.int (σ 0 0), .int (σ 0 1), .ref (ad 1), .ref (ad 2), .ref (ad 3), .ref (ad 4), .int (σ 0 6), .int (σ 0 7), .int (σ 0 8), .int (σ 0 9), .ref (ad 5), .int (σ 0 11), .int (σ 0 12), .int (σ 0 13), .int (σ 0 14), .int (σ 0 15), .int (σ 0 16), .int (σ 0 17), .ref (ad 6), .ref (ad 7), .int (σ 0 20)]) (ws' := mw ad cI cA (up2 σ 0 14 v) F) B hts in_M ty_M tyok_M nm_M hown hK 0 rfl rfl 14 (by decide) (hts _ kw_576) (fun _ h => h) rfl (by decide +kernel) (by rcases hz with rfl | rfl <;> rfl) (by rcases hz with rfl | rfl <;> rfl) (Nat.le_of_ble_eq_true rfl) hd rfl kk
theorem fg_M_from (B : jv_B p c cc) (hts : ∀ w ∈ wb, w.before args s = true) (hown : s.vm.findClass rn_M = some m.cls) (hK : va_K D jClasses (jTy cI cA cL) s) (hd : decode cc pc = .ok (.getfield 54, 3))
    (kk : jv_V p l e R s m args below meth c D jClasses A nL cells slots Q (mw ad cI cA σ F) lv (pc + 3) (.int (σ 0 15) :: st)) : jv_V p l e R s m args below meth c D jClasses A nL cells slots Q (mw ad cI cA σ F) lv pc (.ref (ad 0) :: st) := jv_get B hts in_M hown hK 0 rfl rfl 15 (by decide) (hts _ kw_577) (fun _ h => h) rfl hd kk
theorem fs_M_from (B : jv_B p c cc) (hts : ∀ w ∈ wb, w.before args s = true) (hown : s.vm.findClass rn_M = some m.cls) (hK : va_K D jClasses (jTy cI cA cL) s) {v : Int32} (hd : decode cc pc = .ok (.putfield 54, 3))
    (kk : jv_V p l e R s m args below meth c D jClasses A nL cells slots Q (mw ad cI cA (up2 σ 0 15 v) F) lv (pc + 3) st) : jv_V p l e R s m args below meth c D jClasses A nL cells slots Q (mw ad cI cA σ F) lv pc (.int v :: .ref (ad 0) :: st) := jv_put (ty := .int) (ci := 5) (fs := [.int (σ 0 0), .int (σ 0 1), .ref (ad 1), .ref (ad 2), .ref (ad 3), .ref (ad 4), .int (σ 0 6), .int (σ 0 7), .int (σ 0 8), .int (σ 0 9), .ref (ad 5), .int (σ 0 11), .int (σ 0 12), .int (σ 0 13), .int (σ 0 14), .int (σ 0 15), .int (σ 0 16), .int (σ 0 17), .ref (ad 6), .ref (ad 7), .int (σ 0 20)]) (ws' := mw ad cI cA (up2 σ 0 15 v) F) B hts in_M ty_M tyok_M nm_M hown hK 0 rfl rfl 15 (by decide) (hts _ kw_577) (fun _ h => h) rfl (by decide +kernel) rfl rfl (Nat.le_of_ble_eq_true rfl) hd rfl kk
theorem fg_M_to (B : jv_B p c cc) (hts : ∀ w ∈ wb, w.before args s = true) (hown : s.vm.findClass rn_M = some m.cls) (hK : va_K D jClasses (jTy cI cA cL) s) (hd : decode cc pc = .ok (.getfield 57, 3))
    (kk : jv_V p l e R s m args below meth c D jClasses A nL cells slots Q (mw ad cI cA σ F) lv (pc + 3) (.int (σ 0 16) :: st)) : jv_V p l e R s m args below meth c D jClasses A nL cells slots Q (mw ad cI cA σ F) lv pc (.ref (ad 0) :: st) := jv_get B hts in_M hown hK 0 rfl rfl 16 (by decide) (hts _ kw_578) (fun _ h => h) rfl hd kk
theorem fs_M_to (B : jv_B p c cc) (hts : ∀ w ∈ wb, w.before args s = true) (hown : s.vm.findClass rn_M = some m.cls) (hK : va_K D jClasses (jTy cI cA cL) s) {v : Int32} (hd : decode cc pc = .ok (.putfield 57, 3))
    (kk : jv_V p l e R s m args below meth c D jClasses A nL cells slots Q (mw ad cI cA (up2 σ 0 16 v) F) lv (pc + 3) st) : jv_V p l e R s m args below meth c D jClasses A nL cells slots Q (mw ad cI cA σ F) lv pc (.int v :: .ref (ad 0) :: st) := jv_put (ty := .int) (ci := 5) (fs := [.int (σ 0 0), .int (σ 0 1), .ref (ad 1), .ref (ad 2), .ref (ad 3), .ref (ad 4), .int (σ 0 6), .int (σ 0 7), .int (σ 0 8), .int (σ 0 9), .ref (ad 5), .int (σ 0 11), .int (σ 0 12), .int (σ 0 13), .int (σ 0 14), .int (σ 0 15), .int (σ 0 16), .int (σ 0 17), .ref (ad 6), .ref (ad 7), .int (σ 0 20)]) (ws' := mw ad cI cA (up2 σ 0 16 v) F) B hts in_M ty_M tyok_M nm_M hown hK 0 rfl rfl 16 (by decide) (hts _ kw_578) (fun _ h => h) rfl (by decide +kernel) rfl rfl (Nat.le_of_ble_eq_true rfl) hd rfl kk
theorem fg_M_number (B : jv_B p c cc) (hts : ∀ w ∈ wb, w.before args s = true) (hown : s.vm.findClass rn_M = some m.cls) (hK : va_K D jClasses (jTy cI cA cL) s) (hd : decode cc pc = .ok (.getfield 47, 3))
    (kk : jv_V p l e R s m args below meth c D jClasses A nL cells slots Q (mw ad cI cA σ F) lv (pc + 3) (.int (σ 0 17) :: st)) : jv_V p l e R s m args below meth c D jClasses A nL cells slots Q (mw ad cI cA σ F) lv pc (.ref (ad 0) :: st) := jv_get B hts in_M hown hK 0 rfl rfl 17 (by decide) (hts _ kw_579) (fun _ h => h) rfl hd kk
theorem fs_M_number (B : jv_B p c cc) (hts : ∀ w ∈ wb, w.before args s = true) (hown : s.vm.findClass rn_M = some m.cls) (hK : va_K D jClasses (jTy cI cA cL) s) {v : Int32} (hd : decode cc pc = .ok (.putfield 47, 3))
    (kk : jv_V p l e R s m args below meth c D jClasses A nL cells slots Q (mw ad cI cA (up2 σ 0 17 v) F) lv (pc + 3) st) : jv_V p l e R s m args below meth c D jClasses A nL cells slots Q (mw ad cI cA σ F) lv pc (.int v :: .ref (ad 0) :: st) := jv_put (ty := .int) (ci := 5) (fs := [.int (σ 0 0), .int (σ 0 1), .ref (ad 1), .ref (ad 2), .ref (ad 3), .ref (ad 4), .int (σ 0 6), .int (σ 0 7), .int (σ 0 8), .int (σ 0 9), .ref (ad 5), .int (σ 0 11), .int (σ 0 12), .int (σ 0 13), .int (σ 0 14), .int (σ 0 15), .int (σ 0 16), .int (σ 0 17), .ref (ad 6), .ref (ad 7), .int (σ 0 20)]) (ws' := mw ad cI cA (up2 σ 0 17 v) F) B hts in_M ty_M tyok_M nm_M hown hK 0 rfl rfl 17 (by decide) (hts _ kw_579) (fun _ h => h) rfl (by decide +kernel) rfl rfl (Nat.le_of_ble_eq_true rfl) hd rfl kk
theorem fg_M_slots (B : jv_B p c cc) (hts : ∀ w ∈ wb, w.before args s = true) (hown : s.vm.findClass rn_M = some m.cls) (hK : va_K D jClasses (jTy cI cA cL) s) (hd : decode cc pc = .ok (.getfield 29, 3))
    (kk : jv_V p l e R s m args below meth c D jClasses A nL cells slots Q (mw ad cI cA σ F) lv (pc + 3) (.ref (ad 6) :: st)) : jv_V p l e R s m args below meth c D jClasses A nL cells slots Q (mw ad cI cA σ F) lv pc (.ref (ad 0) :: st) := jv_get B hts in_M hown hK 0 rfl rfl 18 (by decide) (hts _ kw_580) (fun _ h => h) rfl hd kk
theorem fg_M_image (B : jv_B p c cc) (hts : ∀ w ∈ wb, w.before args s = true) (hown : s.vm.findClass rn_M = some m.cls) (hK : va_K D jClasses (jTy cI cA cL) s) (hd : decode cc pc = .ok (.getfield 32, 3))
    (kk : jv_V p l e R s m args below meth c D jClasses A nL cells slots Q (mw ad cI cA σ F) lv (pc + 3) (.ref (ad 7) :: st)) : jv_V p l e R s m args below meth c D jClasses A nL cells slots Q (mw ad cI cA σ F) lv pc (.ref (ad 0) :: st) := jv_get B hts in_M hown hK 0 rfl rfl 19 (by decide) (hts _ kw_581) (fun _ h => h) rfl hd kk
theorem fg_M_size (B : jv_B p c cc) (hts : ∀ w ∈ wb, w.before args s = true) (hown : s.vm.findClass rn_M = some m.cls) (hK : va_K D jClasses (jTy cI cA cL) s) (hd : decode cc pc = .ok (.getfield 114, 3))
    (kk : jv_V p l e R s m args below meth c D jClasses A nL cells slots Q (mw ad cI cA σ F) lv (pc + 3) (.int (σ 0 20) :: st)) : jv_V p l e R s m args below meth c D jClasses A nL cells slots Q (mw ad cI cA σ F) lv pc (.ref (ad 0) :: st) := jv_get B hts in_M hown hK 0 rfl rfl 20 (by decide) (hts _ kw_582) (fun _ h => h) rfl hd kk
theorem fs_M_size (B : jv_B p c cc) (hts : ∀ w ∈ wb, w.before args s = true) (hown : s.vm.findClass rn_M = some m.cls) (hK : va_K D jClasses (jTy cI cA cL) s) {v : Int32} (hd : decode cc pc = .ok (.putfield 114, 3))
    (kk : jv_V p l e R s m args below meth c D jClasses A nL cells slots Q (mw ad cI cA (up2 σ 0 20 v) F) lv (pc + 3) st) : jv_V p l e R s m args below meth c D jClasses A nL cells slots Q (mw ad cI cA σ F) lv pc (.int v :: .ref (ad 0) :: st) := jv_put (ty := .int) (ci := 5) (fs := [.int (σ 0 0), .int (σ 0 1), .ref (ad 1), .ref (ad 2), .ref (ad 3), .ref (ad 4), .int (σ 0 6), .int (σ 0 7), .int (σ 0 8), .int (σ 0 9), .ref (ad 5), .int (σ 0 11), .int (σ 0 12), .int (σ 0 13), .int (σ 0 14), .int (σ 0 15), .int (σ 0 16), .int (σ 0 17), .ref (ad 6), .ref (ad 7), .int (σ 0 20)]) (ws' := mw ad cI cA (up2 σ 0 20 v) F) B hts in_M ty_M tyok_M nm_M hown hK 0 rfl rfl 20 (by decide) (hts _ kw_582) (fun _ h => h) rfl (by decide +kernel) rfl rfl (Nat.le_of_ble_eq_true rfl) hd rfl kk
theorem ld_c_2 (B : jv_B p c cc) (hK : va_K D jClasses (jTy cI cA cL) s) {i : Int32} (hi : vp_in i 64) (hd : decode cc pc = .ok (.iaload, 1))
    (kk : jv_V p l e R s m args below meth c D jClasses A nL cells slots Q (cw ad cI cA σ F) lv (pc + 1) (.int (σ 2 i.toNatClampNeg) :: st)) : jv_V p l e R s m args below meth c D jClasses A nL cells slots Q (cw ad cI cA σ F) lv pc (.int i :: .ref (ad 2) :: st) := jv_iald B hK 2 0 rfl rfl hi hd kk
theorem sd_c_2 (B : jv_B p c cc) (hK : va_K D jClasses (jTy cI cA cL) s) {i v : Int32} (hi : vp_in i 64) (hd : decode cc pc = .ok (.iastore, 1))
    (kk : jv_V p l e R s m args below meth c D jClasses A nL cells slots Q (cw ad cI cA (up2 σ 2 i.toNatClampNeg v) F) lv (pc + 1) st) : jv_V p l e R s m args below meth c D jClasses A nL cells slots Q (cw ad cI cA σ F) lv pc (.int v :: .int i :: .ref (ad 2) :: st) := jv_iast B hK 2 0 rfl rfl hi hd rfl kk
theorem ld_c_3 (B : jv_B p c cc) (hK : va_K D jClasses (jTy cI cA cL) s) {i : Int32} (hi : vp_in i 64) (hd : decode cc pc = .ok (.iaload, 1))
    (kk : jv_V p l e R s m args below meth c D jClasses A nL cells slots Q (cw ad cI cA σ F) lv (pc + 1) (.int (σ 3 i.toNatClampNeg) :: st)) : jv_V p l e R s m args below meth c D jClasses A nL cells slots Q (cw ad cI cA σ F) lv pc (.int i :: .ref (ad 3) :: st) := jv_iald B hK 3 0 rfl rfl hi hd kk
theorem sd_c_3 (B : jv_B p c cc) (hK : va_K D jClasses (jTy cI cA cL) s) {i v : Int32} (hi : vp_in i 64) (hd : decode cc pc = .ok (.iastore, 1))
    (kk : jv_V p l e R s m args below meth c D jClasses A nL cells slots Q (cw ad cI cA (up2 σ 3 i.toNatClampNeg v) F) lv (pc + 1) st) : jv_V p l e R s m args below meth c D jClasses A nL cells slots Q (cw ad cI cA σ F) lv pc (.int v :: .int i :: .ref (ad 3) :: st) := jv_iast B hK 3 0 rfl rfl hi hd rfl kk
theorem ld_c_4 (B : jv_B p c cc) (hK : va_K D jClasses (jTy cI cA cL) s) {i : Int32} (hi : vp_in i 64) (hd : decode cc pc = .ok (.iaload, 1))
    (kk : jv_V p l e R s m args below meth c D jClasses A nL cells slots Q (cw ad cI cA σ F) lv (pc + 1) (.int (σ 4 i.toNatClampNeg) :: st)) : jv_V p l e R s m args below meth c D jClasses A nL cells slots Q (cw ad cI cA σ F) lv pc (.int i :: .ref (ad 4) :: st) := jv_iald B hK 4 0 rfl rfl hi hd kk
theorem sd_c_4 (B : jv_B p c cc) (hK : va_K D jClasses (jTy cI cA cL) s) {i v : Int32} (hi : vp_in i 64) (hd : decode cc pc = .ok (.iastore, 1))
    (kk : jv_V p l e R s m args below meth c D jClasses A nL cells slots Q (cw ad cI cA (up2 σ 4 i.toNatClampNeg v) F) lv (pc + 1) st) : jv_V p l e R s m args below meth c D jClasses A nL cells slots Q (cw ad cI cA σ F) lv pc (.int v :: .int i :: .ref (ad 4) :: st) := jv_iast B hK 4 0 rfl rfl hi hd rfl kk
theorem ld_c_5 (B : jv_B p c cc) (hK : va_K D jClasses (jTy cI cA cL) s) {i : Int32} (hi : vp_in i 64) (hd : decode cc pc = .ok (.iaload, 1))
    (kk : jv_V p l e R s m args below meth c D jClasses A nL cells slots Q (cw ad cI cA σ F) lv (pc + 1) (.int (σ 5 i.toNatClampNeg) :: st)) : jv_V p l e R s m args below meth c D jClasses A nL cells slots Q (cw ad cI cA σ F) lv pc (.int i :: .ref (ad 5) :: st) := jv_iald B hK 5 0 rfl rfl hi hd kk
theorem sd_c_5 (B : jv_B p c cc) (hK : va_K D jClasses (jTy cI cA cL) s) {i v : Int32} (hi : vp_in i 64) (hd : decode cc pc = .ok (.iastore, 1))
    (kk : jv_V p l e R s m args below meth c D jClasses A nL cells slots Q (cw ad cI cA (up2 σ 5 i.toNatClampNeg v) F) lv (pc + 1) st) : jv_V p l e R s m args below meth c D jClasses A nL cells slots Q (cw ad cI cA σ F) lv pc (.int v :: .int i :: .ref (ad 5) :: st) := jv_iast B hK 5 0 rfl rfl hi hd rfl kk
theorem ld_c_7 (B : jv_B p c cc) (hK : va_K D jClasses (jTy cI cA cL) s) {i : Int32} (hi : vp_in i 64) (hd : decode cc pc = .ok (.iaload, 1))
    (kk : jv_V p l e R s m args below meth c D jClasses A nL cells slots Q (cw ad cI cA σ F) lv (pc + 1) (.int (σ 7 i.toNatClampNeg) :: st)) : jv_V p l e R s m args below meth c D jClasses A nL cells slots Q (cw ad cI cA σ F) lv pc (.int i :: .ref (ad 7) :: st) := jv_iald B hK 7 0 rfl rfl hi hd kk
theorem sd_c_7 (B : jv_B p c cc) (hK : va_K D jClasses (jTy cI cA cL) s) {i v : Int32} (hi : vp_in i 64) (hd : decode cc pc = .ok (.iastore, 1))
    (kk : jv_V p l e R s m args below meth c D jClasses A nL cells slots Q (cw ad cI cA (up2 σ 7 i.toNatClampNeg v) F) lv (pc + 1) st) : jv_V p l e R s m args below meth c D jClasses A nL cells slots Q (cw ad cI cA σ F) lv pc (.int v :: .int i :: .ref (ad 7) :: st) := jv_iast B hK 7 0 rfl rfl hi hd rfl kk
theorem ld_c_11 (B : jv_B p c cc) (hK : va_K D jClasses (jTy cI cA cL) s) {i : Int32} (hi : vp_in i 140) (hd : decode cc pc = .ok (.iaload, 1))
    (kk : jv_V p l e R s m args below meth c D jClasses A nL cells slots Q (cw ad cI cA σ F) lv (pc + 1) (.int (σ 11 i.toNatClampNeg) :: st)) : jv_V p l e R s m args below meth c D jClasses A nL cells slots Q (cw ad cI cA σ F) lv pc (.int i :: .ref (ad 11) :: st) := jv_iald B hK 11 0 rfl rfl hi hd kk
theorem sd_c_11 (B : jv_B p c cc) (hK : va_K D jClasses (jTy cI cA cL) s) {i v : Int32} (hi : vp_in i 140) (hd : decode cc pc = .ok (.iastore, 1))
    (kk : jv_V p l e R s m args below meth c D jClasses A nL cells slots Q (cw ad cI cA (up2 σ 11 i.toNatClampNeg v) F) lv (pc + 1) st) : jv_V p l e R s m args below meth c D jClasses A nL cells slots Q (cw ad cI cA σ F) lv pc (.int v :: .int i :: .ref (ad 11) :: st) := jv_iast B hK 11 0 rfl rfl hi hd rfl kk
theorem ld_c_12 (B : jv_B p c cc) (hK : va_K D jClasses (jTy cI cA cL) s) {i : Int32} (hi : vp_in i 140) (hd : decode cc pc = .ok (.iaload, 1))
    (kk : jv_V p l e R s m args below meth c D jClasses A nL cells slots Q (cw ad cI cA σ F) lv (pc + 1) (.int (σ 12 i.toNatClampNeg) :: st)) : jv_V p l e R s m args below meth c D jClasses A nL cells slots Q (cw ad cI cA σ F) lv pc (.int i :: .ref (ad 12) :: st) := jv_iald B hK 12 0 rfl rfl hi hd kk
theorem sd_c_12 (B : jv_B p c cc) (hK : va_K D jClasses (jTy cI cA cL) s) {i v : Int32} (hi : vp_in i 140) (hd : decode cc pc = .ok (.iastore, 1))
    (kk : jv_V p l e R s m args below meth c D jClasses A nL cells slots Q (cw ad cI cA (up2 σ 12 i.toNatClampNeg v) F) lv (pc + 1) st) : jv_V p l e R s m args below meth c D jClasses A nL cells slots Q (cw ad cI cA σ F) lv pc (.int v :: .int i :: .ref (ad 12) :: st) := jv_iast B hK 12 0 rfl rfl hi hd rfl kk
theorem ld_c_13 (B : jv_B p c cc) (hK : va_K D jClasses (jTy cI cA cL) s) {i : Int32} (hi : vp_in i 140) (hd : decode cc pc = .ok (.iaload, 1))
    (kk : jv_V p l e R s m args below meth c D jClasses A nL cells slots Q (cw ad cI cA σ F) lv (pc + 1) (.int (σ 13 i.toNatClampNeg) :: st)) : jv_V p l e R s m args below meth c D jClasses A nL cells slots Q (cw ad cI cA σ F) lv pc (.int i :: .ref (ad 13) :: st) := jv_iald B hK 13 0 rfl rfl hi hd kk
theorem sd_c_13 (B : jv_B p c cc) (hK : va_K D jClasses (jTy cI cA cL) s) {i v : Int32} (hi : vp_in i 140) (hd : decode cc pc = .ok (.iastore, 1))
    (kk : jv_V p l e R s m args below meth c D jClasses A nL cells slots Q (cw ad cI cA (up2 σ 13 i.toNatClampNeg v) F) lv (pc + 1) st) : jv_V p l e R s m args below meth c D jClasses A nL cells slots Q (cw ad cI cA σ F) lv pc (.int v :: .int i :: .ref (ad 13) :: st) := jv_iast B hK 13 0 rfl rfl hi hd rfl kk
theorem ld_m_1 (B : jv_B p c cc) (hK : va_K D jClasses (jTy cI cA cL) s) {i : Int32} (hi : vp_in i 64) (hd : decode cc pc = .ok (.iaload, 1))
    (kk : jv_V p l e R s m args below meth c D jClasses A nL cells slots Q (mw ad cI cA σ F) lv (pc + 1) (.int (σ 1 i.toNatClampNeg) :: st)) : jv_V p l e R s m args below meth c D jClasses A nL cells slots Q (mw ad cI cA σ F) lv pc (.int i :: .ref (ad 1) :: st) := jv_iald B hK 1 0 rfl rfl hi hd kk
theorem sd_m_1 (B : jv_B p c cc) (hK : va_K D jClasses (jTy cI cA cL) s) {i v : Int32} (hi : vp_in i 64) (hd : decode cc pc = .ok (.iastore, 1))
    (kk : jv_V p l e R s m args below meth c D jClasses A nL cells slots Q (mw ad cI cA (up2 σ 1 i.toNatClampNeg v) F) lv (pc + 1) st) : jv_V p l e R s m args below meth c D jClasses A nL cells slots Q (mw ad cI cA σ F) lv pc (.int v :: .int i :: .ref (ad 1) :: st) := jv_iast B hK 1 0 rfl rfl hi hd rfl kk
theorem ld_m_2 (B : jv_B p c cc) (hK : va_K D jClasses (jTy cI cA cL) s) {i : Int32} (hi : vp_in i 64) (hd : decode cc pc = .ok (.iaload, 1))
    (kk : jv_V p l e R s m args below meth c D jClasses A nL cells slots Q (mw ad cI cA σ F) lv (pc + 1) (.int (σ 2 i.toNatClampNeg) :: st)) : jv_V p l e R s m args below meth c D jClasses A nL cells slots Q (mw ad cI cA σ F) lv pc (.int i :: .ref (ad 2) :: st) := jv_iald B hK 2 0 rfl rfl hi hd kk
theorem sd_m_2 (B : jv_B p c cc) (hK : va_K D jClasses (jTy cI cA cL) s) {i v : Int32} (hi : vp_in i 64) (hd : decode cc pc = .ok (.iastore, 1))
    (kk : jv_V p l e R s m args below meth c D jClasses A nL cells slots Q (mw ad cI cA (up2 σ 2 i.toNatClampNeg v) F) lv (pc + 1) st) : jv_V p l e R s m args below meth c D jClasses A nL cells slots Q (mw ad cI cA σ F) lv pc (.int v :: .int i :: .ref (ad 2) :: st) := jv_iast B hK 2 0 rfl rfl hi hd rfl kk
theorem ld_m_3 (B : jv_B p c cc) (hK : va_K D jClasses (jTy cI cA cL) s) {i : Int32} (hi : vp_in i 64) (hd : decode cc pc = .ok (.iaload, 1))
    (kk : jv_V p l e R s m args below meth c D jClasses A nL cells slots Q (mw ad cI cA σ F) lv (pc + 1) (.int (σ 3 i.toNatClampNeg) :: st)) : jv_V p l e R s m args below meth c D jClasses A nL cells slots Q (mw ad cI cA σ F) lv pc (.int i :: .ref (ad 3) :: st) := jv_iald B hK 3 0 rfl rfl hi hd kk
theorem sd_m_3 (B : jv_B p c cc) (hK : va_K D jClasses (jTy cI cA cL) s) {i v : Int32} (hi : vp_in i 64) (hd : decode cc pc = .ok (.iastore, 1))
    (kk : jv_V p l e R s m args below meth c D jClasses A nL cells slots Q (mw ad cI cA (up2 σ 3 i.toNatClampNeg v) F) lv (pc + 1) st) : jv_V p l e R s m args below meth c D jClasses A nL cells slots Q (mw ad cI cA σ F) lv pc (.int v :: .int i :: .ref (ad 3) :: st) := jv_iast B hK 3 0 rfl rfl hi hd rfl kk
theorem ld_m_4 (B : jv_B p c cc) (hK : va_K D jClasses (jTy cI cA cL) s) {i : Int32} (hi : vp_in i 64) (hd : decode cc pc = .ok (.iaload, 1))
    (kk : jv_V p l e R s m args below meth c D jClasses A nL cells slots Q (mw ad cI cA σ F) lv (pc + 1) (.int (σ 4 i.toNatClampNeg) :: st)) : jv_V p l e R s m args below meth c D jClasses A nL cells slots Q (mw ad cI cA σ F) lv pc (.int i :: .ref (ad 4) :: st) := jv_iald B hK 4 0 rfl rfl hi hd kk
theorem sd_m_4 (B : jv_B p c cc) (hK : va_K D jClasses (jTy cI cA cL) s) {i v : Int32} (hi : vp_in i 64) (hd : decode cc pc = .ok (.iastore, 1))
    (kk : jv_V p l e R s m args below meth c D jClasses A nL cells slots Q (mw ad cI cA (up2 σ 4 i.toNatClampNeg v) F) lv (pc + 1) st) : jv_V p l e R s m args below meth c D jClasses A nL cells slots Q (mw ad cI cA σ F) lv pc (.int v :: .int i :: .ref (ad 4) :: st) := jv_iast B hK 4 0 rfl rfl hi hd rfl kk
theorem ld_m_5 (B : jv_B p c cc) (hK : va_K D jClasses (jTy cI cA cL) s) {i : Int32} (hi : vp_in i 64) (hd : decode cc pc = .ok (.iaload, 1))
    (kk : jv_V p l e R s m args below meth c D jClasses A nL cells slots Q (mw ad cI cA σ F) lv (pc + 1) (.int (σ 5 i.toNatClampNeg) :: st)) : jv_V p l e R s m args below meth c D jClasses A nL cells slots Q (mw ad cI cA σ F) lv pc (.int i :: .ref (ad 5) :: st) := jv_iald B hK 5 0 rfl rfl hi hd kk
theorem sd_m_5 (B : jv_B p c cc) (hK : va_K D jClasses (jTy cI cA cL) s) {i v : Int32} (hi : vp_in i 64) (hd : decode cc pc = .ok (.iastore, 1))
    (kk : jv_V p l e R s m args below meth c D jClasses A nL cells slots Q (mw ad cI cA (up2 σ 5 i.toNatClampNeg v) F) lv (pc + 1) st) : jv_V p l e R s m args below meth c D jClasses A nL cells slots Q (mw ad cI cA σ F) lv pc (.int v :: .int i :: .ref (ad 5) :: st) := jv_iast B hK 5 0 rfl rfl hi hd rfl kk
theorem ld_m_6 (B : jv_B p c cc) (hK : va_K D jClasses (jTy cI cA cL) s) {i : Int32} (hi : vp_in i 280) (hd : decode cc pc = .ok (.iaload, 1))
    (kk : jv_V p l e R s m args below meth c D jClasses A nL cells slots Q (mw ad cI cA σ F) lv (pc + 1) (.int (σ 6 i.toNatClampNeg) :: st)) : jv_V p l e R s m args below meth c D jClasses A nL cells slots Q (mw ad cI cA σ F) lv pc (.int i :: .ref (ad 6) :: st) := jv_iald B hK 6 0 rfl rfl hi hd kk
theorem sd_m_6 (B : jv_B p c cc) (hK : va_K D jClasses (jTy cI cA cL) s) {i v : Int32} (hi : vp_in i 280) (hd : decode cc pc = .ok (.iastore, 1))
    (kk : jv_V p l e R s m args below meth c D jClasses A nL cells slots Q (mw ad cI cA (up2 σ 6 i.toNatClampNeg v) F) lv (pc + 1) st) : jv_V p l e R s m args below meth c D jClasses A nL cells slots Q (mw ad cI cA σ F) lv pc (.int v :: .int i :: .ref (ad 6) :: st) := jv_iast B hK 6 0 rfl rfl hi hd rfl kk
theorem ld_m_7 (B : jv_B p c cc) (hK : va_K D jClasses (jTy cI cA cL) s) {i : Int32} (hi : vp_in i 140) (hd : decode cc pc = .ok (.iaload, 1))
    (kk : jv_V p l e R s m args below meth c D jClasses A nL cells slots Q (mw ad cI cA σ F) lv (pc + 1) (.int (σ 7 i.toNatClampNeg) :: st)) : jv_V p l e R s m args below meth c D jClasses A nL cells slots Q (mw ad cI cA σ F) lv pc (.int i :: .ref (ad 7) :: st) := jv_iald B hK 7 0 rfl rfl hi hd kk
theorem sd_m_7 (B : jv_B p c cc) (hK : va_K D jClasses (jTy cI cA cL) s) {i v : Int32} (hi : vp_in i 140) (hd : decode cc pc = .ok (.iastore, 1))
    (kk : jv_V p l e R s m args below meth c D jClasses A nL cells slots Q (mw ad cI cA (up2 σ 7 i.toNatClampNeg v) F) lv (pc + 1) st) : jv_V p l e R s m args below meth c D jClasses A nL cells slots Q (mw ad cI cA σ F) lv pc (.int v :: .int i :: .ref (ad 7) :: st) := jv_iast B hK 7 0 rfl rfl hi hd rfl kk
theorem aa_c (B : jv_B p c cc) (hK : va_K D jClasses (jTy cI cA cL) s) {i : Int32} (hi : vp_in i 2) (hd : decode cc pc = .ok (.aaload, 1))
    (k0 : i = 0 → jv_V p l e R s m args below meth c D jClasses A nL cells slots Q (cw ad cI cA σ F) lv (pc + 1) (.ref (ad 11) :: st)) (k1 : ¬ i = 0 → jv_V p l e R s m args below meth c D jClasses A nL cells slots Q (cw ad cI cA σ F) lv (pc + 1) (.ref (ad 12) :: st)) : jv_V p l e R s m args below meth c D jClasses A nL cells slots Q (cw ad cI cA σ F) lv pc (.int i :: .ref (ad 10) :: st) := by
  have hi2 := hi
  obtain ⟨j, hj, rfl⟩ := vp_in_of hi (by decide)
  have hcl : (nI j).toNatClampNeg = j := nI_clamp (by omega)
  intro H locs ls hP hD hS hl
  have hP' : va_P D jClasses (cw ad cI cA σ F) H := hP
  have ha : (cw ad cI cA σ F)[10]? = some (ad 10, .inl (cA, 2, .inr (.inr (.inr (.inr (fun j => if j < 2 then some (ad (11 + j)) else none)))))) := rfl
  have hlt : (nI j).toNatClampNeg < 2 := by omega
  refine W.aald (v := va_rf (if (nI j).toNatClampNeg < 2 then some (ad (11 + (nI j).toNatClampNeg)) else none)) (ty := .array .int) B.1 B.2 (hP 10 _ ha) ((hK.2 1 _ rfl).1 2 (fun j => va_rf (if j < 2 then some (ad (11 + j)) else none))) rfl (fun q => by cases q) (by show ¬ (nI j < 0 ∨ (arrV _ _ _).slots.size ≤ _); rw [arrV_size]; exact hi2) (by show (arrV _ _ _).slots[_]? = _; rw [arrV_read _ _ hlt]) rfl rfl hd ?_
  rw [hcl]
  match j, hj with
  | 0, _ => exact k0 rfl H locs ls hP hD hS hl
  | 1, _ => exact k1 (by decide) H locs ls hP hD hS hl
end JW
end
section
theorem jv_ofB {l : Launch} {D : va_G} {cl : List vw_C} {A : Nat → Prop} {tys : List (ClassId × FieldType)} {ws : va_W} {cc : ByteArray} {y : MethodName} {rm : Room} {av : List Value} {Qc : Array Value → State → Outcome → State → Prop} {mc ms maxL : Nat} {ret : Option FieldType} (hy : plainName y.cls = true) (hlen : (lg_sl av).length ≤ maxL)
    (body : ∀ (p : Program) (e : Env) (s : State) (m : MethodId) (below : List Frame) (meth : Method) (c : Code), jv_C p s m av.toArray meth c cc maxL ret y wb D cl tys A → jv_V p l e rm s m av.toArray below meth c D cl A maxL 0 0 (MQ below Qc av.toArray s mc ms A) ws (lv_args 0 av) 0 []) : Met l y (Cond.code y cc maxL ret :: wb) rm (jv_Pre D cl tys A ws av) Qc mc ms A :=
  jv_ofW hy rfl hlen (fun p e s m below meth c X => body p e s m below meth c ⟨X.1, X.2.1, X.2.2.1, fun w h => X.2.2.2.1 w (List.mem_cons_of_mem _ h), X.2.2.2.2⟩)
theorem nz {v : Int32} (h : v = 0 ∨ v = 1) : narrow .boolean (.int v) = .int v := by rcases h with rfl | rfl <;> rfl
def y_fill : MethodName := ⟨"java/util/Arrays", "fill", "([II)V"⟩
abbrev b_fill : ByteArray := prog_16_method_103_code
theorem kf_c : Cond.code y_fill b_fill 4 none ∈ wb := wb_t 293 (by decide +kernel) (by decide +kernel)
theorem kf_s : Cond.static y_fill ∈ wb := wb_t 292 (by decide +kernel) (by decide +kernel)
theorem kf_i : Cond.initialized "java/util/Arrays" ∈ wb := wb_t 11 (by decide +kernel) (by decide +kernel)
theorem kmax_c : Cond.code Lib.Math.max.name Lib.Math.max.code 2 (some .int) ∈ wb := wb_t 355 (by decide +kernel) (by decide +kernel)
theorem kmax_s : Cond.static Lib.Math.max.name ∈ wb := wb_t 354 (by decide +kernel) (by decide +kernel)
theorem kmin_c : Cond.code Lib.Math.min.name Lib.Math.min.code 2 (some .int) ∈ wb := wb_t 352 (by decide +kernel) (by decide +kernel)
theorem kmin_s : Cond.static Lib.Math.min.name ∈ wb := wb_t 351 (by decide +kernel) (by decide +kernel)
theorem kmat_i : Cond.initialized "java/lang/Math" ∈ wb := wb_t 13 (by decide +kernel) (by decide +kernel)
theorem kcp_s : Cond.static arraycopyName ∈ wb := wb_t 403 (by decide +kernel) (by decide +kernel)
theorem kcp_n : Cond.native arraycopyName ∈ wb := wb_t 404 (by decide +kernel) (by decide +kernel)
theorem kcp_i : Cond.initialized "java/lang/System" ∈ wb := wb_t 14 (by decide +kernel) (by decide +kernel)
theorem d_fill_0 : decode b_fill 0 = .ok (.iconst 0, 1) := by decide +kernel
theorem d_fill_1 : decode b_fill 1 = .ok (.istore_n 2, 1) := by decide +kernel
theorem d_fill_2 : decode b_fill 2 = .ok (.aload_n 0, 1) := by decide +kernel
theorem d_fill_3 : decode b_fill 3 = .ok (.arraylength, 1) := by decide +kernel
theorem d_fill_4 : decode b_fill 4 = .ok (.istore_n 3, 1) := by decide +kernel
theorem d_fill_5 : decode b_fill 5 = .ok (.iload_n 2, 1) := by decide +kernel
theorem d_fill_6 : decode b_fill 6 = .ok (.iload_n 3, 1) := by decide +kernel
theorem d_fill_7 : decode b_fill 7 = .ok (.if_icmp .ge 13, 3) := by decide +kernel
theorem d_fill_10 : decode b_fill 10 = .ok (.aload_n 0, 1) := by decide +kernel
theorem d_fill_11 : decode b_fill 11 = .ok (.iload_n 2, 1) := by decide +kernel
theorem d_fill_12 : decode b_fill 12 = .ok (.iload_n 1, 1) := by decide +kernel
theorem d_fill_13 : decode b_fill 13 = .ok (.iastore, 1) := by decide +kernel
theorem d_fill_14 : decode b_fill 14 = .ok (.iinc 2 1, 3) := by decide +kernel
theorem d_fill_17 : decode b_fill 17 = .ok (.goto (-12), 3) := by decide +kernel
theorem d_fill_20 : decode b_fill 20 = .ok (.return_, 1) := by decide +kernel
/-- the world with the first i places of the array at place q set to v -/
def fw (ws : va_W) (q a : Nat) (cI : ClassId) (n : Nat) (f : Nat → Int32) (v : Int32) (i : Nat) : va_W := ws.set q (a, .inl (cI, n, .inl (fun j => if j < i then v else f j)))
theorem fw_at {ws : va_W} {q a : Nat} {cI : ClassId} {n : Nat} {f : Nat → Int32} {v : Int32} {i : Nat} (h : ws[q]? = some (a, .inl (cI, n, .inl f))) : (fw ws q a cI n f v i)[q]? = some (a, .inl (cI, n, .inl (fun j => if j < i then v else f j))) := by
  have hlt : q < ws.length := (List.getElem?_eq_some_iff.mp h).1
  simp [fw, hlt]
theorem fw_next {ws : va_W} {q a : Nat} {cI : ClassId} {n : Nat} {f : Nat → Int32} {v : Int32} {i : Nat} : (fw ws q a cI n f v i).set q (a, .inl (cI, n, .inl (upd (fun j => if j < i then v else f j) i v))) = fw ws q a cI n f v (i + 1) := by
  unfold fw
  rw [List.set_set]
  congr 5
  apply congrArg Sum.inl
  funext j
  by_cases h : j = i
  · subst h; simp [upd]
  · by_cases h2 : j < i
    · simp [upd, h, h2, Nat.lt_succ_of_lt h2]
    · have h3 : ¬ j < i + 1 := by omega
      simp [upd, h, h2, h3]
theorem fw_0 {ws : va_W} {q a : Nat} {cI : ClassId} {n : Nat} {f : Nat → Int32} {v : Int32} (h : ws[q]? = some (a, .inl (cI, n, .inl f))) : fw ws q a cI n f v 0 = ws := by
  unfold fw
  have e : (fun j => if j < 0 then v else f j) = f := by funext j; simp
  rw [e]
  apply List.ext_getElem?
  intro j
  rw [List.getElem?_set]
  by_cases hj : q = j
  · subst hj
    have hlt : q < ws.length := (List.getElem?_eq_some_iff.mp h).1
    have h2 := (List.getElem?_eq_some_iff.mp h).2
    simp [hlt, h2]
  · simp [hj]
section JF
variable {p : Program} {l : Launch} {e : Env} {R : Room} {s : State} {m : MethodId} {args : Array Value} {below : List Frame} {meth : Method} {c : Code} {cells slots : Nat} {Q : State → Prop}
variable {cc : ByteArray} {pc : Nat} {st : List Value} {D : va_G} {cl : List vw_C} {A : Nat → Prop} {tys : List (ClassId × FieldType)} {ws : va_W} {nL : Nat} {lv : List (Nat × Value)} {cI : ClassId}
set_option maxRecDepth 100000 in
theorem w_fill (X : jv_C p s m args meth c b_fill 4 none y_fill wb D cl tys A) {q a n : Nat} {f : Nat → Int32} {v : Int32} (ha : ws[q]? = some (a, .inl (cI, n, .inl f))) (ht : tys[0]? = some (cI, .int)) (hn : n < 2 ^ 31) : ∀ (k i : Nat), i + k = n → jv_V p l e (rmk 1 0 0) s m args below meth c D cl A 4 0 0 (MQ below (va_Qv (fun _ : Unit => True) (jv_End D cl tys A (fun _ => fw ws q a cI n f v n)) A) args s 0 0 A) (fw ws q a cI n f v i) [(0, .ref a), (1, .int v), (2, .int (nI i)), (3, .int (nI n))] 5 [] := by
  obtain ⟨B, hml, hown, hts, hK, hA, hr, hlk, hnm⟩ := id X
  intro k
  induction k with
  | zero =>
    intro i hi
    have hi : i = n := by omega
    subst hi
    refine jv_iload_n B d_fill_5 rfl 2 rfl ?_
    refine jv_iload_n B d_fill_6 rfl 3 rfl ?_
    refine jv_icmp_ge (tgt := 20) B d_fill_7 (by decide) (fun hc => ?_) (fun hc => ?_)
    · exact jv_vret B hr hlk hK () rfl trivial d_fill_20
    · exact absurd (nI_le (Nat.le_refl i) hn) hc
  | succ k ih =>
    intro i hi
    refine jv_iload_n B d_fill_5 rfl 2 rfl ?_
    refine jv_iload_n B d_fill_6 rfl 3 rfl ?_
    refine jv_icmp_ge (tgt := 20) B d_fill_7 (by decide) (fun hc => ?_) (fun hc => ?_)
    · exact absurd hc (nI_ge (by omega) hn)
    · refine jv_aload_n B d_fill_10 rfl 0 rfl ?_
      refine jv_iload_n B d_fill_11 rfl 2 rfl ?_
      refine jv_iload_n B d_fill_12 rfl 1 rfl ?_
      have hin : vp_in (nI i) n := vp_in_nI (by omega) hn
      have hcl : (nI i).toNatClampNeg = i := nI_clamp (by omega)
      refine jv_iast (ws' := fw ws q a cI n f v (i + 1)) B hK q 0 (fw_at ha) ht hin d_fill_13 (by rw [hcl]; exact fw_next) ?_
      refine jv_iinc (n9 := 2) (v := nI (i + 1)) (lv' := [(2, .int (nI (i + 1))), (0, .ref a), (1, .int v), (3, .int (nI n))]) B d_fill_14 rfl (nI_1 i) (by decide) rfl ?_
      refine jv_goto (tgt := 5) B d_fill_17 (by decide) ?_
      refine jv_sub [1, 2, 0, 3] rfl ?_
      exact ih (i + 1) (by omega)
set_option maxRecDepth 100000 in
theorem c_fill {q a n : Nat} {f : Nat → Int32} {v : Int32} (ha : ws[q]? = some (a, .inl (cI, n, .inl f))) (ht : tys[0]? = some (cI, .int)) (hn : n < 2 ^ 31) : Met l y_fill (Cond.code y_fill b_fill 4 none :: wb) (rmk 1 0 0) (jv_Pre D cl tys A ws [.ref a, .int v]) (va_Qv (fun _ : Unit => True) (jv_End D cl tys A (fun _ => fw ws q a cI n f v n)) A) 0 0 A := by
  refine jv_ofB (by decide) (Nat.le_of_ble_eq_true rfl) (fun p e s m below meth c X => ?_)
  obtain ⟨B, hml, hown, hts, hK, hA, hr, hlk, hnm⟩ := id X
  show jv_V p l e (rmk 1 0 0) s m _ below meth c D cl A 4 0 0 _ ws [(0, .ref a), (1, .int v)] 0 []
  refine jv_iconst (v := 0) B d_fill_0 (by decide) ?_
  refine jv_istore_n (lv' := [(2, .int 0), (0, .ref a), (1, .int v)]) B d_fill_1 rfl (by decide) rfl ?_
  refine jv_aload_n B d_fill_2 rfl 1 rfl ?_
  refine jv_alen (v := nI n) B hK q 0 ha ht rfl d_fill_3 ?_
  refine jv_istore_n (lv' := [(3, .int (nI n)), (2, .int 0), (0, .ref a), (1, .int v)]) B d_fill_4 rfl (by decide) rfl ?_
  refine jv_sub [2, 3, 1, 0] rfl ?_
  have h := w_fill (l := l) (e := e) (below := below) (v := v) X ha ht hn n 0 (by omega)
  rw [fw_0 ha] at h
  exact h
theorem gw_F {own : String} {idx maxL : Nat} {y : MethodName} {cc : ByteArray} {ret : Option FieldType} (h1 : Cond.methodLink own idx y ∈ wb) (h2 : Cond.static y ∈ wb) (h4 : Cond.initialized y.cls ∈ wb) (h5 : Cond.code y cc maxL ret ∈ wb) : GoodIn wb (va_wsS own idx y (Cond.code y cc maxL ret :: wb)) := by
  intro w hw
  have h : w ∈ wb := by
    simp only [va_wsS, List.cons_append, List.nil_append, List.mem_cons] at hw
    rcases hw with rfl | rfl | rfl | rfl | hw
    · exact h1
    · exact h2
    · exact h4
    · exact h5
    · exact hw
  exact ⟨h, wb_good h⟩
theorem hd_fill : y_fill.cls ≠ "java/lang/invoke/MethodHandle" ∧ y_fill.cls ≠ "java/lang/invoke/VarHandle" ∧ (parseMethodDescriptor y_fill.desc).map (fun d => d.parameters.length) = some 2 := by decide +kernel
theorem jv_fill {own : String} {index : Nat} (B : jv_B p c cc) (hml : c.maxLocals = nL) (hown : s.vm.findClass own = some m.cls) (hts : ∀ w ∈ wb, w.before args s = true) (hK : va_K D cl tys s) (hA : ∀ q : Nat, s.heap.size ≤ q → A q) (hlw : Cond.methodLink own index y_fill ∈ wb) (q : Nat) {a n : Nat} {f : Nat → Int32} {v : Int32} {ws' : va_W} (ha : ws[q]? = some (a, .inl (cI, n, .inl f))) (ht : tys[0]? = some (cI, .int)) (hn : n < 2 ^ 31) (hw : ws.set q (a, .inl (cI, n, .inl (fun j => if j < n then v else f j))) = ws') (hfr : 2 ≤ R.frames) (hlo : 55 ≤ R.locals) (hf : cells ≤ R.cells ∧ slots ≤ R.slots) (hW : (st.map fun v => v.category).sum ≤ 8) (hd : decode cc pc = .ok (.invokestatic index, 3))
    (k : jv_V p l e R s m args below meth c D cl A nL cells slots Q ws' lv (pc + 3) st) : jv_V p l e R s m args below meth c D cl A nL cells slots Q ws lv pc (.int v :: .ref a :: st) := by
  subst hw
  exact jv_cvs (As := [.ref a, .int v]) B hml hown hts hK hA (c_fill (v := v) ha ht hn) (va_cwS 2 hts (gw_F hlw kf_s kf_i kf_c) rfl rfl rfl hd_fill ⟨hfr, hlo⟩) rfl hW hd hf rfl (fun _ _ => k)
theorem jv_mmax {own : String} {index : Nat} {x y : Int32} (B : jv_B p c cc) (hml : c.maxLocals = nL) (hown : s.vm.findClass own = some m.cls) (hts : ∀ w ∈ wb, w.before args s = true) (hlink : (Cond.methodLink own index Lib.Math.max.name).before args s = true)
    (hframes : 1 ≤ R.frames) (hlocals : (st.map fun v => v.category).sum + 13 ≤ R.locals) (hc : cells ≤ R.cells) (hs : slots ≤ R.slots) (hd : decode cc pc = .ok (.invokestatic index, 3))
    (k : jv_V p l e R s m args below meth c D cl A nL cells slots Q ws lv (pc + 3) (.int (if x < y then y else x) :: st)) : jv_V p l e R s m args below meth c D cl A nL cells slots Q ws lv pc (.int y :: .int x :: st) := fun H locs ls a b d h => va_mmax B.1 B.2 (hml.trans h.1.symm) hown hlink (hts _ kmax_s) (hts _ kmat_i) (hts _ kmax_c) hframes hlocals hc hs hd (k H locs ls a b d h)
theorem jv_mmin {own : String} {index : Nat} {x y : Int32} (B : jv_B p c cc) (hml : c.maxLocals = nL) (hown : s.vm.findClass own = some m.cls) (hts : ∀ w ∈ wb, w.before args s = true) (hlink : (Cond.methodLink own index Lib.Math.min.name).before args s = true)
    (hframes : 1 ≤ R.frames) (hlocals : (st.map fun v => v.category).sum + 13 ≤ R.locals) (hc : cells ≤ R.cells) (hs : slots ≤ R.slots) (hd : decode cc pc = .ok (.invokestatic index, 3))
    (k : jv_V p l e R s m args below meth c D cl A nL cells slots Q ws lv (pc + 3) (.int (if y < x then y else x) :: st)) : jv_V p l e R s m args below meth c D cl A nL cells slots Q ws lv pc (.int y :: .int x :: st) := fun H locs ls a b d h => va_mmin B.1 B.2 (hml.trans h.1.symm) hown hlink (hts _ kmin_s) (hts _ kmat_i) (hts _ kmin_c) hframes hlocals hc hs hd (k H locs ls a b d h)
theorem jv_copy {own : String} {index : Nat} (B : jv_B p c cc) (hml : c.maxLocals = nL) (hown : s.vm.findClass own = some m.cls) (hts : ∀ w ∈ wb, w.before args s = true) (hK : va_K D cl tys s) (hlink : (Cond.methodLink own index arraycopyName).before args s = true) (q0 q1 : Nat) {a0 a n0 n1 : Nat} {f g : Nat → Int32} {sp dp n : Int32} {ws' : va_W} (ha0 : ws[q0]? = some (a0, .inl (cI, n0, .inl f))) (ha1 : ws[q1]? = some (a, .inl (cI, n1, .inl g))) (ht : tys[0]? = some (cI, .int))
    (hb : ¬ sp < 0 ∧ ¬ dp < 0 ∧ ¬ n < 0 ∧ sp.toNatClampNeg + n.toNatClampNeg ≤ n0 ∧ dp.toNatClampNeg + n.toNatClampNeg ≤ n1) (hw : ws.set q1 (a, .inl (cI, n1, .inl (va_cpy f g sp.toNatClampNeg dp.toNatClampNeg n.toNatClampNeg))) = ws') (hframes : 1 ≤ R.frames) (hlocals : (st.map fun v => v.category).sum + (nativeFrameWords "java/lang/System" "arraycopy" 5 + 11) ≤ R.locals) (hd : decode cc pc = .ok (.invokestatic index, 3))
    (k : jv_V p l e R s m args below meth c D cl A nL cells slots Q ws' lv (pc + 3) st) : jv_V p l e R s m args below meth c D cl A nL cells slots Q ws lv pc (.int n :: .int dp :: .ref a :: .int sp :: .ref a0 :: st) := fun H locs ls a9 b d h => va_copyi (ty := .int) B.1 B.2 (hml.trans h.1.symm) hown hlink (hts _ kcp_n) (hts _ kcp_s) (hts _ kcp_i) hK a9 b d q0 q1 0 0 ha0 ha1 ht ht rfl hb.1 hb.2.1 hb.2.2.1 hb.2.2.2.1 hb.2.2.2.2 (fun _ _ => rfl) hframes hlocals hd (fun H1 locs1 a1 b1 d1 => k H1 locs1 ls (hw ▸ a1) (hw ▸ b1) d1 h)
theorem jv_tsw {n : Nat} {tg : Nat → Nat} {tgd : Nat} {dflt hi : Int} {offs : Array Int} {len : Nat} {x : Int32} (B : jv_B p c cc) (hd : decode cc pc = .ok (.tableswitch dflt 0 hi offs, len)) (hhi : hi + 1 = (n : Int)) (htd : (pc : Int) + dflt = (tgd : Int)) (htg : ∀ j, j < n → offs[j]? = some ((tg j : Int) - (pc : Int)))
    (kin : ∀ j, j < n → x = nI j → jv_V p l e R s m args below meth c D cl A nL cells slots Q ws lv (tg j) st) (kd : (x < 0 ∨ nI n ≤ x) → jv_V p l e R s m args below meth c D cl A nL cells slots Q ws lv tgd st) (hn : n < 2 ^ 31 := by decide) : jv_V p l e R s m args below meth c D cl A nL cells slots Q ws lv pc (.int x :: st) := by
  intro H locs ls a b d h
  rcases pk_ix x hn with hx | hx | ⟨j, hj, hx⟩
  · refine lv_tableOut B.1 B.2 hd (Or.inl ?_) htd (kd (Or.inl hx) H locs ls a b d h)
    rw [Int32.lt_iff_toInt_lt, Int32.toInt_zero] at hx
    exact hx
  · refine lv_tableOut B.1 B.2 hd (Or.inr ?_) htd (kd (Or.inr hx) H locs ls a b d h)
    rw [Int32.le_iff_toInt_le, nI_toInt hn] at hx
    omega
  · have hxt : x.toInt = (j : Int) := by rw [hx, nI_toInt (by omega)]
    refine lv_tableIn (tgt := tg j) (off := (tg j : Int) - (pc : Int)) B.1 B.2 hd (by omega) (by omega) ?_ (by omega) (kin j hj hx H locs ls a b d h)
    rw [hxt]
    have e : ((j : Int) - 0).toNat = j := by omega
    rw [e]
    exact htg j hj
end JF
end
section
theorem d_K_currentPhase_0 : decode b_K_currentPhase 0 = .ok (.aload_n 0, 1) := by decide +kernel
theorem d_K_currentPhase_1 : decode b_K_currentPhase 1 = .ok (.getfield 19, 3) := by decide +kernel
theorem d_K_currentPhase_4 : decode b_K_currentPhase 4 = .ok (.ireturn, 1) := by decide +kernel
theorem d_K_goesOn_0 : decode b_K_goesOn 0 = .ok (.aload_n 0, 1) := by decide +kernel
theorem d_K_goesOn_1 : decode b_K_goesOn 1 = .ok (.getfield 19, 3) := by decide +kernel
theorem d_K_goesOn_4 : decode b_K_goesOn 4 = .ok (.ifCond .lt 16, 3) := by decide +kernel
theorem d_K_goesOn_7 : decode b_K_goesOn 7 = .ok (.aload_n 0, 1) := by decide +kernel
theorem d_K_goesOn_8 : decode b_K_goesOn 8 = .ok (.getfield 19, 3) := by decide +kernel
theorem d_K_goesOn_11 : decode b_K_goesOn 11 = .ok (.bipush 6, 2) := by decide +kernel
theorem d_K_goesOn_13 : decode b_K_goesOn 13 = .ok (.if_icmp .gt 7, 3) := by decide +kernel
theorem d_K_goesOn_16 : decode b_K_goesOn 16 = .ok (.iconst 1, 1) := by decide +kernel
theorem d_K_goesOn_17 : decode b_K_goesOn 17 = .ok (.goto 4, 3) := by decide +kernel
theorem d_K_goesOn_20 : decode b_K_goesOn 20 = .ok (.iconst 0, 1) := by decide +kernel
theorem d_K_goesOn_21 : decode b_K_goesOn 21 = .ok (.ireturn, 1) := by decide +kernel
theorem d_K_forget_0 : decode b_K_forget 0 = .ok (.aload_n 0, 1) := by decide +kernel
theorem d_K_forget_1 : decode b_K_forget 1 = .ok (.iconst (-1), 1) := by decide +kernel
theorem d_K_forget_2 : decode b_K_forget 2 = .ok (.putfield 19, 3) := by decide +kernel
theorem d_K_forget_5 : decode b_K_forget 5 = .ok (.return_, 1) := by decide +kernel
theorem d_K_halt_0 : decode b_K_halt 0 = .ok (.aload_n 0, 1) := by decide +kernel
theorem d_K_halt_1 : decode b_K_halt 1 = .ok (.bipush 7, 2) := by decide +kernel
theorem d_K_halt_3 : decode b_K_halt 3 = .ok (.putfield 19, 3) := by decide +kernel
theorem d_K_halt_6 : decode b_K_halt 6 = .ok (.return_, 1) := by decide +kernel
theorem d_S_size_0 : decode b_S_size 0 = .ok (.aload_n 0, 1) := by decide +kernel
theorem d_S_size_1 : decode b_S_size 1 = .ok (.getfield 24, 3) := by decide +kernel
theorem d_S_size_4 : decode b_S_size 4 = .ok (.ireturn, 1) := by decide +kernel
theorem d_K_enter_0 : decode b_K_enter 0 = .ok (.aload_n 0, 1) := by decide +kernel
theorem d_K_enter_1 : decode b_K_enter 1 = .ok (.iload_n 1, 1) := by decide +kernel
theorem d_K_enter_2 : decode b_K_enter 2 = .ok (.putfield 19, 3) := by decide +kernel
theorem d_K_enter_5 : decode b_K_enter 5 = .ok (.aload_n 0, 1) := by decide +kernel
theorem d_K_enter_6 : decode b_K_enter 6 = .ok (.bipush 8, 2) := by decide +kernel
theorem d_K_enter_8 : decode b_K_enter 8 = .ok (.putfield 30, 3) := by decide +kernel
theorem d_K_enter_11 : decode b_K_enter 11 = .ok (.aload_n 0, 1) := by decide +kernel
theorem d_K_enter_12 : decode b_K_enter 12 = .ok (.iload_n 1, 1) := by decide +kernel
theorem d_K_enter_13 : decode b_K_enter 13 = .ok (.iconst 1, 1) := by decide +kernel
theorem d_K_enter_14 : decode b_K_enter 14 = .ok (.if_icmp .ne 13, 3) := by decide +kernel
theorem d_K_enter_17 : decode b_K_enter 17 = .ok (.aload_n 0, 1) := by decide +kernel
theorem d_K_enter_18 : decode b_K_enter 18 = .ok (.getfield 15, 3) := by decide +kernel
theorem d_K_enter_21 : decode b_K_enter 21 = .ok (.invokevirtual 33, 3) := by decide +kernel
theorem d_K_enter_24 : decode b_K_enter 24 = .ok (.goto 4, 3) := by decide +kernel
theorem d_K_enter_27 : decode b_K_enter 27 = .ok (.iconst 0, 1) := by decide +kernel
theorem d_K_enter_28 : decode b_K_enter 28 = .ok (.putfield 39, 3) := by decide +kernel
theorem d_K_enter_31 : decode b_K_enter 31 = .ok (.aload_n 0, 1) := by decide +kernel
theorem d_K_enter_32 : decode b_K_enter 32 = .ok (.iconst 0, 1) := by decide +kernel
theorem d_K_enter_33 : decode b_K_enter 33 = .ok (.putfield 42, 3) := by decide +kernel
theorem d_K_enter_36 : decode b_K_enter 36 = .ok (.aload_n 0, 1) := by decide +kernel
theorem d_K_enter_37 : decode b_K_enter 37 = .ok (.iconst 0, 1) := by decide +kernel
theorem d_K_enter_38 : decode b_K_enter 38 = .ok (.putfield 45, 3) := by decide +kernel
theorem d_K_enter_41 : decode b_K_enter 41 = .ok (.return_, 1) := by decide +kernel
theorem d_K_start_0 : decode b_K_start 0 = .ok (.aload_n 0, 1) := by decide +kernel
theorem d_K_start_1 : decode b_K_start 1 = .ok (.iload_n 1, 1) := by decide +kernel
theorem d_K_start_2 : decode b_K_start 2 = .ok (.putfield 23, 3) := by decide +kernel
theorem d_K_start_5 : decode b_K_start 5 = .ok (.aload_n 0, 1) := by decide +kernel
theorem d_K_start_6 : decode b_K_start 6 = .ok (.iconst 0, 1) := by decide +kernel
theorem d_K_start_7 : decode b_K_start 7 = .ok (.invokevirtual 26, 3) := by decide +kernel
theorem d_K_start_10 : decode b_K_start 10 = .ok (.return_, 1) := by decide +kernel
theorem d_S_firstFrom_0 : decode b_S_firstFrom 0 = .ok (.iconst 0, 1) := by decide +kernel
theorem d_S_firstFrom_1 : decode b_S_firstFrom 1 = .ok (.iload_n 2, 1) := by decide +kernel
theorem d_S_firstFrom_2 : decode b_S_firstFrom 2 = .ok (.invokestatic 21, 3) := by decide +kernel
theorem d_S_firstFrom_5 : decode b_S_firstFrom 5 = .ok (.istore_n 3, 1) := by decide +kernel
theorem d_S_firstFrom_6 : decode b_S_firstFrom 6 = .ok (.iload_n 3, 1) := by decide +kernel
theorem d_S_firstFrom_7 : decode b_S_firstFrom 7 = .ok (.aload_n 0, 1) := by decide +kernel
theorem d_S_firstFrom_8 : decode b_S_firstFrom 8 = .ok (.getfield 24, 3) := by decide +kernel
theorem d_S_firstFrom_11 : decode b_S_firstFrom 11 = .ok (.if_icmp .ge 21, 3) := by decide +kernel
theorem d_S_firstFrom_14 : decode b_S_firstFrom 14 = .ok (.aload_n 0, 1) := by decide +kernel
theorem d_S_firstFrom_15 : decode b_S_firstFrom 15 = .ok (.getfield 9, 3) := by decide +kernel
theorem d_S_firstFrom_18 : decode b_S_firstFrom 18 = .ok (.iload_n 3, 1) := by decide +kernel
theorem d_S_firstFrom_19 : decode b_S_firstFrom 19 = .ok (.iaload, 1) := by decide +kernel
theorem d_S_firstFrom_20 : decode b_S_firstFrom 20 = .ok (.iload_n 1, 1) := by decide +kernel
theorem d_S_firstFrom_21 : decode b_S_firstFrom 21 = .ok (.if_icmp .ne 5, 3) := by decide +kernel
theorem d_S_firstFrom_24 : decode b_S_firstFrom 24 = .ok (.iload_n 3, 1) := by decide +kernel
theorem d_S_firstFrom_25 : decode b_S_firstFrom 25 = .ok (.ireturn, 1) := by decide +kernel
theorem d_S_firstFrom_26 : decode b_S_firstFrom 26 = .ok (.iinc 3 1, 3) := by decide +kernel
theorem d_S_firstFrom_29 : decode b_S_firstFrom 29 = .ok (.goto (-23), 3) := by decide +kernel
theorem d_S_firstFrom_32 : decode b_S_firstFrom 32 = .ok (.iconst (-1), 1) := by decide +kernel
theorem d_S_firstFrom_33 : decode b_S_firstFrom 33 = .ok (.ireturn, 1) := by decide +kernel
theorem d_S_stateOf_0 : decode b_S_stateOf 0 = .ok (.iload_n 1, 1) := by decide +kernel
theorem d_S_stateOf_1 : decode b_S_stateOf 1 = .ok (.ifCond .lt 20, 3) := by decide +kernel
theorem d_S_stateOf_4 : decode b_S_stateOf 4 = .ok (.iload_n 1, 1) := by decide +kernel
theorem d_S_stateOf_5 : decode b_S_stateOf 5 = .ok (.aload_n 0, 1) := by decide +kernel
theorem d_S_stateOf_6 : decode b_S_stateOf 6 = .ok (.getfield 24, 3) := by decide +kernel
theorem d_S_stateOf_9 : decode b_S_stateOf 9 = .ok (.if_icmp .ge 12, 3) := by decide +kernel
theorem d_S_stateOf_12 : decode b_S_stateOf 12 = .ok (.aload_n 0, 1) := by decide +kernel
theorem d_S_stateOf_13 : decode b_S_stateOf 13 = .ok (.getfield 9, 3) := by decide +kernel
theorem d_S_stateOf_16 : decode b_S_stateOf 16 = .ok (.iload_n 1, 1) := by decide +kernel
theorem d_S_stateOf_17 : decode b_S_stateOf 17 = .ok (.iaload, 1) := by decide +kernel
theorem d_S_stateOf_18 : decode b_S_stateOf 18 = .ok (.goto 4, 3) := by decide +kernel
theorem d_S_stateOf_21 : decode b_S_stateOf 21 = .ok (.iconst (-1), 1) := by decide +kernel
theorem d_S_stateOf_22 : decode b_S_stateOf 22 = .ok (.ireturn, 1) := by decide +kernel
theorem d_S_behindStretch_0 : decode b_S_behindStretch 0 = .ok (.iload_n 1, 1) := by decide +kernel
theorem d_S_behindStretch_1 : decode b_S_behindStretch 1 = .ok (.iconst 1, 1) := by decide +kernel
theorem d_S_behindStretch_2 : decode b_S_behindStretch 2 = .ok (.iadd, 1) := by decide +kernel
theorem d_S_behindStretch_3 : decode b_S_behindStretch 3 = .ok (.istore_n 3, 1) := by decide +kernel
theorem d_S_behindStretch_4 : decode b_S_behindStretch 4 = .ok (.iload_n 3, 1) := by decide +kernel
theorem d_S_behindStretch_5 : decode b_S_behindStretch 5 = .ok (.aload_n 0, 1) := by decide +kernel
theorem d_S_behindStretch_6 : decode b_S_behindStretch 6 = .ok (.getfield 24, 3) := by decide +kernel
theorem d_S_behindStretch_9 : decode b_S_behindStretch 9 = .ok (.if_icmp .ge 29, 3) := by decide +kernel
theorem d_S_behindStretch_12 : decode b_S_behindStretch 12 = .ok (.iload_n 3, 1) := by decide +kernel
theorem d_S_behindStretch_13 : decode b_S_behindStretch 13 = .ok (.iload_n 1, 1) := by decide +kernel
theorem d_S_behindStretch_14 : decode b_S_behindStretch 14 = .ok (.isub, 1) := by decide +kernel
theorem d_S_behindStretch_15 : decode b_S_behindStretch 15 = .ok (.iload_n 2, 1) := by decide +kernel
theorem d_S_behindStretch_16 : decode b_S_behindStretch 16 = .ok (.if_icmp .ge 22, 3) := by decide +kernel
theorem d_S_behindStretch_19 : decode b_S_behindStretch 19 = .ok (.aload_n 0, 1) := by decide +kernel
theorem d_S_behindStretch_20 : decode b_S_behindStretch 20 = .ok (.iload_n 3, 1) := by decide +kernel
theorem d_S_behindStretch_21 : decode b_S_behindStretch 21 = .ok (.invokevirtual 34, 3) := by decide +kernel
theorem d_S_behindStretch_24 : decode b_S_behindStretch 24 = .ok (.aload_n 0, 1) := by decide +kernel
theorem d_S_behindStretch_25 : decode b_S_behindStretch 25 = .ok (.iload_n 1, 1) := by decide +kernel
theorem d_S_behindStretch_26 : decode b_S_behindStretch 26 = .ok (.invokevirtual 34, 3) := by decide +kernel
theorem d_S_behindStretch_29 : decode b_S_behindStretch 29 = .ok (.if_icmp .ne 9, 3) := by decide +kernel
theorem d_S_behindStretch_32 : decode b_S_behindStretch 32 = .ok (.iinc 3 1, 3) := by decide +kernel
theorem d_S_behindStretch_35 : decode b_S_behindStretch 35 = .ok (.goto (-31), 3) := by decide +kernel
theorem d_S_behindStretch_38 : decode b_S_behindStretch 38 = .ok (.iload_n 3, 1) := by decide +kernel
theorem d_S_behindStretch_39 : decode b_S_behindStretch 39 = .ok (.ireturn, 1) := by decide +kernel
theorem d_D_readStretch_0 : decode b_D_readStretch 0 = .ok (.iload_n 1, 1) := by decide +kernel
theorem d_D_readStretch_1 : decode b_D_readStretch 1 = .ok (.ifCond .lt 16, 3) := by decide +kernel
theorem d_D_readStretch_4 : decode b_D_readStretch 4 = .ok (.iload_n 1, 1) := by decide +kernel
theorem d_D_readStretch_5 : decode b_D_readStretch 5 = .ok (.iload_n 2, 1) := by decide +kernel
theorem d_D_readStretch_6 : decode b_D_readStretch 6 = .ok (.if_icmp .ge 11, 3) := by decide +kernel
theorem d_D_readStretch_9 : decode b_D_readStretch 9 = .ok (.iload_n 2, 1) := by decide +kernel
theorem d_D_readStretch_10 : decode b_D_readStretch 10 = .ok (.aload_n 0, 1) := by decide +kernel
theorem d_D_readStretch_11 : decode b_D_readStretch 11 = .ok (.getfield 24, 3) := by decide +kernel
theorem d_D_readStretch_14 : decode b_D_readStretch 14 = .ok (.if_icmp .le 5, 3) := by decide +kernel
theorem d_D_readStretch_17 : decode b_D_readStretch 17 = .ok (.iconst 0, 1) := by decide +kernel
theorem d_D_readStretch_18 : decode b_D_readStretch 18 = .ok (.ireturn, 1) := by decide +kernel
theorem d_D_readStretch_19 : decode b_D_readStretch 19 = .ok (.aload_n 0, 1) := by decide +kernel
theorem d_D_readStretch_20 : decode b_D_readStretch 20 = .ok (.dup, 1) := by decide +kernel
theorem d_D_readStretch_21 : decode b_D_readStretch 21 = .ok (.getfield 28, 3) := by decide +kernel
theorem d_D_readStretch_24 : decode b_D_readStretch 24 = .ok (.iconst 1, 1) := by decide +kernel
theorem d_D_readStretch_25 : decode b_D_readStretch 25 = .ok (.iadd, 1) := by decide +kernel
theorem d_D_readStretch_26 : decode b_D_readStretch 26 = .ok (.putfield 28, 3) := by decide +kernel
theorem d_D_readStretch_29 : decode b_D_readStretch 29 = .ok (.iload_n 1, 1) := by decide +kernel
theorem d_D_readStretch_30 : decode b_D_readStretch 30 = .ok (.istore_n 3, 1) := by decide +kernel
theorem d_D_readStretch_31 : decode b_D_readStretch 31 = .ok (.iload_n 3, 1) := by decide +kernel
theorem d_D_readStretch_32 : decode b_D_readStretch 32 = .ok (.iload_n 2, 1) := by decide +kernel
theorem d_D_readStretch_33 : decode b_D_readStretch 33 = .ok (.if_icmp .ge 60, 3) := by decide +kernel
theorem d_D_readStretch_36 : decode b_D_readStretch 36 = .ok (.aload_n 0, 1) := by decide +kernel
theorem d_D_readStretch_37 : decode b_D_readStretch 37 = .ok (.getfield 18, 3) := by decide +kernel
theorem d_D_readStretch_40 : decode b_D_readStretch 40 = .ok (.iload_n 3, 1) := by decide +kernel
theorem d_D_readStretch_41 : decode b_D_readStretch 41 = .ok (.dup2, 1) := by decide +kernel
theorem d_D_readStretch_42 : decode b_D_readStretch 42 = .ok (.iaload, 1) := by decide +kernel
theorem d_D_readStretch_43 : decode b_D_readStretch 43 = .ok (.iconst 1, 1) := by decide +kernel
theorem d_D_readStretch_44 : decode b_D_readStretch 44 = .ok (.iadd, 1) := by decide +kernel
theorem d_D_readStretch_45 : decode b_D_readStretch 45 = .ok (.iastore, 1) := by decide +kernel
theorem d_D_readStretch_46 : decode b_D_readStretch 46 = .ok (.aload_n 0, 1) := by decide +kernel
theorem d_D_readStretch_47 : decode b_D_readStretch 47 = .ok (.getfield 15, 3) := by decide +kernel
theorem d_D_readStretch_50 : decode b_D_readStretch 50 = .ok (.iload_n 3, 1) := by decide +kernel
theorem d_D_readStretch_51 : decode b_D_readStretch 51 = .ok (.iaload, 1) := by decide +kernel
theorem d_D_readStretch_52 : decode b_D_readStretch 52 = .ok (.ifCond .eq 35, 3) := by decide +kernel
theorem d_D_readStretch_55 : decode b_D_readStretch 55 = .ok (.aload_n 0, 1) := by decide +kernel
theorem d_D_readStretch_56 : decode b_D_readStretch 56 = .ok (.getfield 15, 3) := by decide +kernel
theorem d_D_readStretch_59 : decode b_D_readStretch 59 = .ok (.iload_n 3, 1) := by decide +kernel
theorem d_D_readStretch_60 : decode b_D_readStretch 60 = .ok (.iaload, 1) := by decide +kernel
theorem d_D_readStretch_61 : decode b_D_readStretch 61 = .ok (.iconst (-1), 1) := by decide +kernel
theorem d_D_readStretch_62 : decode b_D_readStretch 62 = .ok (.if_icmp .eq 13, 3) := by decide +kernel
theorem d_D_readStretch_65 : decode b_D_readStretch 65 = .ok (.aload_n 0, 1) := by decide +kernel
theorem d_D_readStretch_66 : decode b_D_readStretch 66 = .ok (.getfield 15, 3) := by decide +kernel
theorem d_D_readStretch_69 : decode b_D_readStretch 69 = .ok (.iload_n 3, 1) := by decide +kernel
theorem d_D_readStretch_70 : decode b_D_readStretch 70 = .ok (.dup2, 1) := by decide +kernel
theorem d_D_readStretch_71 : decode b_D_readStretch 71 = .ok (.iaload, 1) := by decide +kernel
theorem d_D_readStretch_72 : decode b_D_readStretch 72 = .ok (.iconst 1, 1) := by decide +kernel
theorem d_D_readStretch_73 : decode b_D_readStretch 73 = .ok (.isub, 1) := by decide +kernel
theorem d_D_readStretch_74 : decode b_D_readStretch 74 = .ok (.iastore, 1) := by decide +kernel
theorem d_D_readStretch_75 : decode b_D_readStretch 75 = .ok (.aload_n 0, 1) := by decide +kernel
theorem d_D_readStretch_76 : decode b_D_readStretch 76 = .ok (.dup, 1) := by decide +kernel
theorem d_D_readStretch_77 : decode b_D_readStretch 77 = .ok (.getfield 31, 3) := by decide +kernel
theorem d_D_readStretch_80 : decode b_D_readStretch 80 = .ok (.iconst 1, 1) := by decide +kernel
theorem d_D_readStretch_81 : decode b_D_readStretch 81 = .ok (.iadd, 1) := by decide +kernel
theorem d_D_readStretch_82 : decode b_D_readStretch 82 = .ok (.putfield 31, 3) := by decide +kernel
theorem d_D_readStretch_85 : decode b_D_readStretch 85 = .ok (.iconst 0, 1) := by decide +kernel
theorem d_D_readStretch_86 : decode b_D_readStretch 86 = .ok (.ireturn, 1) := by decide +kernel
theorem d_D_readStretch_87 : decode b_D_readStretch 87 = .ok (.iinc 3 1, 3) := by decide +kernel
theorem d_D_readStretch_90 : decode b_D_readStretch 90 = .ok (.goto (-59), 3) := by decide +kernel
theorem d_D_readStretch_93 : decode b_D_readStretch 93 = .ok (.aload_n 0, 1) := by decide +kernel
theorem d_D_readStretch_94 : decode b_D_readStretch 94 = .ok (.getfield 9, 3) := by decide +kernel
theorem d_D_readStretch_97 : decode b_D_readStretch 97 = .ok (.iload_n 1, 1) := by decide +kernel
theorem d_D_readStretch_98 : decode b_D_readStretch 98 = .ok (.aload_n 0, 1) := by decide +kernel
theorem d_D_readStretch_99 : decode b_D_readStretch 99 = .ok (.getfield 21, 3) := by decide +kernel
theorem d_D_readStretch_102 : decode b_D_readStretch 102 = .ok (.iload_n 1, 1) := by decide +kernel
theorem d_D_readStretch_103 : decode b_D_readStretch 103 = .ok (.iload_n 2, 1) := by decide +kernel
theorem d_D_readStretch_104 : decode b_D_readStretch 104 = .ok (.iload_n 1, 1) := by decide +kernel
theorem d_D_readStretch_105 : decode b_D_readStretch 105 = .ok (.isub, 1) := by decide +kernel
theorem d_D_readStretch_106 : decode b_D_readStretch 106 = .ok (.invokestatic 44, 3) := by decide +kernel
theorem d_D_readStretch_109 : decode b_D_readStretch 109 = .ok (.iconst 1, 1) := by decide +kernel
theorem d_D_readStretch_110 : decode b_D_readStretch 110 = .ok (.ireturn, 1) := by decide +kernel
theorem d_S_mark_0 : decode b_S_mark 0 = .ok (.iload_n 2, 1) := by decide +kernel
theorem d_S_mark_1 : decode b_S_mark 1 = .ok (.aload_n 0, 1) := by decide +kernel
theorem d_S_mark_2 : decode b_S_mark 2 = .ok (.getfield 24, 3) := by decide +kernel
theorem d_S_mark_5 : decode b_S_mark 5 = .ok (.invokestatic 15, 3) := by decide +kernel
theorem d_S_mark_8 : decode b_S_mark 8 = .ok (.istore 4, 2) := by decide +kernel
theorem d_S_mark_10 : decode b_S_mark 10 = .ok (.iconst 0, 1) := by decide +kernel
theorem d_S_mark_11 : decode b_S_mark 11 = .ok (.iload_n 1, 1) := by decide +kernel
theorem d_S_mark_12 : decode b_S_mark 12 = .ok (.invokestatic 21, 3) := by decide +kernel
theorem d_S_mark_15 : decode b_S_mark 15 = .ok (.istore 5, 2) := by decide +kernel
theorem d_S_mark_17 : decode b_S_mark 17 = .ok (.iload 5, 2) := by decide +kernel
theorem d_S_mark_19 : decode b_S_mark 19 = .ok (.iload 4, 2) := by decide +kernel
theorem d_S_mark_21 : decode b_S_mark 21 = .ok (.if_icmp .ge 17, 3) := by decide +kernel
theorem d_S_mark_24 : decode b_S_mark 24 = .ok (.aload_n 0, 1) := by decide +kernel
theorem d_S_mark_25 : decode b_S_mark 25 = .ok (.getfield 9, 3) := by decide +kernel
theorem d_S_mark_28 : decode b_S_mark 28 = .ok (.iload 5, 2) := by decide +kernel
theorem d_S_mark_30 : decode b_S_mark 30 = .ok (.iload_n 3, 1) := by decide +kernel
theorem d_S_mark_31 : decode b_S_mark 31 = .ok (.iastore, 1) := by decide +kernel
theorem d_S_mark_32 : decode b_S_mark 32 = .ok (.iinc 5 1, 3) := by decide +kernel
theorem d_S_mark_35 : decode b_S_mark 35 = .ok (.goto (-18), 3) := by decide +kernel
theorem d_S_mark_38 : decode b_S_mark 38 = .ok (.return_, 1) := by decide +kernel
theorem d_K_rescue_0 : decode b_K_rescue 0 = .ok (.aload_n 0, 1) := by decide +kernel
theorem d_K_rescue_1 : decode b_K_rescue 1 = .ok (.getfield 9, 3) := by decide +kernel
theorem d_K_rescue_4 : decode b_K_rescue 4 = .ok (.iload_n 1, 1) := by decide +kernel
theorem d_K_rescue_5 : decode b_K_rescue 5 = .ok (.iload_n 2, 1) := by decide +kernel
theorem d_K_rescue_6 : decode b_K_rescue 6 = .ok (.invokevirtual 109, 3) := by decide +kernel
theorem d_K_rescue_9 : decode b_K_rescue 9 = .ok (.istore 4, 2) := by decide +kernel
theorem d_K_rescue_11 : decode b_K_rescue 11 = .ok (.aload_n 0, 1) := by decide +kernel
theorem d_K_rescue_12 : decode b_K_rescue 12 = .ok (.getfield 15, 3) := by decide +kernel
theorem d_K_rescue_15 : decode b_K_rescue 15 = .ok (.iload_n 1, 1) := by decide +kernel
theorem d_K_rescue_16 : decode b_K_rescue 16 = .ok (.iload_n 2, 1) := by decide +kernel
theorem d_K_rescue_17 : decode b_K_rescue 17 = .ok (.iload 4, 2) := by decide +kernel
theorem d_K_rescue_19 : decode b_K_rescue 19 = .ok (.ifCond .eq 7, 3) := by decide +kernel
theorem d_K_rescue_22 : decode b_K_rescue 22 = .ok (.iconst 4, 1) := by decide +kernel
theorem d_K_rescue_23 : decode b_K_rescue 23 = .ok (.goto 4, 3) := by decide +kernel
theorem d_K_rescue_26 : decode b_K_rescue 26 = .ok (.iload_n 3, 1) := by decide +kernel
theorem d_K_rescue_27 : decode b_K_rescue 27 = .ok (.invokevirtual 96, 3) := by decide +kernel
theorem d_K_rescue_30 : decode b_K_rescue 30 = .ok (.iload 4, 2) := by decide +kernel
theorem d_K_rescue_32 : decode b_K_rescue 32 = .ok (.ireturn, 1) := by decide +kernel
theorem d_K_takeLeap_0 : decode b_K_takeLeap 0 = .ok (.iload_n 1, 1) := by decide +kernel
theorem d_K_takeLeap_1 : decode b_K_takeLeap 1 = .ok (.ifCond .eq 7, 3) := by decide +kernel
theorem d_K_takeLeap_4 : decode b_K_takeLeap 4 = .ok (.iconst 0, 1) := by decide +kernel
theorem d_K_takeLeap_5 : decode b_K_takeLeap 5 = .ok (.goto 7, 3) := by decide +kernel
theorem d_K_takeLeap_8 : decode b_K_takeLeap 8 = .ok (.aload_n 0, 1) := by decide +kernel
theorem d_K_takeLeap_9 : decode b_K_takeLeap 9 = .ok (.getfield 30, 3) := by decide +kernel
theorem d_K_takeLeap_12 : decode b_K_takeLeap 12 = .ok (.istore_n 2, 1) := by decide +kernel
theorem d_K_takeLeap_13 : decode b_K_takeLeap 13 = .ok (.aload_n 0, 1) := by decide +kernel
theorem d_K_takeLeap_14 : decode b_K_takeLeap 14 = .ok (.iload_n 1, 1) := by decide +kernel
theorem d_K_takeLeap_15 : decode b_K_takeLeap 15 = .ok (.ifCond .eq 8, 3) := by decide +kernel
theorem d_K_takeLeap_18 : decode b_K_takeLeap 18 = .ok (.bipush 8, 2) := by decide +kernel
theorem d_K_takeLeap_20 : decode b_K_takeLeap 20 = .ok (.goto 14, 3) := by decide +kernel
theorem d_K_takeLeap_23 : decode b_K_takeLeap 23 = .ok (.iconst 2, 1) := by decide +kernel
theorem d_K_takeLeap_24 : decode b_K_takeLeap 24 = .ok (.aload_n 0, 1) := by decide +kernel
theorem d_K_takeLeap_25 : decode b_K_takeLeap 25 = .ok (.getfield 30, 3) := by decide +kernel
theorem d_K_takeLeap_28 : decode b_K_takeLeap 28 = .ok (.imul, 1) := by decide +kernel
theorem d_K_takeLeap_29 : decode b_K_takeLeap 29 = .ok (.bipush 32, 2) := by decide +kernel
theorem d_K_takeLeap_31 : decode b_K_takeLeap 31 = .ok (.invokestatic 91, 3) := by decide +kernel
theorem d_K_takeLeap_34 : decode b_K_takeLeap 34 = .ok (.putfield 30, 3) := by decide +kernel
theorem d_K_takeLeap_37 : decode b_K_takeLeap 37 = .ok (.iload_n 2, 1) := by decide +kernel
theorem d_K_takeLeap_38 : decode b_K_takeLeap 38 = .ok (.ireturn, 1) := by decide +kernel
theorem d_K_readForward_0 : decode b_K_readForward 0 = .ok (.aload_n 0, 1) := by decide +kernel
theorem d_K_readForward_1 : decode b_K_readForward 1 = .ok (.getfield 15, 3) := by decide +kernel
theorem d_K_readForward_4 : decode b_K_readForward 4 = .ok (.iconst 0, 1) := by decide +kernel
theorem d_K_readForward_5 : decode b_K_readForward 5 = .ok (.aload_n 0, 1) := by decide +kernel
theorem d_K_readForward_6 : decode b_K_readForward 6 = .ok (.getfield 39, 3) := by decide +kernel
theorem d_K_readForward_9 : decode b_K_readForward 9 = .ok (.invokevirtual 70, 3) := by decide +kernel
theorem d_K_readForward_12 : decode b_K_readForward 12 = .ok (.istore_n 2, 1) := by decide +kernel
theorem d_K_readForward_13 : decode b_K_readForward 13 = .ok (.iload_n 2, 1) := by decide +kernel
theorem d_K_readForward_14 : decode b_K_readForward 14 = .ok (.iconst (-1), 1) := by decide +kernel
theorem d_K_readForward_15 : decode b_K_readForward 15 = .ok (.if_icmp .ne 5, 3) := by decide +kernel
theorem d_K_readForward_18 : decode b_K_readForward 18 = .ok (.iconst 0, 1) := by decide +kernel
theorem d_K_readForward_19 : decode b_K_readForward 19 = .ok (.ireturn, 1) := by decide +kernel
theorem d_K_readForward_20 : decode b_K_readForward 20 = .ok (.aload_n 0, 1) := by decide +kernel
theorem d_K_readForward_21 : decode b_K_readForward 21 = .ok (.getfield 15, 3) := by decide +kernel
theorem d_K_readForward_24 : decode b_K_readForward 24 = .ok (.iload_n 2, 1) := by decide +kernel
theorem d_K_readForward_25 : decode b_K_readForward 25 = .ok (.bipush 8, 2) := by decide +kernel
theorem d_K_readForward_27 : decode b_K_readForward 27 = .ok (.invokevirtual 74, 3) := by decide +kernel
theorem d_K_readForward_30 : decode b_K_readForward 30 = .ok (.istore_n 3, 1) := by decide +kernel
theorem d_K_readForward_31 : decode b_K_readForward 31 = .ok (.aload_n 0, 1) := by decide +kernel
theorem d_K_readForward_32 : decode b_K_readForward 32 = .ok (.iload_n 2, 1) := by decide +kernel
theorem d_K_readForward_33 : decode b_K_readForward 33 = .ok (.iload_n 3, 1) := by decide +kernel
theorem d_K_readForward_34 : decode b_K_readForward 34 = .ok (.iconst 1, 1) := by decide +kernel
theorem d_K_readForward_35 : decode b_K_readForward 35 = .ok (.invokevirtual 77, 3) := by decide +kernel
theorem d_K_readForward_38 : decode b_K_readForward 38 = .ok (.istore 4, 2) := by decide +kernel
theorem d_K_readForward_40 : decode b_K_readForward 40 = .ok (.aload_n 0, 1) := by decide +kernel
theorem d_K_readForward_41 : decode b_K_readForward 41 = .ok (.iload_n 3, 1) := by decide +kernel
theorem d_K_readForward_42 : decode b_K_readForward 42 = .ok (.iload_n 1, 1) := by decide +kernel
theorem d_K_readForward_43 : decode b_K_readForward 43 = .ok (.ifCond .eq 12, 3) := by decide +kernel
theorem d_K_readForward_46 : decode b_K_readForward 46 = .ok (.aload_n 0, 1) := by decide +kernel
theorem d_K_readForward_47 : decode b_K_readForward 47 = .ok (.iload 4, 2) := by decide +kernel
theorem d_K_readForward_49 : decode b_K_readForward 49 = .ok (.invokevirtual 81, 3) := by decide +kernel
theorem d_K_readForward_52 : decode b_K_readForward 52 = .ok (.goto 4, 3) := by decide +kernel
theorem d_K_readForward_55 : decode b_K_readForward 55 = .ok (.iconst 0, 1) := by decide +kernel
theorem d_K_readForward_56 : decode b_K_readForward 56 = .ok (.iadd, 1) := by decide +kernel
theorem d_K_readForward_57 : decode b_K_readForward 57 = .ok (.putfield 39, 3) := by decide +kernel
theorem d_K_readForward_60 : decode b_K_readForward 60 = .ok (.iconst 1, 1) := by decide +kernel
theorem d_K_readForward_61 : decode b_K_readForward 61 = .ok (.ireturn, 1) := by decide +kernel
theorem d_S_lastBelow_0 : decode b_S_lastBelow 0 = .ok (.iload_n 2, 1) := by decide +kernel
theorem d_S_lastBelow_1 : decode b_S_lastBelow 1 = .ok (.aload_n 0, 1) := by decide +kernel
theorem d_S_lastBelow_2 : decode b_S_lastBelow 2 = .ok (.getfield 24, 3) := by decide +kernel
theorem d_S_lastBelow_5 : decode b_S_lastBelow 5 = .ok (.invokestatic 15, 3) := by decide +kernel
theorem d_S_lastBelow_8 : decode b_S_lastBelow 8 = .ok (.iconst 1, 1) := by decide +kernel
theorem d_S_lastBelow_9 : decode b_S_lastBelow 9 = .ok (.isub, 1) := by decide +kernel
theorem d_S_lastBelow_10 : decode b_S_lastBelow 10 = .ok (.istore_n 3, 1) := by decide +kernel
theorem d_S_lastBelow_11 : decode b_S_lastBelow 11 = .ok (.iload_n 3, 1) := by decide +kernel
theorem d_S_lastBelow_12 : decode b_S_lastBelow 12 = .ok (.ifCond .lt 21, 3) := by decide +kernel
theorem d_S_lastBelow_15 : decode b_S_lastBelow 15 = .ok (.aload_n 0, 1) := by decide +kernel
theorem d_S_lastBelow_16 : decode b_S_lastBelow 16 = .ok (.getfield 9, 3) := by decide +kernel
theorem d_S_lastBelow_19 : decode b_S_lastBelow 19 = .ok (.iload_n 3, 1) := by decide +kernel
theorem d_S_lastBelow_20 : decode b_S_lastBelow 20 = .ok (.iaload, 1) := by decide +kernel
theorem d_S_lastBelow_21 : decode b_S_lastBelow 21 = .ok (.iload_n 1, 1) := by decide +kernel
theorem d_S_lastBelow_22 : decode b_S_lastBelow 22 = .ok (.if_icmp .ne 5, 3) := by decide +kernel
theorem d_S_lastBelow_25 : decode b_S_lastBelow 25 = .ok (.iload_n 3, 1) := by decide +kernel
theorem d_S_lastBelow_26 : decode b_S_lastBelow 26 = .ok (.ireturn, 1) := by decide +kernel
theorem d_S_lastBelow_27 : decode b_S_lastBelow 27 = .ok (.iinc 3 (-1), 3) := by decide +kernel
theorem d_S_lastBelow_30 : decode b_S_lastBelow 30 = .ok (.goto (-19), 3) := by decide +kernel
theorem d_S_lastBelow_33 : decode b_S_lastBelow 33 = .ok (.iconst (-1), 1) := by decide +kernel
theorem d_S_lastBelow_34 : decode b_S_lastBelow 34 = .ok (.ireturn, 1) := by decide +kernel
theorem d_S_firstOfStretch_0 : decode b_S_firstOfStretch 0 = .ok (.iload_n 1, 1) := by decide +kernel
theorem d_S_firstOfStretch_1 : decode b_S_firstOfStretch 1 = .ok (.istore_n 3, 1) := by decide +kernel
theorem d_S_firstOfStretch_2 : decode b_S_firstOfStretch 2 = .ok (.iload_n 3, 1) := by decide +kernel
theorem d_S_firstOfStretch_3 : decode b_S_firstOfStretch 3 = .ok (.ifCond .le 33, 3) := by decide +kernel
theorem d_S_firstOfStretch_6 : decode b_S_firstOfStretch 6 = .ok (.iload_n 1, 1) := by decide +kernel
theorem d_S_firstOfStretch_7 : decode b_S_firstOfStretch 7 = .ok (.iload_n 3, 1) := by decide +kernel
theorem d_S_firstOfStretch_8 : decode b_S_firstOfStretch 8 = .ok (.isub, 1) := by decide +kernel
theorem d_S_firstOfStretch_9 : decode b_S_firstOfStretch 9 = .ok (.iconst 1, 1) := by decide +kernel
theorem d_S_firstOfStretch_10 : decode b_S_firstOfStretch 10 = .ok (.iadd, 1) := by decide +kernel
theorem d_S_firstOfStretch_11 : decode b_S_firstOfStretch 11 = .ok (.iload_n 2, 1) := by decide +kernel
theorem d_S_firstOfStretch_12 : decode b_S_firstOfStretch 12 = .ok (.if_icmp .ge 24, 3) := by decide +kernel
theorem d_S_firstOfStretch_15 : decode b_S_firstOfStretch 15 = .ok (.aload_n 0, 1) := by decide +kernel
theorem d_S_firstOfStretch_16 : decode b_S_firstOfStretch 16 = .ok (.iload_n 3, 1) := by decide +kernel
theorem d_S_firstOfStretch_17 : decode b_S_firstOfStretch 17 = .ok (.iconst 1, 1) := by decide +kernel
theorem d_S_firstOfStretch_18 : decode b_S_firstOfStretch 18 = .ok (.isub, 1) := by decide +kernel
theorem d_S_firstOfStretch_19 : decode b_S_firstOfStretch 19 = .ok (.invokevirtual 34, 3) := by decide +kernel
theorem d_S_firstOfStretch_22 : decode b_S_firstOfStretch 22 = .ok (.aload_n 0, 1) := by decide +kernel
theorem d_S_firstOfStretch_23 : decode b_S_firstOfStretch 23 = .ok (.iload_n 1, 1) := by decide +kernel
theorem d_S_firstOfStretch_24 : decode b_S_firstOfStretch 24 = .ok (.invokevirtual 34, 3) := by decide +kernel
theorem d_S_firstOfStretch_27 : decode b_S_firstOfStretch 27 = .ok (.if_icmp .ne 9, 3) := by decide +kernel
theorem d_S_firstOfStretch_30 : decode b_S_firstOfStretch 30 = .ok (.iinc 3 (-1), 3) := by decide +kernel
theorem d_S_firstOfStretch_33 : decode b_S_firstOfStretch 33 = .ok (.goto (-31), 3) := by decide +kernel
theorem d_S_firstOfStretch_36 : decode b_S_firstOfStretch 36 = .ok (.iload_n 3, 1) := by decide +kernel
theorem d_S_firstOfStretch_37 : decode b_S_firstOfStretch 37 = .ok (.ireturn, 1) := by decide +kernel
theorem d_K_readBackward_0 : decode b_K_readBackward 0 = .ok (.aload_n 0, 1) := by decide +kernel
theorem d_K_readBackward_1 : decode b_K_readBackward 1 = .ok (.getfield 15, 3) := by decide +kernel
theorem d_K_readBackward_4 : decode b_K_readBackward 4 = .ok (.iconst 0, 1) := by decide +kernel
theorem d_K_readBackward_5 : decode b_K_readBackward 5 = .ok (.aload_n 0, 1) := by decide +kernel
theorem d_K_readBackward_6 : decode b_K_readBackward 6 = .ok (.getfield 39, 3) := by decide +kernel
theorem d_K_readBackward_9 : decode b_K_readBackward 9 = .ok (.invokevirtual 85, 3) := by decide +kernel
theorem d_K_readBackward_12 : decode b_K_readBackward 12 = .ok (.istore_n 1, 1) := by decide +kernel
theorem d_K_readBackward_13 : decode b_K_readBackward 13 = .ok (.iload_n 1, 1) := by decide +kernel
theorem d_K_readBackward_14 : decode b_K_readBackward 14 = .ok (.iconst (-1), 1) := by decide +kernel
theorem d_K_readBackward_15 : decode b_K_readBackward 15 = .ok (.if_icmp .ne 5, 3) := by decide +kernel
theorem d_K_readBackward_18 : decode b_K_readBackward 18 = .ok (.iconst 0, 1) := by decide +kernel
theorem d_K_readBackward_19 : decode b_K_readBackward 19 = .ok (.ireturn, 1) := by decide +kernel
theorem d_K_readBackward_20 : decode b_K_readBackward 20 = .ok (.aload_n 0, 1) := by decide +kernel
theorem d_K_readBackward_21 : decode b_K_readBackward 21 = .ok (.getfield 15, 3) := by decide +kernel
theorem d_K_readBackward_24 : decode b_K_readBackward 24 = .ok (.iload_n 1, 1) := by decide +kernel
theorem d_K_readBackward_25 : decode b_K_readBackward 25 = .ok (.bipush 8, 2) := by decide +kernel
theorem d_K_readBackward_27 : decode b_K_readBackward 27 = .ok (.invokevirtual 88, 3) := by decide +kernel
theorem d_K_readBackward_30 : decode b_K_readBackward 30 = .ok (.istore_n 2, 1) := by decide +kernel
theorem d_K_readBackward_31 : decode b_K_readBackward 31 = .ok (.aload_n 0, 1) := by decide +kernel
theorem d_K_readBackward_32 : decode b_K_readBackward 32 = .ok (.iload_n 2, 1) := by decide +kernel
theorem d_K_readBackward_33 : decode b_K_readBackward 33 = .ok (.iload_n 1, 1) := by decide +kernel
theorem d_K_readBackward_34 : decode b_K_readBackward 34 = .ok (.iconst 1, 1) := by decide +kernel
theorem d_K_readBackward_35 : decode b_K_readBackward 35 = .ok (.iadd, 1) := by decide +kernel
theorem d_K_readBackward_36 : decode b_K_readBackward 36 = .ok (.iconst 1, 1) := by decide +kernel
theorem d_K_readBackward_37 : decode b_K_readBackward 37 = .ok (.invokevirtual 77, 3) := by decide +kernel
theorem d_K_readBackward_40 : decode b_K_readBackward 40 = .ok (.istore_n 3, 1) := by decide +kernel
theorem d_K_readBackward_41 : decode b_K_readBackward 41 = .ok (.aload_n 0, 1) := by decide +kernel
theorem d_K_readBackward_42 : decode b_K_readBackward 42 = .ok (.iload_n 2, 1) := by decide +kernel
theorem d_K_readBackward_43 : decode b_K_readBackward 43 = .ok (.aload_n 0, 1) := by decide +kernel
theorem d_K_readBackward_44 : decode b_K_readBackward 44 = .ok (.iload_n 3, 1) := by decide +kernel
theorem d_K_readBackward_45 : decode b_K_readBackward 45 = .ok (.invokevirtual 81, 3) := by decide +kernel
theorem d_K_readBackward_48 : decode b_K_readBackward 48 = .ok (.isub, 1) := by decide +kernel
theorem d_K_readBackward_49 : decode b_K_readBackward 49 = .ok (.putfield 39, 3) := by decide +kernel
theorem d_K_readBackward_52 : decode b_K_readBackward 52 = .ok (.iconst 1, 1) := by decide +kernel
theorem d_K_readBackward_53 : decode b_K_readBackward 53 = .ok (.ireturn, 1) := by decide +kernel
theorem d_K_trim_0 : decode b_K_trim 0 = .ok (.aload_n 0, 1) := by decide +kernel
theorem d_K_trim_1 : decode b_K_trim 1 = .ok (.getfield 15, 3) := by decide +kernel
theorem d_K_trim_4 : decode b_K_trim 4 = .ok (.iconst 1, 1) := by decide +kernel
theorem d_K_trim_5 : decode b_K_trim 5 = .ok (.iconst 0, 1) := by decide +kernel
theorem d_K_trim_6 : decode b_K_trim 6 = .ok (.invokevirtual 70, 3) := by decide +kernel
theorem d_K_trim_9 : decode b_K_trim 9 = .ok (.istore_n 1, 1) := by decide +kernel
theorem d_K_trim_10 : decode b_K_trim 10 = .ok (.iload_n 1, 1) := by decide +kernel
theorem d_K_trim_11 : decode b_K_trim 11 = .ok (.iconst (-1), 1) := by decide +kernel
theorem d_K_trim_12 : decode b_K_trim 12 = .ok (.if_icmp .ne 5, 3) := by decide +kernel
theorem d_K_trim_15 : decode b_K_trim 15 = .ok (.iconst 0, 1) := by decide +kernel
theorem d_K_trim_16 : decode b_K_trim 16 = .ok (.ireturn, 1) := by decide +kernel
theorem d_K_trim_17 : decode b_K_trim 17 = .ok (.aload_n 0, 1) := by decide +kernel
theorem d_K_trim_18 : decode b_K_trim 18 = .ok (.getfield 15, 3) := by decide +kernel
theorem d_K_trim_21 : decode b_K_trim 21 = .ok (.iload_n 1, 1) := by decide +kernel
theorem d_K_trim_22 : decode b_K_trim 22 = .ok (.bipush 64, 2) := by decide +kernel
theorem d_K_trim_24 : decode b_K_trim 24 = .ok (.invokevirtual 74, 3) := by decide +kernel
theorem d_K_trim_27 : decode b_K_trim 27 = .ok (.iconst 1, 1) := by decide +kernel
theorem d_K_trim_28 : decode b_K_trim 28 = .ok (.isub, 1) := by decide +kernel
theorem d_K_trim_29 : decode b_K_trim 29 = .ok (.istore_n 2, 1) := by decide +kernel
theorem d_K_trim_30 : decode b_K_trim 30 = .ok (.aload_n 0, 1) := by decide +kernel
theorem d_K_trim_31 : decode b_K_trim 31 = .ok (.getfield 45, 3) := by decide +kernel
theorem d_K_trim_34 : decode b_K_trim 34 = .ok (.ifCond .eq 7, 3) := by decide +kernel
theorem d_K_trim_37 : decode b_K_trim 37 = .ok (.iload_n 2, 1) := by decide +kernel
theorem d_K_trim_38 : decode b_K_trim 38 = .ok (.goto 4, 3) := by decide +kernel
theorem d_K_trim_41 : decode b_K_trim 41 = .ok (.iload_n 1, 1) := by decide +kernel
theorem d_K_trim_42 : decode b_K_trim 42 = .ok (.istore_n 3, 1) := by decide +kernel
theorem d_K_trim_43 : decode b_K_trim 43 = .ok (.aload_n 0, 1) := by decide +kernel
theorem d_K_trim_44 : decode b_K_trim 44 = .ok (.iload_n 3, 1) := by decide +kernel
theorem d_K_trim_45 : decode b_K_trim 45 = .ok (.iload_n 3, 1) := by decide +kernel
theorem d_K_trim_46 : decode b_K_trim 46 = .ok (.iconst 1, 1) := by decide +kernel
theorem d_K_trim_47 : decode b_K_trim 47 = .ok (.iadd, 1) := by decide +kernel
theorem d_K_trim_48 : decode b_K_trim 48 = .ok (.iconst 3, 1) := by decide +kernel
theorem d_K_trim_49 : decode b_K_trim 49 = .ok (.invokevirtual 77, 3) := by decide +kernel
theorem d_K_trim_52 : decode b_K_trim 52 = .ok (.istore 4, 2) := by decide +kernel
theorem d_K_trim_54 : decode b_K_trim 54 = .ok (.iload 4, 2) := by decide +kernel
theorem d_K_trim_56 : decode b_K_trim 56 = .ok (.ifCond .ne 20, 3) := by decide +kernel
theorem d_K_trim_59 : decode b_K_trim 59 = .ok (.aload_n 0, 1) := by decide +kernel
theorem d_K_trim_60 : decode b_K_trim 60 = .ok (.getfield 45, 3) := by decide +kernel
theorem d_K_trim_63 : decode b_K_trim 63 = .ok (.ifCond .eq 13, 3) := by decide +kernel
theorem d_K_trim_66 : decode b_K_trim 66 = .ok (.aload_n 0, 1) := by decide +kernel
theorem d_K_trim_67 : decode b_K_trim 67 = .ok (.getfield 15, 3) := by decide +kernel
theorem d_K_trim_70 : decode b_K_trim 70 = .ok (.iload_n 1, 1) := by decide +kernel
theorem d_K_trim_71 : decode b_K_trim 71 = .ok (.iload_n 2, 1) := by decide +kernel
theorem d_K_trim_72 : decode b_K_trim 72 = .ok (.iconst 2, 1) := by decide +kernel
theorem d_K_trim_73 : decode b_K_trim 73 = .ok (.invokevirtual 96, 3) := by decide +kernel
theorem d_K_trim_76 : decode b_K_trim 76 = .ok (.iload_n 1, 1) := by decide +kernel
theorem d_K_trim_77 : decode b_K_trim 77 = .ok (.iload_n 2, 1) := by decide +kernel
theorem d_K_trim_78 : decode b_K_trim 78 = .ok (.if_icmp .ne 11, 3) := by decide +kernel
theorem d_K_trim_81 : decode b_K_trim 81 = .ok (.aload_n 0, 1) := by decide +kernel
theorem d_K_trim_82 : decode b_K_trim 82 = .ok (.iconst 0, 1) := by decide +kernel
theorem d_K_trim_83 : decode b_K_trim 83 = .ok (.putfield 45, 3) := by decide +kernel
theorem d_K_trim_86 : decode b_K_trim 86 = .ok (.goto 24, 3) := by decide +kernel
theorem d_K_trim_89 : decode b_K_trim 89 = .ok (.iload 4, 2) := by decide +kernel
theorem d_K_trim_91 : decode b_K_trim 91 = .ok (.ifCond .ne 19, 3) := by decide +kernel
theorem d_K_trim_94 : decode b_K_trim 94 = .ok (.aload_n 0, 1) := by decide +kernel
theorem d_K_trim_95 : decode b_K_trim 95 = .ok (.aload_n 0, 1) := by decide +kernel
theorem d_K_trim_96 : decode b_K_trim 96 = .ok (.getfield 45, 3) := by decide +kernel
theorem d_K_trim_99 : decode b_K_trim 99 = .ok (.ifCond .ne 7, 3) := by decide +kernel
theorem d_K_trim_102 : decode b_K_trim 102 = .ok (.iconst 1, 1) := by decide +kernel
theorem d_K_trim_103 : decode b_K_trim 103 = .ok (.goto 4, 3) := by decide +kernel
theorem d_K_trim_106 : decode b_K_trim 106 = .ok (.iconst 0, 1) := by decide +kernel
theorem d_K_trim_107 : decode b_K_trim 107 = .ok (.putfield 45, 3) := by decide +kernel
theorem d_K_trim_110 : decode b_K_trim 110 = .ok (.iconst 1, 1) := by decide +kernel
theorem d_K_trim_111 : decode b_K_trim 111 = .ok (.ireturn, 1) := by decide +kernel
theorem d_K_scrape_0 : decode b_K_scrape 0 = .ok (.aload_n 0, 1) := by decide +kernel
theorem d_K_scrape_1 : decode b_K_scrape 1 = .ok (.getfield 15, 3) := by decide +kernel
theorem d_K_scrape_4 : decode b_K_scrape 4 = .ok (.iconst 2, 1) := by decide +kernel
theorem d_K_scrape_5 : decode b_K_scrape 5 = .ok (.iconst 0, 1) := by decide +kernel
theorem d_K_scrape_6 : decode b_K_scrape 6 = .ok (.invokevirtual 70, 3) := by decide +kernel
theorem d_K_scrape_9 : decode b_K_scrape 9 = .ok (.istore_n 1, 1) := by decide +kernel
theorem d_K_scrape_10 : decode b_K_scrape 10 = .ok (.iload_n 1, 1) := by decide +kernel
theorem d_K_scrape_11 : decode b_K_scrape 11 = .ok (.iconst (-1), 1) := by decide +kernel
theorem d_K_scrape_12 : decode b_K_scrape 12 = .ok (.if_icmp .ne 5, 3) := by decide +kernel
theorem d_K_scrape_15 : decode b_K_scrape 15 = .ok (.iconst 0, 1) := by decide +kernel
theorem d_K_scrape_16 : decode b_K_scrape 16 = .ok (.ireturn, 1) := by decide +kernel
theorem d_K_scrape_17 : decode b_K_scrape 17 = .ok (.aload_n 0, 1) := by decide +kernel
theorem d_K_scrape_18 : decode b_K_scrape 18 = .ok (.iload_n 1, 1) := by decide +kernel
theorem d_K_scrape_19 : decode b_K_scrape 19 = .ok (.iload_n 1, 1) := by decide +kernel
theorem d_K_scrape_20 : decode b_K_scrape 20 = .ok (.iconst 1, 1) := by decide +kernel
theorem d_K_scrape_21 : decode b_K_scrape 21 = .ok (.iadd, 1) := by decide +kernel
theorem d_K_scrape_22 : decode b_K_scrape 22 = .ok (.iconst 3, 1) := by decide +kernel
theorem d_K_scrape_23 : decode b_K_scrape 23 = .ok (.invokevirtual 77, 3) := by decide +kernel
theorem d_K_scrape_26 : decode b_K_scrape 26 = .ok (.pop, 1) := by decide +kernel
theorem d_K_scrape_27 : decode b_K_scrape 27 = .ok (.iconst 1, 1) := by decide +kernel
theorem d_K_scrape_28 : decode b_K_scrape 28 = .ok (.ireturn, 1) := by decide +kernel
theorem d_K_goesUp_0 : decode b_K_goesUp 0 = .ok (.iload_n 1, 1) := by decide +kernel
theorem d_K_goesUp_1 : decode b_K_goesUp 1 = .ok (.iconst 2, 1) := by decide +kernel
theorem d_K_goesUp_2 : decode b_K_goesUp 2 = .ok (.irem, 1) := by decide +kernel
theorem d_K_goesUp_3 : decode b_K_goesUp 3 = .ok (.ifCond .ne 7, 3) := by decide +kernel
theorem d_K_goesUp_6 : decode b_K_goesUp 6 = .ok (.iconst 1, 1) := by decide +kernel
theorem d_K_goesUp_7 : decode b_K_goesUp 7 = .ok (.goto 4, 3) := by decide +kernel
theorem d_K_goesUp_10 : decode b_K_goesUp 10 = .ok (.iconst 0, 1) := by decide +kernel
theorem d_K_goesUp_11 : decode b_K_goesUp 11 = .ok (.ireturn, 1) := by decide +kernel
theorem d_K_enterRound_0 : decode b_K_enterRound 0 = .ok (.aload_n 0, 1) := by decide +kernel
theorem d_K_enterRound_1 : decode b_K_enterRound 1 = .ok (.iload_n 1, 1) := by decide +kernel
theorem d_K_enterRound_2 : decode b_K_enterRound 2 = .ok (.putfield 42, 3) := by decide +kernel
theorem d_K_enterRound_5 : decode b_K_enterRound 5 = .ok (.aload_n 0, 1) := by decide +kernel
theorem d_K_enterRound_6 : decode b_K_enterRound 6 = .ok (.aload_n 0, 1) := by decide +kernel
theorem d_K_enterRound_7 : decode b_K_enterRound 7 = .ok (.iload_n 1, 1) := by decide +kernel
theorem d_K_enterRound_8 : decode b_K_enterRound 8 = .ok (.invokevirtual 103, 3) := by decide +kernel
theorem d_K_enterRound_11 : decode b_K_enterRound 11 = .ok (.ifCond .eq 7, 3) := by decide +kernel
theorem d_K_enterRound_14 : decode b_K_enterRound 14 = .ok (.iconst 0, 1) := by decide +kernel
theorem d_K_enterRound_15 : decode b_K_enterRound 15 = .ok (.goto 10, 3) := by decide +kernel
theorem d_K_enterRound_18 : decode b_K_enterRound 18 = .ok (.aload_n 0, 1) := by decide +kernel
theorem d_K_enterRound_19 : decode b_K_enterRound 19 = .ok (.getfield 15, 3) := by decide +kernel
theorem d_K_enterRound_22 : decode b_K_enterRound 22 = .ok (.invokevirtual 33, 3) := by decide +kernel
theorem d_K_enterRound_25 : decode b_K_enterRound 25 = .ok (.putfield 39, 3) := by decide +kernel
theorem d_K_enterRound_28 : decode b_K_enterRound 28 = .ok (.return_, 1) := by decide +kernel
theorem d_K_nextBad_0 : decode b_K_nextBad 0 = .ok (.aload_n 0, 1) := by decide +kernel
theorem d_K_nextBad_1 : decode b_K_nextBad 1 = .ok (.getfield 42, 3) := by decide +kernel
theorem d_K_nextBad_4 : decode b_K_nextBad 4 = .ok (.istore_n 1, 1) := by decide +kernel
theorem d_K_nextBad_5 : decode b_K_nextBad 5 = .ok (.iload_n 1, 1) := by decide +kernel
theorem d_K_nextBad_6 : decode b_K_nextBad 6 = .ok (.aload_n 0, 1) := by decide +kernel
theorem d_K_nextBad_7 : decode b_K_nextBad 7 = .ok (.getfield 23, 3) := by decide +kernel
theorem d_K_nextBad_10 : decode b_K_nextBad 10 = .ok (.if_icmp .ge 59, 3) := by decide +kernel
theorem d_K_nextBad_13 : decode b_K_nextBad 13 = .ok (.aload_n 0, 1) := by decide +kernel
theorem d_K_nextBad_14 : decode b_K_nextBad 14 = .ok (.iload_n 1, 1) := by decide +kernel
theorem d_K_nextBad_15 : decode b_K_nextBad 15 = .ok (.invokevirtual 103, 3) := by decide +kernel
theorem d_K_nextBad_18 : decode b_K_nextBad 18 = .ok (.ifCond .eq 18, 3) := by decide +kernel
theorem d_K_nextBad_21 : decode b_K_nextBad 21 = .ok (.aload_n 0, 1) := by decide +kernel
theorem d_K_nextBad_22 : decode b_K_nextBad 22 = .ok (.getfield 15, 3) := by decide +kernel
theorem d_K_nextBad_25 : decode b_K_nextBad 25 = .ok (.iconst 3, 1) := by decide +kernel
theorem d_K_nextBad_26 : decode b_K_nextBad 26 = .ok (.aload_n 0, 1) := by decide +kernel
theorem d_K_nextBad_27 : decode b_K_nextBad 27 = .ok (.getfield 39, 3) := by decide +kernel
theorem d_K_nextBad_30 : decode b_K_nextBad 30 = .ok (.invokevirtual 70, 3) := by decide +kernel
theorem d_K_nextBad_33 : decode b_K_nextBad 33 = .ok (.goto 15, 3) := by decide +kernel
theorem d_K_nextBad_36 : decode b_K_nextBad 36 = .ok (.aload_n 0, 1) := by decide +kernel
theorem d_K_nextBad_37 : decode b_K_nextBad 37 = .ok (.getfield 15, 3) := by decide +kernel
theorem d_K_nextBad_40 : decode b_K_nextBad 40 = .ok (.iconst 3, 1) := by decide +kernel
theorem d_K_nextBad_41 : decode b_K_nextBad 41 = .ok (.aload_n 0, 1) := by decide +kernel
theorem d_K_nextBad_42 : decode b_K_nextBad 42 = .ok (.getfield 39, 3) := by decide +kernel
theorem d_K_nextBad_45 : decode b_K_nextBad 45 = .ok (.invokevirtual 85, 3) := by decide +kernel
theorem d_K_nextBad_48 : decode b_K_nextBad 48 = .ok (.istore_n 2, 1) := by decide +kernel
theorem d_K_nextBad_49 : decode b_K_nextBad 49 = .ok (.iload_n 2, 1) := by decide +kernel
theorem d_K_nextBad_50 : decode b_K_nextBad 50 = .ok (.iconst (-1), 1) := by decide +kernel
theorem d_K_nextBad_51 : decode b_K_nextBad 51 = .ok (.if_icmp .eq 5, 3) := by decide +kernel
theorem d_K_nextBad_54 : decode b_K_nextBad 54 = .ok (.iload_n 2, 1) := by decide +kernel
theorem d_K_nextBad_55 : decode b_K_nextBad 55 = .ok (.ireturn, 1) := by decide +kernel
theorem d_K_nextBad_56 : decode b_K_nextBad 56 = .ok (.aload_n 0, 1) := by decide +kernel
theorem d_K_nextBad_57 : decode b_K_nextBad 57 = .ok (.iload_n 1, 1) := by decide +kernel
theorem d_K_nextBad_58 : decode b_K_nextBad 58 = .ok (.iconst 1, 1) := by decide +kernel
theorem d_K_nextBad_59 : decode b_K_nextBad 59 = .ok (.iadd, 1) := by decide +kernel
theorem d_K_nextBad_60 : decode b_K_nextBad 60 = .ok (.invokevirtual 106, 3) := by decide +kernel
theorem d_K_nextBad_63 : decode b_K_nextBad 63 = .ok (.iinc 1 1, 3) := by decide +kernel
theorem d_K_nextBad_66 : decode b_K_nextBad 66 = .ok (.goto (-61), 3) := by decide +kernel
theorem d_K_nextBad_69 : decode b_K_nextBad 69 = .ok (.iconst (-1), 1) := by decide +kernel
theorem d_K_nextBad_70 : decode b_K_nextBad 70 = .ok (.ireturn, 1) := by decide +kernel
theorem d_K_retry_0 : decode b_K_retry 0 = .ok (.aload_n 0, 1) := by decide +kernel
theorem d_K_retry_1 : decode b_K_retry 1 = .ok (.invokevirtual 100, 3) := by decide +kernel
theorem d_K_retry_4 : decode b_K_retry 4 = .ok (.istore_n 1, 1) := by decide +kernel
theorem d_K_retry_5 : decode b_K_retry 5 = .ok (.iload_n 1, 1) := by decide +kernel
theorem d_K_retry_6 : decode b_K_retry 6 = .ok (.iconst (-1), 1) := by decide +kernel
theorem d_K_retry_7 : decode b_K_retry 7 = .ok (.if_icmp .ne 5, 3) := by decide +kernel
theorem d_K_retry_10 : decode b_K_retry 10 = .ok (.iconst 0, 1) := by decide +kernel
theorem d_K_retry_11 : decode b_K_retry 11 = .ok (.ireturn, 1) := by decide +kernel
theorem d_K_retry_12 : decode b_K_retry 12 = .ok (.aload_n 0, 1) := by decide +kernel
theorem d_K_retry_13 : decode b_K_retry 13 = .ok (.iload_n 1, 1) := by decide +kernel
theorem d_K_retry_14 : decode b_K_retry 14 = .ok (.iload_n 1, 1) := by decide +kernel
theorem d_K_retry_15 : decode b_K_retry 15 = .ok (.iconst 1, 1) := by decide +kernel
theorem d_K_retry_16 : decode b_K_retry 16 = .ok (.iadd, 1) := by decide +kernel
theorem d_K_retry_17 : decode b_K_retry 17 = .ok (.iconst 3, 1) := by decide +kernel
theorem d_K_retry_18 : decode b_K_retry 18 = .ok (.invokevirtual 77, 3) := by decide +kernel
theorem d_K_retry_21 : decode b_K_retry 21 = .ok (.pop, 1) := by decide +kernel
theorem d_K_retry_22 : decode b_K_retry 22 = .ok (.aload_n 0, 1) := by decide +kernel
theorem d_K_retry_23 : decode b_K_retry 23 = .ok (.aload_n 0, 1) := by decide +kernel
theorem d_K_retry_24 : decode b_K_retry 24 = .ok (.aload_n 0, 1) := by decide +kernel
theorem d_K_retry_25 : decode b_K_retry 25 = .ok (.getfield 42, 3) := by decide +kernel
theorem d_K_retry_28 : decode b_K_retry 28 = .ok (.invokevirtual 103, 3) := by decide +kernel
theorem d_K_retry_31 : decode b_K_retry 31 = .ok (.ifCond .eq 9, 3) := by decide +kernel
theorem d_K_retry_34 : decode b_K_retry 34 = .ok (.iload_n 1, 1) := by decide +kernel
theorem d_K_retry_35 : decode b_K_retry 35 = .ok (.iconst 1, 1) := by decide +kernel
theorem d_K_retry_36 : decode b_K_retry 36 = .ok (.iadd, 1) := by decide +kernel
theorem d_K_retry_37 : decode b_K_retry 37 = .ok (.goto 4, 3) := by decide +kernel
theorem d_K_retry_40 : decode b_K_retry 40 = .ok (.iload_n 1, 1) := by decide +kernel
theorem d_K_retry_41 : decode b_K_retry 41 = .ok (.putfield 39, 3) := by decide +kernel
theorem d_K_retry_44 : decode b_K_retry 44 = .ok (.iconst 1, 1) := by decide +kernel
theorem d_K_retry_45 : decode b_K_retry 45 = .ok (.ireturn, 1) := by decide +kernel
theorem d_K_readIn_0 : decode b_K_readIn 0 = .ok (.iload_n 1, 1) := by decide +kernel
theorem d_K_readIn_1 : decode b_K_readIn 1 = .ok (.tableswitch 71 0 5 #[39, 45, 50, 56, 61, 66], 39) := by decide +kernel
theorem d_K_readIn_40 : decode b_K_readIn 40 = .ok (.aload_n 0, 1) := by decide +kernel
theorem d_K_readIn_41 : decode b_K_readIn 41 = .ok (.iconst 1, 1) := by decide +kernel
theorem d_K_readIn_42 : decode b_K_readIn 42 = .ok (.invokevirtual 53, 3) := by decide +kernel
theorem d_K_readIn_45 : decode b_K_readIn 45 = .ok (.ireturn, 1) := by decide +kernel
theorem d_K_readIn_46 : decode b_K_readIn 46 = .ok (.aload_n 0, 1) := by decide +kernel
theorem d_K_readIn_47 : decode b_K_readIn 47 = .ok (.invokevirtual 57, 3) := by decide +kernel
theorem d_K_readIn_50 : decode b_K_readIn 50 = .ok (.ireturn, 1) := by decide +kernel
theorem d_K_readIn_51 : decode b_K_readIn 51 = .ok (.aload_n 0, 1) := by decide +kernel
theorem d_K_readIn_52 : decode b_K_readIn 52 = .ok (.iconst 0, 1) := by decide +kernel
theorem d_K_readIn_53 : decode b_K_readIn 53 = .ok (.invokevirtual 53, 3) := by decide +kernel
theorem d_K_readIn_56 : decode b_K_readIn 56 = .ok (.ireturn, 1) := by decide +kernel
theorem d_K_readIn_57 : decode b_K_readIn 57 = .ok (.aload_n 0, 1) := by decide +kernel
theorem d_K_readIn_58 : decode b_K_readIn 58 = .ok (.invokevirtual 61, 3) := by decide +kernel
theorem d_K_readIn_61 : decode b_K_readIn 61 = .ok (.ireturn, 1) := by decide +kernel
theorem d_K_readIn_62 : decode b_K_readIn 62 = .ok (.aload_n 0, 1) := by decide +kernel
theorem d_K_readIn_63 : decode b_K_readIn 63 = .ok (.invokevirtual 64, 3) := by decide +kernel
theorem d_K_readIn_66 : decode b_K_readIn 66 = .ok (.ireturn, 1) := by decide +kernel
theorem d_K_readIn_67 : decode b_K_readIn 67 = .ok (.aload_n 0, 1) := by decide +kernel
theorem d_K_readIn_68 : decode b_K_readIn 68 = .ok (.invokevirtual 67, 3) := by decide +kernel
theorem d_K_readIn_71 : decode b_K_readIn 71 = .ok (.ireturn, 1) := by decide +kernel
theorem d_K_readIn_72 : decode b_K_readIn 72 = .ok (.iconst 0, 1) := by decide +kernel
theorem d_K_readIn_73 : decode b_K_readIn 73 = .ok (.ireturn, 1) := by decide +kernel
theorem d_K_makeStep_0 : decode b_K_makeStep 0 = .ok (.aload_n 0, 1) := by decide +kernel
theorem d_K_makeStep_1 : decode b_K_makeStep 1 = .ok (.getfield 19, 3) := by decide +kernel
theorem d_K_makeStep_4 : decode b_K_makeStep 4 = .ok (.istore_n 1, 1) := by decide +kernel
theorem d_K_makeStep_5 : decode b_K_makeStep 5 = .ok (.iload_n 1, 1) := by decide +kernel
theorem d_K_makeStep_6 : decode b_K_makeStep 6 = .ok (.bipush 6, 2) := by decide +kernel
theorem d_K_makeStep_8 : decode b_K_makeStep 8 = .ok (.if_icmp .ge 26, 3) := by decide +kernel
theorem d_K_makeStep_11 : decode b_K_makeStep 11 = .ok (.aload_n 0, 1) := by decide +kernel
theorem d_K_makeStep_12 : decode b_K_makeStep 12 = .ok (.iload_n 1, 1) := by decide +kernel
theorem d_K_makeStep_13 : decode b_K_makeStep 13 = .ok (.invokevirtual 49, 3) := by decide +kernel
theorem d_K_makeStep_16 : decode b_K_makeStep 16 = .ok (.ifCond .eq 5, 3) := by decide +kernel
theorem d_K_makeStep_19 : decode b_K_makeStep 19 = .ok (.iload_n 1, 1) := by decide +kernel
theorem d_K_makeStep_20 : decode b_K_makeStep 20 = .ok (.ireturn, 1) := by decide +kernel
theorem d_K_makeStep_21 : decode b_K_makeStep 21 = .ok (.aload_n 0, 1) := by decide +kernel
theorem d_K_makeStep_22 : decode b_K_makeStep 22 = .ok (.iload_n 1, 1) := by decide +kernel
theorem d_K_makeStep_23 : decode b_K_makeStep 23 = .ok (.iconst 1, 1) := by decide +kernel
theorem d_K_makeStep_24 : decode b_K_makeStep 24 = .ok (.iadd, 1) := by decide +kernel
theorem d_K_makeStep_25 : decode b_K_makeStep 25 = .ok (.invokevirtual 26, 3) := by decide +kernel
theorem d_K_makeStep_28 : decode b_K_makeStep 28 = .ok (.iinc 1 1, 3) := by decide +kernel
theorem d_K_makeStep_31 : decode b_K_makeStep 31 = .ok (.goto (-26), 3) := by decide +kernel
theorem d_K_makeStep_34 : decode b_K_makeStep 34 = .ok (.bipush 6, 2) := by decide +kernel
theorem d_K_makeStep_36 : decode b_K_makeStep 36 = .ok (.ireturn, 1) := by decide +kernel
theorem d_D_lay_0 : decode b_D_lay 0 = .ok (.aload_n 0, 1) := by decide +kernel
theorem d_D_lay_1 : decode b_D_lay 1 = .ok (.iload_n 1, 1) := by decide +kernel
theorem d_D_lay_2 : decode b_D_lay 2 = .ok (.putfield 24, 3) := by decide +kernel
theorem d_D_lay_5 : decode b_D_lay 5 = .ok (.aload_n 0, 1) := by decide +kernel
theorem d_D_lay_6 : decode b_D_lay 6 = .ok (.iconst 0, 1) := by decide +kernel
theorem d_D_lay_7 : decode b_D_lay 7 = .ok (.putfield 28, 3) := by decide +kernel
theorem d_D_lay_10 : decode b_D_lay 10 = .ok (.aload_n 0, 1) := by decide +kernel
theorem d_D_lay_11 : decode b_D_lay 11 = .ok (.iconst 0, 1) := by decide +kernel
theorem d_D_lay_12 : decode b_D_lay 12 = .ok (.putfield 31, 3) := by decide +kernel
theorem d_D_lay_15 : decode b_D_lay 15 = .ok (.aload_n 0, 1) := by decide +kernel
theorem d_D_lay_16 : decode b_D_lay 16 = .ok (.getfield 9, 3) := by decide +kernel
theorem d_D_lay_19 : decode b_D_lay 19 = .ok (.iconst 0, 1) := by decide +kernel
theorem d_D_lay_20 : decode b_D_lay 20 = .ok (.invokestatic 34, 3) := by decide +kernel
theorem d_D_lay_23 : decode b_D_lay 23 = .ok (.aload_n 0, 1) := by decide +kernel
theorem d_D_lay_24 : decode b_D_lay 24 = .ok (.getfield 15, 3) := by decide +kernel
theorem d_D_lay_27 : decode b_D_lay 27 = .ok (.iconst 0, 1) := by decide +kernel
theorem d_D_lay_28 : decode b_D_lay 28 = .ok (.invokestatic 34, 3) := by decide +kernel
theorem d_D_lay_31 : decode b_D_lay 31 = .ok (.aload_n 0, 1) := by decide +kernel
theorem d_D_lay_32 : decode b_D_lay 32 = .ok (.getfield 18, 3) := by decide +kernel
theorem d_D_lay_35 : decode b_D_lay 35 = .ok (.iconst 0, 1) := by decide +kernel
theorem d_D_lay_36 : decode b_D_lay 36 = .ok (.invokestatic 34, 3) := by decide +kernel
theorem d_D_lay_39 : decode b_D_lay 39 = .ok (.aload_n 0, 1) := by decide +kernel
theorem d_D_lay_40 : decode b_D_lay 40 = .ok (.getfield 21, 3) := by decide +kernel
theorem d_D_lay_43 : decode b_D_lay 43 = .ok (.iconst 0, 1) := by decide +kernel
theorem d_D_lay_44 : decode b_D_lay 44 = .ok (.invokestatic 34, 3) := by decide +kernel
theorem d_D_lay_47 : decode b_D_lay 47 = .ok (.return_, 1) := by decide +kernel
theorem d_D_size_0 : decode b_D_size 0 = .ok (.aload_n 0, 1) := by decide +kernel
theorem d_D_size_1 : decode b_D_size 1 = .ok (.getfield 24, 3) := by decide +kernel
theorem d_D_size_4 : decode b_D_size 4 = .ok (.ireturn, 1) := by decide +kernel
theorem d_D_has_0 : decode b_D_has 0 = .ok (.iload_n 1, 1) := by decide +kernel
theorem d_D_has_1 : decode b_D_has 1 = .ok (.ifCond .lt 15, 3) := by decide +kernel
theorem d_D_has_4 : decode b_D_has 4 = .ok (.iload_n 1, 1) := by decide +kernel
theorem d_D_has_5 : decode b_D_has 5 = .ok (.aload_n 0, 1) := by decide +kernel
theorem d_D_has_6 : decode b_D_has 6 = .ok (.getfield 24, 3) := by decide +kernel
theorem d_D_has_9 : decode b_D_has 9 = .ok (.if_icmp .ge 7, 3) := by decide +kernel
theorem d_D_has_12 : decode b_D_has 12 = .ok (.iconst 1, 1) := by decide +kernel
theorem d_D_has_13 : decode b_D_has 13 = .ok (.goto 4, 3) := by decide +kernel
theorem d_D_has_16 : decode b_D_has 16 = .ok (.iconst 0, 1) := by decide +kernel
theorem d_D_has_17 : decode b_D_has 17 = .ok (.ireturn, 1) := by decide +kernel
theorem d_D_put_0 : decode b_D_put 0 = .ok (.aload_n 0, 1) := by decide +kernel
theorem d_D_put_1 : decode b_D_put 1 = .ok (.iload_n 1, 1) := by decide +kernel
theorem d_D_put_2 : decode b_D_put 2 = .ok (.invokevirtual 40, 3) := by decide +kernel
theorem d_D_put_5 : decode b_D_put 5 = .ok (.ifCond .eq 17, 3) := by decide +kernel
theorem d_D_put_8 : decode b_D_put 8 = .ok (.aload_n 0, 1) := by decide +kernel
theorem d_D_put_9 : decode b_D_put 9 = .ok (.getfield 9, 3) := by decide +kernel
theorem d_D_put_12 : decode b_D_put 12 = .ok (.iload_n 1, 1) := by decide +kernel
theorem d_D_put_13 : decode b_D_put 13 = .ok (.iload_n 2, 1) := by decide +kernel
theorem d_D_put_14 : decode b_D_put 14 = .ok (.iastore, 1) := by decide +kernel
theorem d_D_put_15 : decode b_D_put 15 = .ok (.aload_n 0, 1) := by decide +kernel
theorem d_D_put_16 : decode b_D_put 16 = .ok (.getfield 15, 3) := by decide +kernel
theorem d_D_put_19 : decode b_D_put 19 = .ok (.iload_n 1, 1) := by decide +kernel
theorem d_D_put_20 : decode b_D_put 20 = .ok (.iload_n 3, 1) := by decide +kernel
theorem d_D_put_21 : decode b_D_put 21 = .ok (.iastore, 1) := by decide +kernel
theorem d_D_put_22 : decode b_D_put 22 = .ok (.return_, 1) := by decide +kernel
theorem d_D_deliver_0 : decode b_D_deliver 0 = .ok (.aload_n 0, 1) := by decide +kernel
theorem d_D_deliver_1 : decode b_D_deliver 1 = .ok (.iload_n 1, 1) := by decide +kernel
theorem d_D_deliver_2 : decode b_D_deliver 2 = .ok (.invokevirtual 40, 3) := by decide +kernel
theorem d_D_deliver_5 : decode b_D_deliver 5 = .ok (.ifCond .eq 10, 3) := by decide +kernel
theorem d_D_deliver_8 : decode b_D_deliver 8 = .ok (.aload_n 0, 1) := by decide +kernel
theorem d_D_deliver_9 : decode b_D_deliver 9 = .ok (.getfield 21, 3) := by decide +kernel
theorem d_D_deliver_12 : decode b_D_deliver 12 = .ok (.iload_n 1, 1) := by decide +kernel
theorem d_D_deliver_13 : decode b_D_deliver 13 = .ok (.iload_n 2, 1) := by decide +kernel
theorem d_D_deliver_14 : decode b_D_deliver 14 = .ok (.iastore, 1) := by decide +kernel
theorem d_D_deliver_15 : decode b_D_deliver 15 = .ok (.return_, 1) := by decide +kernel
theorem d_D_wordOut_0 : decode b_D_wordOut 0 = .ok (.aload_n 0, 1) := by decide +kernel
theorem d_D_wordOut_1 : decode b_D_wordOut 1 = .ok (.iload_n 1, 1) := by decide +kernel
theorem d_D_wordOut_2 : decode b_D_wordOut 2 = .ok (.invokevirtual 40, 3) := by decide +kernel
theorem d_D_wordOut_5 : decode b_D_wordOut 5 = .ok (.ifCond .eq 12, 3) := by decide +kernel
theorem d_D_wordOut_8 : decode b_D_wordOut 8 = .ok (.aload_n 0, 1) := by decide +kernel
theorem d_D_wordOut_9 : decode b_D_wordOut 9 = .ok (.getfield 21, 3) := by decide +kernel
theorem d_D_wordOut_12 : decode b_D_wordOut 12 = .ok (.iload_n 1, 1) := by decide +kernel
theorem d_D_wordOut_13 : decode b_D_wordOut 13 = .ok (.iaload, 1) := by decide +kernel
theorem d_D_wordOut_14 : decode b_D_wordOut 14 = .ok (.goto 4, 3) := by decide +kernel
theorem d_D_wordOut_17 : decode b_D_wordOut 17 = .ok (.iconst 0, 1) := by decide +kernel
theorem d_D_wordOut_18 : decode b_D_wordOut 18 = .ok (.ireturn, 1) := by decide +kernel
theorem d_D_readsOf_0 : decode b_D_readsOf 0 = .ok (.aload_n 0, 1) := by decide +kernel
theorem d_D_readsOf_1 : decode b_D_readsOf 1 = .ok (.iload_n 1, 1) := by decide +kernel
theorem d_D_readsOf_2 : decode b_D_readsOf 2 = .ok (.invokevirtual 40, 3) := by decide +kernel
theorem d_D_readsOf_5 : decode b_D_readsOf 5 = .ok (.ifCond .eq 12, 3) := by decide +kernel
theorem d_D_readsOf_8 : decode b_D_readsOf 8 = .ok (.aload_n 0, 1) := by decide +kernel
theorem d_D_readsOf_9 : decode b_D_readsOf 9 = .ok (.getfield 18, 3) := by decide +kernel
theorem d_D_readsOf_12 : decode b_D_readsOf 12 = .ok (.iload_n 1, 1) := by decide +kernel
theorem d_D_readsOf_13 : decode b_D_readsOf 13 = .ok (.iaload, 1) := by decide +kernel
theorem d_D_readsOf_14 : decode b_D_readsOf 14 = .ok (.goto 4, 3) := by decide +kernel
theorem d_D_readsOf_17 : decode b_D_readsOf 17 = .ok (.iconst 0, 1) := by decide +kernel
theorem d_D_readsOf_18 : decode b_D_readsOf 18 = .ok (.ireturn, 1) := by decide +kernel
theorem d_D_stretchesRead_0 : decode b_D_stretchesRead 0 = .ok (.iload_n 1, 1) := by decide +kernel
theorem d_D_stretchesRead_1 : decode b_D_stretchesRead 1 = .ok (.ifCond .eq 10, 3) := by decide +kernel
theorem d_D_stretchesRead_4 : decode b_D_stretchesRead 4 = .ok (.aload_n 0, 1) := by decide +kernel
theorem d_D_stretchesRead_5 : decode b_D_stretchesRead 5 = .ok (.getfield 31, 3) := by decide +kernel
theorem d_D_stretchesRead_8 : decode b_D_stretchesRead 8 = .ok (.goto 7, 3) := by decide +kernel
theorem d_D_stretchesRead_11 : decode b_D_stretchesRead 11 = .ok (.aload_n 0, 1) := by decide +kernel
theorem d_D_stretchesRead_12 : decode b_D_stretchesRead 12 = .ok (.getfield 28, 3) := by decide +kernel
theorem d_D_stretchesRead_15 : decode b_D_stretchesRead 15 = .ok (.ireturn, 1) := by decide +kernel
theorem d_V_wipe_0 : decode b_V_wipe 0 = .ok (.aload_n 0, 1) := by decide +kernel
theorem d_V_wipe_1 : decode b_V_wipe 1 = .ok (.iconst 0, 1) := by decide +kernel
theorem d_V_wipe_2 : decode b_V_wipe 2 = .ok (.putfield 20, 3) := by decide +kernel
theorem d_V_wipe_5 : decode b_V_wipe 5 = .ok (.iconst 0, 1) := by decide +kernel
theorem d_V_wipe_6 : decode b_V_wipe 6 = .ok (.istore_n 1, 1) := by decide +kernel
theorem d_V_wipe_7 : decode b_V_wipe 7 = .ok (.iload_n 1, 1) := by decide +kernel
theorem d_V_wipe_8 : decode b_V_wipe 8 = .ok (.iconst 2, 1) := by decide +kernel
theorem d_V_wipe_9 : decode b_V_wipe 9 = .ok (.if_icmp .ge 19, 3) := by decide +kernel
theorem d_V_wipe_12 : decode b_V_wipe 12 = .ok (.aload_n 0, 1) := by decide +kernel
theorem d_V_wipe_13 : decode b_V_wipe 13 = .ok (.getfield 11, 3) := by decide +kernel
theorem d_V_wipe_16 : decode b_V_wipe 16 = .ok (.iload_n 1, 1) := by decide +kernel
theorem d_V_wipe_17 : decode b_V_wipe 17 = .ok (.aaload, 1) := by decide +kernel
theorem d_V_wipe_18 : decode b_V_wipe 18 = .ok (.iconst 0, 1) := by decide +kernel
theorem d_V_wipe_19 : decode b_V_wipe 19 = .ok (.invokestatic 24, 3) := by decide +kernel
theorem d_V_wipe_22 : decode b_V_wipe 22 = .ok (.iinc 1 1, 3) := by decide +kernel
theorem d_V_wipe_25 : decode b_V_wipe 25 = .ok (.goto (-18), 3) := by decide +kernel
theorem d_V_wipe_28 : decode b_V_wipe 28 = .ok (.return_, 1) := by decide +kernel
theorem d_V_has_0 : decode b_V_has 0 = .ok (.iload_n 1, 1) := by decide +kernel
theorem d_V_has_1 : decode b_V_has 1 = .ok (.ifCond .lt 23, 3) := by decide +kernel
theorem d_V_has_4 : decode b_V_has 4 = .ok (.iload_n 1, 1) := by decide +kernel
theorem d_V_has_5 : decode b_V_has 5 = .ok (.iconst 2, 1) := by decide +kernel
theorem d_V_has_6 : decode b_V_has 6 = .ok (.if_icmp .ge 18, 3) := by decide +kernel
theorem d_V_has_9 : decode b_V_has 9 = .ok (.iload_n 2, 1) := by decide +kernel
theorem d_V_has_10 : decode b_V_has 10 = .ok (.ifCond .lt 14, 3) := by decide +kernel
theorem d_V_has_13 : decode b_V_has 13 = .ok (.iload_n 2, 1) := by decide +kernel
theorem d_V_has_14 : decode b_V_has 14 = .ok (.sipush 140, 3) := by decide +kernel
theorem d_V_has_17 : decode b_V_has 17 = .ok (.if_icmp .ge 7, 3) := by decide +kernel
theorem d_V_has_20 : decode b_V_has 20 = .ok (.iconst 1, 1) := by decide +kernel
theorem d_V_has_21 : decode b_V_has 21 = .ok (.goto 4, 3) := by decide +kernel
theorem d_V_has_24 : decode b_V_has 24 = .ok (.iconst 0, 1) := by decide +kernel
theorem d_V_has_25 : decode b_V_has 25 = .ok (.ireturn, 1) := by decide +kernel
theorem d_V_byteAt_0 : decode b_V_byteAt 0 = .ok (.aload_n 0, 1) := by decide +kernel
theorem d_V_byteAt_1 : decode b_V_byteAt 1 = .ok (.iload_n 1, 1) := by decide +kernel
theorem d_V_byteAt_2 : decode b_V_byteAt 2 = .ok (.iload_n 2, 1) := by decide +kernel
theorem d_V_byteAt_3 : decode b_V_byteAt 3 = .ok (.invokevirtual 30, 3) := by decide +kernel
theorem d_V_byteAt_6 : decode b_V_byteAt 6 = .ok (.ifCond .eq 14, 3) := by decide +kernel
theorem d_V_byteAt_9 : decode b_V_byteAt 9 = .ok (.aload_n 0, 1) := by decide +kernel
theorem d_V_byteAt_10 : decode b_V_byteAt 10 = .ok (.getfield 11, 3) := by decide +kernel
theorem d_V_byteAt_13 : decode b_V_byteAt 13 = .ok (.iload_n 1, 1) := by decide +kernel
theorem d_V_byteAt_14 : decode b_V_byteAt 14 = .ok (.aaload, 1) := by decide +kernel
theorem d_V_byteAt_15 : decode b_V_byteAt 15 = .ok (.iload_n 2, 1) := by decide +kernel
theorem d_V_byteAt_16 : decode b_V_byteAt 16 = .ok (.iaload, 1) := by decide +kernel
theorem d_V_byteAt_17 : decode b_V_byteAt 17 = .ok (.goto 4, 3) := by decide +kernel
theorem d_V_byteAt_20 : decode b_V_byteAt 20 = .ok (.iconst (-1), 1) := by decide +kernel
theorem d_V_byteAt_21 : decode b_V_byteAt 21 = .ok (.ireturn, 1) := by decide +kernel
theorem d_V_put_0 : decode b_V_put 0 = .ok (.aload_n 0, 1) := by decide +kernel
theorem d_V_put_1 : decode b_V_put 1 = .ok (.iload_n 1, 1) := by decide +kernel
theorem d_V_put_2 : decode b_V_put 2 = .ok (.iload_n 2, 1) := by decide +kernel
theorem d_V_put_3 : decode b_V_put 3 = .ok (.invokevirtual 30, 3) := by decide +kernel
theorem d_V_put_6 : decode b_V_put 6 = .ok (.ifCond .eq 12, 3) := by decide +kernel
theorem d_V_put_9 : decode b_V_put 9 = .ok (.aload_n 0, 1) := by decide +kernel
theorem d_V_put_10 : decode b_V_put 10 = .ok (.getfield 11, 3) := by decide +kernel
theorem d_V_put_13 : decode b_V_put 13 = .ok (.iload_n 1, 1) := by decide +kernel
theorem d_V_put_14 : decode b_V_put 14 = .ok (.aaload, 1) := by decide +kernel
theorem d_V_put_15 : decode b_V_put 15 = .ok (.iload_n 2, 1) := by decide +kernel
theorem d_V_put_16 : decode b_V_put 16 = .ok (.iload_n 3, 1) := by decide +kernel
theorem d_V_put_17 : decode b_V_put 17 = .ok (.iastore, 1) := by decide +kernel
theorem d_V_put_18 : decode b_V_put 18 = .ok (.return_, 1) := by decide +kernel
theorem d_V_behindNumber_0 : decode b_V_behindNumber 0 = .ok (.iload_n 1, 1) := by decide +kernel
theorem d_V_behindNumber_1 : decode b_V_behindNumber 1 = .ok (.iconst 1, 1) := by decide +kernel
theorem d_V_behindNumber_2 : decode b_V_behindNumber 2 = .ok (.iadd, 1) := by decide +kernel
theorem d_V_behindNumber_3 : decode b_V_behindNumber 3 = .ok (.sipush 200, 3) := by decide +kernel
theorem d_V_behindNumber_6 : decode b_V_behindNumber 6 = .ok (.irem, 1) := by decide +kernel
theorem d_V_behindNumber_7 : decode b_V_behindNumber 7 = .ok (.ireturn, 1) := by decide +kernel
theorem d_S_startsRun_0 : decode b_S_startsRun 0 = .ok (.iload_n 1, 1) := by decide +kernel
theorem d_S_startsRun_1 : decode b_S_startsRun 1 = .ok (.ifCond .eq 18, 3) := by decide +kernel
theorem d_S_startsRun_4 : decode b_S_startsRun 4 = .ok (.aload_n 0, 1) := by decide +kernel
theorem d_S_startsRun_5 : decode b_S_startsRun 5 = .ok (.iload_n 1, 1) := by decide +kernel
theorem d_S_startsRun_6 : decode b_S_startsRun 6 = .ok (.invokevirtual 34, 3) := by decide +kernel
theorem d_S_startsRun_9 : decode b_S_startsRun 9 = .ok (.aload_n 0, 1) := by decide +kernel
theorem d_S_startsRun_10 : decode b_S_startsRun 10 = .ok (.iload_n 1, 1) := by decide +kernel
theorem d_S_startsRun_11 : decode b_S_startsRun 11 = .ok (.iconst 1, 1) := by decide +kernel
theorem d_S_startsRun_12 : decode b_S_startsRun 12 = .ok (.isub, 1) := by decide +kernel
theorem d_S_startsRun_13 : decode b_S_startsRun 13 = .ok (.invokevirtual 34, 3) := by decide +kernel
theorem d_S_startsRun_16 : decode b_S_startsRun 16 = .ok (.if_icmp .eq 7, 3) := by decide +kernel
theorem d_S_startsRun_19 : decode b_S_startsRun 19 = .ok (.iconst 1, 1) := by decide +kernel
theorem d_S_startsRun_20 : decode b_S_startsRun 20 = .ok (.goto 4, 3) := by decide +kernel
theorem d_S_startsRun_23 : decode b_S_startsRun 23 = .ok (.iconst 0, 1) := by decide +kernel
theorem d_S_startsRun_24 : decode b_S_startsRun 24 = .ok (.ireturn, 1) := by decide +kernel
theorem d_V_placeOfRun_0 : decode b_V_placeOfRun 0 = .ok (.iconst 2, 1) := by decide +kernel
theorem d_V_placeOfRun_1 : decode b_V_placeOfRun 1 = .ok (.iconst 2, 1) := by decide +kernel
theorem d_V_placeOfRun_2 : decode b_V_placeOfRun 2 = .ok (.iload_n 1, 1) := by decide +kernel
theorem d_V_placeOfRun_3 : decode b_V_placeOfRun 3 = .ok (.imul, 1) := by decide +kernel
theorem d_V_placeOfRun_4 : decode b_V_placeOfRun 4 = .ok (.iadd, 1) := by decide +kernel
theorem d_V_placeOfRun_5 : decode b_V_placeOfRun 5 = .ok (.ireturn, 1) := by decide +kernel
theorem d_V_sumBefore_0 : decode b_V_sumBefore 0 = .ok (.iconst 0, 1) := by decide +kernel
theorem d_V_sumBefore_1 : decode b_V_sumBefore 1 = .ok (.istore_n 3, 1) := by decide +kernel
theorem d_V_sumBefore_2 : decode b_V_sumBefore 2 = .ok (.iconst 0, 1) := by decide +kernel
theorem d_V_sumBefore_3 : decode b_V_sumBefore 3 = .ok (.istore 4, 2) := by decide +kernel
theorem d_V_sumBefore_5 : decode b_V_sumBefore 5 = .ok (.iload 4, 2) := by decide +kernel
theorem d_V_sumBefore_7 : decode b_V_sumBefore 7 = .ok (.iload_n 2, 1) := by decide +kernel
theorem d_V_sumBefore_8 : decode b_V_sumBefore 8 = .ok (.if_icmp .ge 28, 3) := by decide +kernel
theorem d_V_sumBefore_11 : decode b_V_sumBefore 11 = .ok (.iload 4, 2) := by decide +kernel
theorem d_V_sumBefore_13 : decode b_V_sumBefore 13 = .ok (.aload_n 1, 1) := by decide +kernel
theorem d_V_sumBefore_14 : decode b_V_sumBefore 14 = .ok (.arraylength, 1) := by decide +kernel
theorem d_V_sumBefore_15 : decode b_V_sumBefore 15 = .ok (.if_icmp .ge 21, 3) := by decide +kernel
theorem d_V_sumBefore_18 : decode b_V_sumBefore 18 = .ok (.iload_n 3, 1) := by decide +kernel
theorem d_V_sumBefore_19 : decode b_V_sumBefore 19 = .ok (.aload_n 1, 1) := by decide +kernel
theorem d_V_sumBefore_20 : decode b_V_sumBefore 20 = .ok (.iload 4, 2) := by decide +kernel
theorem d_V_sumBefore_22 : decode b_V_sumBefore 22 = .ok (.iaload, 1) := by decide +kernel
theorem d_V_sumBefore_23 : decode b_V_sumBefore 23 = .ok (.iload 4, 2) := by decide +kernel
theorem d_V_sumBefore_25 : decode b_V_sumBefore 25 = .ok (.iconst 1, 1) := by decide +kernel
theorem d_V_sumBefore_26 : decode b_V_sumBefore 26 = .ok (.iadd, 1) := by decide +kernel
theorem d_V_sumBefore_27 : decode b_V_sumBefore 27 = .ok (.imul, 1) := by decide +kernel
theorem d_V_sumBefore_28 : decode b_V_sumBefore 28 = .ok (.iadd, 1) := by decide +kernel
theorem d_V_sumBefore_29 : decode b_V_sumBefore 29 = .ok (.istore_n 3, 1) := by decide +kernel
theorem d_V_sumBefore_30 : decode b_V_sumBefore 30 = .ok (.iinc 4 1, 3) := by decide +kernel
theorem d_V_sumBefore_33 : decode b_V_sumBefore 33 = .ok (.goto (-28), 3) := by decide +kernel
theorem d_V_sumBefore_36 : decode b_V_sumBefore 36 = .ok (.iload_n 3, 1) := by decide +kernel
theorem d_V_sumBefore_37 : decode b_V_sumBefore 37 = .ok (.sipush 251, 3) := by decide +kernel
theorem d_V_sumBefore_40 : decode b_V_sumBefore 40 = .ok (.irem, 1) := by decide +kernel
theorem d_V_sumBefore_41 : decode b_V_sumBefore 41 = .ok (.ireturn, 1) := by decide +kernel
theorem d_V_draw_0 : decode b_V_draw 0 = .ok (.iconst 0, 1) := by decide +kernel
theorem d_V_draw_1 : decode b_V_draw 1 = .ok (.istore_n 2, 1) := by decide +kernel
theorem d_V_draw_2 : decode b_V_draw 2 = .ok (.iconst 0, 1) := by decide +kernel
theorem d_V_draw_3 : decode b_V_draw 3 = .ok (.istore_n 3, 1) := by decide +kernel
theorem d_V_draw_4 : decode b_V_draw 4 = .ok (.iload_n 3, 1) := by decide +kernel
theorem d_V_draw_5 : decode b_V_draw 5 = .ok (.aload_n 1, 1) := by decide +kernel
theorem d_V_draw_6 : decode b_V_draw 6 = .ok (.invokevirtual 52, 3) := by decide +kernel
theorem d_V_draw_9 : decode b_V_draw 9 = .ok (.if_icmp .ge 57, 3) := by decide +kernel
theorem d_V_draw_12 : decode b_V_draw 12 = .ok (.aload_n 1, 1) := by decide +kernel
theorem d_V_draw_13 : decode b_V_draw 13 = .ok (.iload_n 3, 1) := by decide +kernel
theorem d_V_draw_14 : decode b_V_draw 14 = .ok (.invokevirtual 58, 3) := by decide +kernel
theorem d_V_draw_17 : decode b_V_draw 17 = .ok (.ifCond .eq 43, 3) := by decide +kernel
theorem d_V_draw_20 : decode b_V_draw 20 = .ok (.aload_n 0, 1) := by decide +kernel
theorem d_V_draw_21 : decode b_V_draw 21 = .ok (.iload_n 2, 1) := by decide +kernel
theorem d_V_draw_22 : decode b_V_draw 22 = .ok (.invokevirtual 62, 3) := by decide +kernel
theorem d_V_draw_25 : decode b_V_draw 25 = .ok (.istore 4, 2) := by decide +kernel
theorem d_V_draw_27 : decode b_V_draw 27 = .ok (.aload_n 0, 1) := by decide +kernel
theorem d_V_draw_28 : decode b_V_draw 28 = .ok (.getfield 16, 3) := by decide +kernel
theorem d_V_draw_31 : decode b_V_draw 31 = .ok (.iload 4, 2) := by decide +kernel
theorem d_V_draw_33 : decode b_V_draw 33 = .ok (.aload_n 1, 1) := by decide +kernel
theorem d_V_draw_34 : decode b_V_draw 34 = .ok (.iload_n 3, 1) := by decide +kernel
theorem d_V_draw_35 : decode b_V_draw 35 = .ok (.bipush 64, 2) := by decide +kernel
theorem d_V_draw_37 : decode b_V_draw 37 = .ok (.invokevirtual 65, 3) := by decide +kernel
theorem d_V_draw_40 : decode b_V_draw 40 = .ok (.iload_n 3, 1) := by decide +kernel
theorem d_V_draw_41 : decode b_V_draw 41 = .ok (.isub, 1) := by decide +kernel
theorem d_V_draw_42 : decode b_V_draw 42 = .ok (.iastore, 1) := by decide +kernel
theorem d_V_draw_43 : decode b_V_draw 43 = .ok (.aload_n 0, 1) := by decide +kernel
theorem d_V_draw_44 : decode b_V_draw 44 = .ok (.getfield 16, 3) := by decide +kernel
theorem d_V_draw_47 : decode b_V_draw 47 = .ok (.iload 4, 2) := by decide +kernel
theorem d_V_draw_49 : decode b_V_draw 49 = .ok (.iconst 1, 1) := by decide +kernel
theorem d_V_draw_50 : decode b_V_draw 50 = .ok (.iadd, 1) := by decide +kernel
theorem d_V_draw_51 : decode b_V_draw 51 = .ok (.aload_n 1, 1) := by decide +kernel
theorem d_V_draw_52 : decode b_V_draw 52 = .ok (.iload_n 3, 1) := by decide +kernel
theorem d_V_draw_53 : decode b_V_draw 53 = .ok (.invokevirtual 68, 3) := by decide +kernel
theorem d_V_draw_56 : decode b_V_draw 56 = .ok (.iastore, 1) := by decide +kernel
theorem d_V_draw_57 : decode b_V_draw 57 = .ok (.iinc 2 1, 3) := by decide +kernel
theorem d_V_draw_60 : decode b_V_draw 60 = .ok (.iinc 3 1, 3) := by decide +kernel
theorem d_V_draw_63 : decode b_V_draw 63 = .ok (.goto (-59), 3) := by decide +kernel
theorem d_V_draw_66 : decode b_V_draw 66 = .ok (.aload_n 0, 1) := by decide +kernel
theorem d_V_draw_67 : decode b_V_draw 67 = .ok (.getfield 16, 3) := by decide +kernel
theorem d_V_draw_70 : decode b_V_draw 70 = .ok (.iconst 0, 1) := by decide +kernel
theorem d_V_draw_71 : decode b_V_draw 71 = .ok (.aload_n 0, 1) := by decide +kernel
theorem d_V_draw_72 : decode b_V_draw 72 = .ok (.getfield 20, 3) := by decide +kernel
theorem d_V_draw_75 : decode b_V_draw 75 = .ok (.iastore, 1) := by decide +kernel
theorem d_V_draw_76 : decode b_V_draw 76 = .ok (.aload_n 0, 1) := by decide +kernel
theorem d_V_draw_77 : decode b_V_draw 77 = .ok (.getfield 16, 3) := by decide +kernel
theorem d_V_draw_80 : decode b_V_draw 80 = .ok (.iconst 1, 1) := by decide +kernel
theorem d_V_draw_81 : decode b_V_draw 81 = .ok (.iload_n 2, 1) := by decide +kernel
theorem d_V_draw_82 : decode b_V_draw 82 = .ok (.iastore, 1) := by decide +kernel
theorem d_V_draw_83 : decode b_V_draw 83 = .ok (.aload_n 0, 1) := by decide +kernel
theorem d_V_draw_84 : decode b_V_draw 84 = .ok (.iload_n 2, 1) := by decide +kernel
theorem d_V_draw_85 : decode b_V_draw 85 = .ok (.invokevirtual 62, 3) := by decide +kernel
theorem d_V_draw_88 : decode b_V_draw 88 = .ok (.istore_n 3, 1) := by decide +kernel
theorem d_V_draw_89 : decode b_V_draw 89 = .ok (.aload_n 0, 1) := by decide +kernel
theorem d_V_draw_90 : decode b_V_draw 90 = .ok (.getfield 16, 3) := by decide +kernel
theorem d_V_draw_93 : decode b_V_draw 93 = .ok (.iload_n 3, 1) := by decide +kernel
theorem d_V_draw_94 : decode b_V_draw 94 = .ok (.aload_n 0, 1) := by decide +kernel
theorem d_V_draw_95 : decode b_V_draw 95 = .ok (.aload_n 0, 1) := by decide +kernel
theorem d_V_draw_96 : decode b_V_draw 96 = .ok (.getfield 16, 3) := by decide +kernel
theorem d_V_draw_99 : decode b_V_draw 99 = .ok (.iload_n 3, 1) := by decide +kernel
theorem d_V_draw_100 : decode b_V_draw 100 = .ok (.invokevirtual 71, 3) := by decide +kernel
theorem d_V_draw_103 : decode b_V_draw 103 = .ok (.iastore, 1) := by decide +kernel
theorem d_V_draw_104 : decode b_V_draw 104 = .ok (.iload_n 3, 1) := by decide +kernel
theorem d_V_draw_105 : decode b_V_draw 105 = .ok (.iconst 1, 1) := by decide +kernel
theorem d_V_draw_106 : decode b_V_draw 106 = .ok (.iadd, 1) := by decide +kernel
theorem d_V_draw_107 : decode b_V_draw 107 = .ok (.ireturn, 1) := by decide +kernel
theorem d_V_write_0 : decode b_V_write 0 = .ok (.aload_n 0, 1) := by decide +kernel
theorem d_V_write_1 : decode b_V_write 1 = .ok (.aload_n 0, 1) := by decide +kernel
theorem d_V_write_2 : decode b_V_write 2 = .ok (.aload_n 0, 1) := by decide +kernel
theorem d_V_write_3 : decode b_V_write 3 = .ok (.getfield 20, 3) := by decide +kernel
theorem d_V_write_6 : decode b_V_write 6 = .ok (.invokevirtual 34, 3) := by decide +kernel
theorem d_V_write_9 : decode b_V_write 9 = .ok (.putfield 20, 3) := by decide +kernel
theorem d_V_write_12 : decode b_V_write 12 = .ok (.iload_n 2, 1) := by decide +kernel
theorem d_V_write_13 : decode b_V_write 13 = .ok (.aload_n 0, 1) := by decide +kernel
theorem d_V_write_14 : decode b_V_write 14 = .ok (.aload_n 1, 1) := by decide +kernel
theorem d_V_write_15 : decode b_V_write 15 = .ok (.invokevirtual 38, 3) := by decide +kernel
theorem d_V_write_18 : decode b_V_write 18 = .ok (.invokestatic 42, 3) := by decide +kernel
theorem d_V_write_21 : decode b_V_write 21 = .ok (.istore_n 3, 1) := by decide +kernel
theorem d_V_write_22 : decode b_V_write 22 = .ok (.iconst 0, 1) := by decide +kernel
theorem d_V_write_23 : decode b_V_write 23 = .ok (.istore 4, 2) := by decide +kernel
theorem d_V_write_25 : decode b_V_write 25 = .ok (.iload 4, 2) := by decide +kernel
theorem d_V_write_27 : decode b_V_write 27 = .ok (.iload_n 3, 1) := by decide +kernel
theorem d_V_write_28 : decode b_V_write 28 = .ok (.if_icmp .ge 28, 3) := by decide +kernel
theorem d_V_write_31 : decode b_V_write 31 = .ok (.aload_n 0, 1) := by decide +kernel
theorem d_V_write_32 : decode b_V_write 32 = .ok (.aload_n 0, 1) := by decide +kernel
theorem d_V_write_33 : decode b_V_write 33 = .ok (.getfield 20, 3) := by decide +kernel
theorem d_V_write_36 : decode b_V_write 36 = .ok (.iconst 2, 1) := by decide +kernel
theorem d_V_write_37 : decode b_V_write 37 = .ok (.irem, 1) := by decide +kernel
theorem d_V_write_38 : decode b_V_write 38 = .ok (.iload 4, 2) := by decide +kernel
theorem d_V_write_40 : decode b_V_write 40 = .ok (.aload_n 0, 1) := by decide +kernel
theorem d_V_write_41 : decode b_V_write 41 = .ok (.getfield 16, 3) := by decide +kernel
theorem d_V_write_44 : decode b_V_write 44 = .ok (.iload 4, 2) := by decide +kernel
theorem d_V_write_46 : decode b_V_write 46 = .ok (.iaload, 1) := by decide +kernel
theorem d_V_write_47 : decode b_V_write 47 = .ok (.invokevirtual 48, 3) := by decide +kernel
theorem d_V_write_50 : decode b_V_write 50 = .ok (.iinc 4 1, 3) := by decide +kernel
theorem d_V_write_53 : decode b_V_write 53 = .ok (.goto (-28), 3) := by decide +kernel
theorem d_V_write_56 : decode b_V_write 56 = .ok (.aload_n 0, 1) := by decide +kernel
theorem d_V_write_57 : decode b_V_write 57 = .ok (.getfield 20, 3) := by decide +kernel
theorem d_V_write_60 : decode b_V_write 60 = .ok (.ireturn, 1) := by decide +kernel
theorem d_V_hasRuns_0 : decode b_V_hasRuns 0 = .ok (.iconst 0, 1) := by decide +kernel
theorem d_V_hasRuns_1 : decode b_V_hasRuns 1 = .ok (.istore 4, 2) := by decide +kernel
theorem d_V_hasRuns_3 : decode b_V_hasRuns 3 = .ok (.iconst (-1), 1) := by decide +kernel
theorem d_V_hasRuns_4 : decode b_V_hasRuns 4 = .ok (.istore 5, 2) := by decide +kernel
theorem d_V_hasRuns_6 : decode b_V_hasRuns 6 = .ok (.iconst 0, 1) := by decide +kernel
theorem d_V_hasRuns_7 : decode b_V_hasRuns 7 = .ok (.istore 6, 2) := by decide +kernel
theorem d_V_hasRuns_9 : decode b_V_hasRuns 9 = .ok (.iload 6, 2) := by decide +kernel
theorem d_V_hasRuns_11 : decode b_V_hasRuns 11 = .ok (.iload_n 2, 1) := by decide +kernel
theorem d_V_hasRuns_12 : decode b_V_hasRuns 12 = .ok (.if_icmp .ge 68, 3) := by decide +kernel
theorem d_V_hasRuns_15 : decode b_V_hasRuns 15 = .ok (.aload_n 0, 1) := by decide +kernel
theorem d_V_hasRuns_16 : decode b_V_hasRuns 16 = .ok (.iload_n 1, 1) := by decide +kernel
theorem d_V_hasRuns_17 : decode b_V_hasRuns 17 = .ok (.aload_n 0, 1) := by decide +kernel
theorem d_V_hasRuns_18 : decode b_V_hasRuns 18 = .ok (.iload 6, 2) := by decide +kernel
theorem d_V_hasRuns_20 : decode b_V_hasRuns 20 = .ok (.invokevirtual 62, 3) := by decide +kernel
theorem d_V_hasRuns_23 : decode b_V_hasRuns 23 = .ok (.invokevirtual 78, 3) := by decide +kernel
theorem d_V_hasRuns_26 : decode b_V_hasRuns 26 = .ok (.istore 7, 2) := by decide +kernel
theorem d_V_hasRuns_28 : decode b_V_hasRuns 28 = .ok (.aload_n 0, 1) := by decide +kernel
theorem d_V_hasRuns_29 : decode b_V_hasRuns 29 = .ok (.iload_n 1, 1) := by decide +kernel
theorem d_V_hasRuns_30 : decode b_V_hasRuns 30 = .ok (.aload_n 0, 1) := by decide +kernel
theorem d_V_hasRuns_31 : decode b_V_hasRuns 31 = .ok (.iload 6, 2) := by decide +kernel
theorem d_V_hasRuns_33 : decode b_V_hasRuns 33 = .ok (.invokevirtual 62, 3) := by decide +kernel
theorem d_V_hasRuns_36 : decode b_V_hasRuns 36 = .ok (.iconst 1, 1) := by decide +kernel
theorem d_V_hasRuns_37 : decode b_V_hasRuns 37 = .ok (.iadd, 1) := by decide +kernel
theorem d_V_hasRuns_38 : decode b_V_hasRuns 38 = .ok (.invokevirtual 78, 3) := by decide +kernel
theorem d_V_hasRuns_41 : decode b_V_hasRuns 41 = .ok (.istore 8, 2) := by decide +kernel
theorem d_V_hasRuns_43 : decode b_V_hasRuns 43 = .ok (.iload 7, 2) := by decide +kernel
theorem d_V_hasRuns_45 : decode b_V_hasRuns 45 = .ok (.ifCond .eq 16, 3) := by decide +kernel
theorem d_V_hasRuns_48 : decode b_V_hasRuns 48 = .ok (.iload 8, 2) := by decide +kernel
theorem d_V_hasRuns_50 : decode b_V_hasRuns 50 = .ok (.iconst 4, 1) := by decide +kernel
theorem d_V_hasRuns_51 : decode b_V_hasRuns 51 = .ok (.if_icmp .gt 10, 3) := by decide +kernel
theorem d_V_hasRuns_54 : decode b_V_hasRuns 54 = .ok (.iload 8, 2) := by decide +kernel
theorem d_V_hasRuns_56 : decode b_V_hasRuns 56 = .ok (.iload 5, 2) := by decide +kernel
theorem d_V_hasRuns_58 : decode b_V_hasRuns 58 = .ok (.if_icmp .ne 5, 3) := by decide +kernel
theorem d_V_hasRuns_61 : decode b_V_hasRuns 61 = .ok (.iconst 0, 1) := by decide +kernel
theorem d_V_hasRuns_62 : decode b_V_hasRuns 62 = .ok (.ireturn, 1) := by decide +kernel
theorem d_V_hasRuns_63 : decode b_V_hasRuns 63 = .ok (.iload 4, 2) := by decide +kernel
theorem d_V_hasRuns_65 : decode b_V_hasRuns 65 = .ok (.iload 7, 2) := by decide +kernel
theorem d_V_hasRuns_67 : decode b_V_hasRuns 67 = .ok (.iadd, 1) := by decide +kernel
theorem d_V_hasRuns_68 : decode b_V_hasRuns 68 = .ok (.istore 4, 2) := by decide +kernel
theorem d_V_hasRuns_70 : decode b_V_hasRuns 70 = .ok (.iload 8, 2) := by decide +kernel
theorem d_V_hasRuns_72 : decode b_V_hasRuns 72 = .ok (.istore 5, 2) := by decide +kernel
theorem d_V_hasRuns_74 : decode b_V_hasRuns 74 = .ok (.iinc 6 1, 3) := by decide +kernel
theorem d_V_hasRuns_77 : decode b_V_hasRuns 77 = .ok (.goto (-68), 3) := by decide +kernel
theorem d_V_hasRuns_80 : decode b_V_hasRuns 80 = .ok (.iload 4, 2) := by decide +kernel
theorem d_V_hasRuns_82 : decode b_V_hasRuns 82 = .ok (.iload_n 3, 1) := by decide +kernel
theorem d_V_hasRuns_83 : decode b_V_hasRuns 83 = .ok (.if_icmp .ne 7, 3) := by decide +kernel
theorem d_V_hasRuns_86 : decode b_V_hasRuns 86 = .ok (.iconst 1, 1) := by decide +kernel
theorem d_V_hasRuns_87 : decode b_V_hasRuns 87 = .ok (.goto 4, 3) := by decide +kernel
theorem d_V_hasRuns_90 : decode b_V_hasRuns 90 = .ok (.iconst 0, 1) := by decide +kernel
theorem d_V_hasRuns_91 : decode b_V_hasRuns 91 = .ok (.ireturn, 1) := by decide +kernel
theorem d_V_isWhole_0 : decode b_V_isWhole 0 = .ok (.aload_n 0, 1) := by decide +kernel
theorem d_V_isWhole_1 : decode b_V_isWhole 1 = .ok (.iload_n 1, 1) := by decide +kernel
theorem d_V_isWhole_2 : decode b_V_isWhole 2 = .ok (.iconst 1, 1) := by decide +kernel
theorem d_V_isWhole_3 : decode b_V_isWhole 3 = .ok (.invokevirtual 78, 3) := by decide +kernel
theorem d_V_isWhole_6 : decode b_V_isWhole 6 = .ok (.istore_n 3, 1) := by decide +kernel
theorem d_V_isWhole_7 : decode b_V_isWhole 7 = .ok (.aload_n 0, 1) := by decide +kernel
theorem d_V_isWhole_8 : decode b_V_isWhole 8 = .ok (.iload_n 1, 1) := by decide +kernel
theorem d_V_isWhole_9 : decode b_V_isWhole 9 = .ok (.iconst 0, 1) := by decide +kernel
theorem d_V_isWhole_10 : decode b_V_isWhole 10 = .ok (.invokevirtual 78, 3) := by decide +kernel
theorem d_V_isWhole_13 : decode b_V_isWhole 13 = .ok (.sipush 200, 3) := by decide +kernel
theorem d_V_isWhole_16 : decode b_V_isWhole 16 = .ok (.if_icmp .ge 8, 3) := by decide +kernel
theorem d_V_isWhole_19 : decode b_V_isWhole 19 = .ok (.iload_n 3, 1) := by decide +kernel
theorem d_V_isWhole_20 : decode b_V_isWhole 20 = .ok (.iload_n 2, 1) := by decide +kernel
theorem d_V_isWhole_21 : decode b_V_isWhole 21 = .ok (.if_icmp .le 5, 3) := by decide +kernel
theorem d_V_isWhole_24 : decode b_V_isWhole 24 = .ok (.iconst 0, 1) := by decide +kernel
theorem d_V_isWhole_25 : decode b_V_isWhole 25 = .ok (.ireturn, 1) := by decide +kernel
theorem d_V_isWhole_26 : decode b_V_isWhole 26 = .ok (.aload_n 0, 1) := by decide +kernel
theorem d_V_isWhole_27 : decode b_V_isWhole 27 = .ok (.iload_n 3, 1) := by decide +kernel
theorem d_V_isWhole_28 : decode b_V_isWhole 28 = .ok (.invokevirtual 62, 3) := by decide +kernel
theorem d_V_isWhole_31 : decode b_V_isWhole 31 = .ok (.istore 4, 2) := by decide +kernel
theorem d_V_isWhole_33 : decode b_V_isWhole 33 = .ok (.aload_n 0, 1) := by decide +kernel
theorem d_V_isWhole_34 : decode b_V_isWhole 34 = .ok (.iload_n 1, 1) := by decide +kernel
theorem d_V_isWhole_35 : decode b_V_isWhole 35 = .ok (.iload_n 3, 1) := by decide +kernel
theorem d_V_isWhole_36 : decode b_V_isWhole 36 = .ok (.iload_n 2, 1) := by decide +kernel
theorem d_V_isWhole_37 : decode b_V_isWhole 37 = .ok (.invokevirtual 81, 3) := by decide +kernel
theorem d_V_isWhole_40 : decode b_V_isWhole 40 = .ok (.ifCond .eq 29, 3) := by decide +kernel
theorem d_V_isWhole_43 : decode b_V_isWhole 43 = .ok (.aload_n 0, 1) := by decide +kernel
theorem d_V_isWhole_44 : decode b_V_isWhole 44 = .ok (.iload_n 1, 1) := by decide +kernel
theorem d_V_isWhole_45 : decode b_V_isWhole 45 = .ok (.iload 4, 2) := by decide +kernel
theorem d_V_isWhole_47 : decode b_V_isWhole 47 = .ok (.invokevirtual 78, 3) := by decide +kernel
theorem d_V_isWhole_50 : decode b_V_isWhole 50 = .ok (.aload_n 0, 1) := by decide +kernel
theorem d_V_isWhole_51 : decode b_V_isWhole 51 = .ok (.aload_n 0, 1) := by decide +kernel
theorem d_V_isWhole_52 : decode b_V_isWhole 52 = .ok (.getfield 11, 3) := by decide +kernel
theorem d_V_isWhole_55 : decode b_V_isWhole 55 = .ok (.iload_n 1, 1) := by decide +kernel
theorem d_V_isWhole_56 : decode b_V_isWhole 56 = .ok (.aaload, 1) := by decide +kernel
theorem d_V_isWhole_57 : decode b_V_isWhole 57 = .ok (.iload 4, 2) := by decide +kernel
theorem d_V_isWhole_59 : decode b_V_isWhole 59 = .ok (.invokevirtual 71, 3) := by decide +kernel
theorem d_V_isWhole_62 : decode b_V_isWhole 62 = .ok (.if_icmp .ne 7, 3) := by decide +kernel
theorem d_V_isWhole_65 : decode b_V_isWhole 65 = .ok (.iconst 1, 1) := by decide +kernel
theorem d_V_isWhole_66 : decode b_V_isWhole 66 = .ok (.goto 4, 3) := by decide +kernel
theorem d_V_isWhole_69 : decode b_V_isWhole 69 = .ok (.iconst 0, 1) := by decide +kernel
theorem d_V_isWhole_70 : decode b_V_isWhole 70 = .ok (.ireturn, 1) := by decide +kernel
theorem d_V_newestWhole_0 : decode b_V_newestWhole 0 = .ok (.aload_n 0, 1) := by decide +kernel
theorem d_V_newestWhole_1 : decode b_V_newestWhole 1 = .ok (.iconst 0, 1) := by decide +kernel
theorem d_V_newestWhole_2 : decode b_V_newestWhole 2 = .ok (.iload_n 1, 1) := by decide +kernel
theorem d_V_newestWhole_3 : decode b_V_newestWhole 3 = .ok (.invokevirtual 75, 3) := by decide +kernel
theorem d_V_newestWhole_6 : decode b_V_newestWhole 6 = .ok (.istore_n 2, 1) := by decide +kernel
theorem d_V_newestWhole_7 : decode b_V_newestWhole 7 = .ok (.aload_n 0, 1) := by decide +kernel
theorem d_V_newestWhole_8 : decode b_V_newestWhole 8 = .ok (.iconst 1, 1) := by decide +kernel
theorem d_V_newestWhole_9 : decode b_V_newestWhole 9 = .ok (.iload_n 1, 1) := by decide +kernel
theorem d_V_newestWhole_10 : decode b_V_newestWhole 10 = .ok (.invokevirtual 75, 3) := by decide +kernel
theorem d_V_newestWhole_13 : decode b_V_newestWhole 13 = .ok (.istore_n 3, 1) := by decide +kernel
theorem d_V_newestWhole_14 : decode b_V_newestWhole 14 = .ok (.iload_n 2, 1) := by decide +kernel
theorem d_V_newestWhole_15 : decode b_V_newestWhole 15 = .ok (.ifCond .eq 32, 3) := by decide +kernel
theorem d_V_newestWhole_18 : decode b_V_newestWhole 18 = .ok (.iload_n 3, 1) := by decide +kernel
theorem d_V_newestWhole_19 : decode b_V_newestWhole 19 = .ok (.ifCond .eq 28, 3) := by decide +kernel
theorem d_V_newestWhole_22 : decode b_V_newestWhole 22 = .ok (.aload_n 0, 1) := by decide +kernel
theorem d_V_newestWhole_23 : decode b_V_newestWhole 23 = .ok (.iconst 1, 1) := by decide +kernel
theorem d_V_newestWhole_24 : decode b_V_newestWhole 24 = .ok (.iconst 0, 1) := by decide +kernel
theorem d_V_newestWhole_25 : decode b_V_newestWhole 25 = .ok (.invokevirtual 78, 3) := by decide +kernel
theorem d_V_newestWhole_28 : decode b_V_newestWhole 28 = .ok (.aload_n 0, 1) := by decide +kernel
theorem d_V_newestWhole_29 : decode b_V_newestWhole 29 = .ok (.aload_n 0, 1) := by decide +kernel
theorem d_V_newestWhole_30 : decode b_V_newestWhole 30 = .ok (.iconst 0, 1) := by decide +kernel
theorem d_V_newestWhole_31 : decode b_V_newestWhole 31 = .ok (.iconst 0, 1) := by decide +kernel
theorem d_V_newestWhole_32 : decode b_V_newestWhole 32 = .ok (.invokevirtual 78, 3) := by decide +kernel
theorem d_V_newestWhole_35 : decode b_V_newestWhole 35 = .ok (.invokevirtual 34, 3) := by decide +kernel
theorem d_V_newestWhole_38 : decode b_V_newestWhole 38 = .ok (.if_icmp .ne 7, 3) := by decide +kernel
theorem d_V_newestWhole_41 : decode b_V_newestWhole 41 = .ok (.iconst 1, 1) := by decide +kernel
theorem d_V_newestWhole_42 : decode b_V_newestWhole 42 = .ok (.goto 4, 3) := by decide +kernel
theorem d_V_newestWhole_45 : decode b_V_newestWhole 45 = .ok (.iconst 0, 1) := by decide +kernel
theorem d_V_newestWhole_46 : decode b_V_newestWhole 46 = .ok (.ireturn, 1) := by decide +kernel
theorem d_V_newestWhole_47 : decode b_V_newestWhole 47 = .ok (.iload_n 2, 1) := by decide +kernel
theorem d_V_newestWhole_48 : decode b_V_newestWhole 48 = .ok (.ifCond .eq 5, 3) := by decide +kernel
theorem d_V_newestWhole_51 : decode b_V_newestWhole 51 = .ok (.iconst 0, 1) := by decide +kernel
theorem d_V_newestWhole_52 : decode b_V_newestWhole 52 = .ok (.ireturn, 1) := by decide +kernel
theorem d_V_newestWhole_53 : decode b_V_newestWhole 53 = .ok (.iload_n 3, 1) := by decide +kernel
theorem d_V_newestWhole_54 : decode b_V_newestWhole 54 = .ok (.ifCond .eq 7, 3) := by decide +kernel
theorem d_V_newestWhole_57 : decode b_V_newestWhole 57 = .ok (.iconst 1, 1) := by decide +kernel
theorem d_V_newestWhole_58 : decode b_V_newestWhole 58 = .ok (.goto 4, 3) := by decide +kernel
theorem d_V_newestWhole_61 : decode b_V_newestWhole 61 = .ok (.iconst (-1), 1) := by decide +kernel
theorem d_V_newestWhole_62 : decode b_V_newestWhole 62 = .ok (.ireturn, 1) := by decide +kernel
theorem d_V_load_0 : decode b_V_load 0 = .ok (.iload_n 1, 1) := by decide +kernel
theorem d_V_load_1 : decode b_V_load 1 = .ok (.iconst (-1), 1) := by decide +kernel
theorem d_V_load_2 : decode b_V_load 2 = .ok (.if_icmp .ne 9, 3) := by decide +kernel
theorem d_V_load_5 : decode b_V_load 5 = .ok (.aload_n 0, 1) := by decide +kernel
theorem d_V_load_6 : decode b_V_load 6 = .ok (.iconst 0, 1) := by decide +kernel
theorem d_V_load_7 : decode b_V_load 7 = .ok (.putfield 20, 3) := by decide +kernel
theorem d_V_load_10 : decode b_V_load 10 = .ok (.return_, 1) := by decide +kernel
theorem d_V_load_11 : decode b_V_load 11 = .ok (.aload_n 0, 1) := by decide +kernel
theorem d_V_load_12 : decode b_V_load 12 = .ok (.aload_n 0, 1) := by decide +kernel
theorem d_V_load_13 : decode b_V_load 13 = .ok (.iload_n 1, 1) := by decide +kernel
theorem d_V_load_14 : decode b_V_load 14 = .ok (.iconst 0, 1) := by decide +kernel
theorem d_V_load_15 : decode b_V_load 15 = .ok (.invokevirtual 78, 3) := by decide +kernel
theorem d_V_load_18 : decode b_V_load 18 = .ok (.putfield 20, 3) := by decide +kernel
theorem d_V_load_21 : decode b_V_load 21 = .ok (.iconst 0, 1) := by decide +kernel
theorem d_V_load_22 : decode b_V_load 22 = .ok (.istore_n 3, 1) := by decide +kernel
theorem d_V_load_23 : decode b_V_load 23 = .ok (.iconst 0, 1) := by decide +kernel
theorem d_V_load_24 : decode b_V_load 24 = .ok (.istore 4, 2) := by decide +kernel
theorem d_V_load_26 : decode b_V_load 26 = .ok (.iload 4, 2) := by decide +kernel
theorem d_V_load_28 : decode b_V_load 28 = .ok (.aload_n 0, 1) := by decide +kernel
theorem d_V_load_29 : decode b_V_load 29 = .ok (.iload_n 1, 1) := by decide +kernel
theorem d_V_load_30 : decode b_V_load 30 = .ok (.iconst 1, 1) := by decide +kernel
theorem d_V_load_31 : decode b_V_load 31 = .ok (.invokevirtual 78, 3) := by decide +kernel
theorem d_V_load_34 : decode b_V_load 34 = .ok (.if_icmp .ge 47, 3) := by decide +kernel
theorem d_V_load_37 : decode b_V_load 37 = .ok (.iload_n 3, 1) := by decide +kernel
theorem d_V_load_38 : decode b_V_load 38 = .ok (.aload_n 0, 1) := by decide +kernel
theorem d_V_load_39 : decode b_V_load 39 = .ok (.iload_n 1, 1) := by decide +kernel
theorem d_V_load_40 : decode b_V_load 40 = .ok (.aload_n 0, 1) := by decide +kernel
theorem d_V_load_41 : decode b_V_load 41 = .ok (.iload 4, 2) := by decide +kernel
theorem d_V_load_43 : decode b_V_load 43 = .ok (.invokevirtual 62, 3) := by decide +kernel
theorem d_V_load_46 : decode b_V_load 46 = .ok (.invokevirtual 78, 3) := by decide +kernel
theorem d_V_load_49 : decode b_V_load 49 = .ok (.iadd, 1) := by decide +kernel
theorem d_V_load_50 : decode b_V_load 50 = .ok (.istore 5, 2) := by decide +kernel
theorem d_V_load_52 : decode b_V_load 52 = .ok (.aload_n 2, 1) := by decide +kernel
theorem d_V_load_53 : decode b_V_load 53 = .ok (.iload_n 3, 1) := by decide +kernel
theorem d_V_load_54 : decode b_V_load 54 = .ok (.iload 5, 2) := by decide +kernel
theorem d_V_load_56 : decode b_V_load 56 = .ok (.aload_n 0, 1) := by decide +kernel
theorem d_V_load_57 : decode b_V_load 57 = .ok (.iload_n 1, 1) := by decide +kernel
theorem d_V_load_58 : decode b_V_load 58 = .ok (.aload_n 0, 1) := by decide +kernel
theorem d_V_load_59 : decode b_V_load 59 = .ok (.iload 4, 2) := by decide +kernel
theorem d_V_load_61 : decode b_V_load 61 = .ok (.invokevirtual 62, 3) := by decide +kernel
theorem d_V_load_64 : decode b_V_load 64 = .ok (.iconst 1, 1) := by decide +kernel
theorem d_V_load_65 : decode b_V_load 65 = .ok (.iadd, 1) := by decide +kernel
theorem d_V_load_66 : decode b_V_load 66 = .ok (.invokevirtual 78, 3) := by decide +kernel
theorem d_V_load_69 : decode b_V_load 69 = .ok (.invokevirtual 85, 3) := by decide +kernel
theorem d_V_load_72 : decode b_V_load 72 = .ok (.iload 5, 2) := by decide +kernel
theorem d_V_load_74 : decode b_V_load 74 = .ok (.istore_n 3, 1) := by decide +kernel
theorem d_V_load_75 : decode b_V_load 75 = .ok (.iinc 4 1, 3) := by decide +kernel
theorem d_V_load_78 : decode b_V_load 78 = .ok (.goto (-52), 3) := by decide +kernel
theorem d_V_load_81 : decode b_V_load 81 = .ok (.return_, 1) := by decide +kernel
theorem d_S_clear_0 : decode b_S_clear 0 = .ok (.aload_n 0, 1) := by decide +kernel
theorem d_S_clear_1 : decode b_S_clear 1 = .ok (.iconst 0, 1) := by decide +kernel
theorem d_S_clear_2 : decode b_S_clear 2 = .ok (.iload_n 1, 1) := by decide +kernel
theorem d_S_clear_3 : decode b_S_clear 3 = .ok (.bipush 64, 2) := by decide +kernel
theorem d_S_clear_5 : decode b_S_clear 5 = .ok (.invokestatic 15, 3) := by decide +kernel
theorem d_S_clear_8 : decode b_S_clear 8 = .ok (.invokestatic 21, 3) := by decide +kernel
theorem d_S_clear_11 : decode b_S_clear 11 = .ok (.putfield 24, 3) := by decide +kernel
theorem d_S_clear_14 : decode b_S_clear 14 = .ok (.aload_n 0, 1) := by decide +kernel
theorem d_S_clear_15 : decode b_S_clear 15 = .ok (.getfield 9, 3) := by decide +kernel
theorem d_S_clear_18 : decode b_S_clear 18 = .ok (.iconst 0, 1) := by decide +kernel
theorem d_S_clear_19 : decode b_S_clear 19 = .ok (.invokestatic 28, 3) := by decide +kernel
theorem d_S_clear_22 : decode b_S_clear 22 = .ok (.return_, 1) := by decide +kernel
theorem d_S_countOf_0 : decode b_S_countOf 0 = .ok (.iconst 0, 1) := by decide +kernel
theorem d_S_countOf_1 : decode b_S_countOf 1 = .ok (.istore_n 2, 1) := by decide +kernel
theorem d_S_countOf_2 : decode b_S_countOf 2 = .ok (.iconst 0, 1) := by decide +kernel
theorem d_S_countOf_3 : decode b_S_countOf 3 = .ok (.istore_n 3, 1) := by decide +kernel
theorem d_S_countOf_4 : decode b_S_countOf 4 = .ok (.iload_n 3, 1) := by decide +kernel
theorem d_S_countOf_5 : decode b_S_countOf 5 = .ok (.aload_n 0, 1) := by decide +kernel
theorem d_S_countOf_6 : decode b_S_countOf 6 = .ok (.getfield 24, 3) := by decide +kernel
theorem d_S_countOf_9 : decode b_S_countOf 9 = .ok (.if_icmp .ge 22, 3) := by decide +kernel
theorem d_S_countOf_12 : decode b_S_countOf 12 = .ok (.aload_n 0, 1) := by decide +kernel
theorem d_S_countOf_13 : decode b_S_countOf 13 = .ok (.getfield 9, 3) := by decide +kernel
theorem d_S_countOf_16 : decode b_S_countOf 16 = .ok (.iload_n 3, 1) := by decide +kernel
theorem d_S_countOf_17 : decode b_S_countOf 17 = .ok (.iaload, 1) := by decide +kernel
theorem d_S_countOf_18 : decode b_S_countOf 18 = .ok (.iload_n 1, 1) := by decide +kernel
theorem d_S_countOf_19 : decode b_S_countOf 19 = .ok (.if_icmp .ne 6, 3) := by decide +kernel
theorem d_S_countOf_22 : decode b_S_countOf 22 = .ok (.iinc 2 1, 3) := by decide +kernel
theorem d_S_countOf_25 : decode b_S_countOf 25 = .ok (.iinc 3 1, 3) := by decide +kernel
theorem d_S_countOf_28 : decode b_S_countOf 28 = .ok (.goto (-24), 3) := by decide +kernel
theorem d_S_countOf_31 : decode b_S_countOf 31 = .ok (.iload_n 2, 1) := by decide +kernel
theorem d_S_countOf_32 : decode b_S_countOf 32 = .ok (.ireturn, 1) := by decide +kernel
theorem d_S_firstOfRun_0 : decode b_S_firstOfRun 0 = .ok (.iconst 0, 1) := by decide +kernel
theorem d_S_firstOfRun_1 : decode b_S_firstOfRun 1 = .ok (.istore_n 2, 1) := by decide +kernel
theorem d_S_firstOfRun_2 : decode b_S_firstOfRun 2 = .ok (.iconst 0, 1) := by decide +kernel
theorem d_S_firstOfRun_3 : decode b_S_firstOfRun 3 = .ok (.istore_n 3, 1) := by decide +kernel
theorem d_S_firstOfRun_4 : decode b_S_firstOfRun 4 = .ok (.iload_n 3, 1) := by decide +kernel
theorem d_S_firstOfRun_5 : decode b_S_firstOfRun 5 = .ok (.aload_n 0, 1) := by decide +kernel
theorem d_S_firstOfRun_6 : decode b_S_firstOfRun 6 = .ok (.getfield 24, 3) := by decide +kernel
theorem d_S_firstOfRun_9 : decode b_S_firstOfRun 9 = .ok (.if_icmp .ge 27, 3) := by decide +kernel
theorem d_S_firstOfRun_12 : decode b_S_firstOfRun 12 = .ok (.aload_n 0, 1) := by decide +kernel
theorem d_S_firstOfRun_13 : decode b_S_firstOfRun 13 = .ok (.iload_n 3, 1) := by decide +kernel
theorem d_S_firstOfRun_14 : decode b_S_firstOfRun 14 = .ok (.invokevirtual 38, 3) := by decide +kernel
theorem d_S_firstOfRun_17 : decode b_S_firstOfRun 17 = .ok (.ifCond .eq 13, 3) := by decide +kernel
theorem d_S_firstOfRun_20 : decode b_S_firstOfRun 20 = .ok (.iload_n 2, 1) := by decide +kernel
theorem d_S_firstOfRun_21 : decode b_S_firstOfRun 21 = .ok (.iload_n 1, 1) := by decide +kernel
theorem d_S_firstOfRun_22 : decode b_S_firstOfRun 22 = .ok (.if_icmp .ne 5, 3) := by decide +kernel
theorem d_S_firstOfRun_25 : decode b_S_firstOfRun 25 = .ok (.iload_n 3, 1) := by decide +kernel
theorem d_S_firstOfRun_26 : decode b_S_firstOfRun 26 = .ok (.ireturn, 1) := by decide +kernel
theorem d_S_firstOfRun_27 : decode b_S_firstOfRun 27 = .ok (.iinc 2 1, 3) := by decide +kernel
theorem d_S_firstOfRun_30 : decode b_S_firstOfRun 30 = .ok (.iinc 3 1, 3) := by decide +kernel
theorem d_S_firstOfRun_33 : decode b_S_firstOfRun 33 = .ok (.goto (-29), 3) := by decide +kernel
theorem d_S_firstOfRun_36 : decode b_S_firstOfRun 36 = .ok (.iconst (-1), 1) := by decide +kernel
theorem d_S_firstOfRun_37 : decode b_S_firstOfRun 37 = .ok (.ireturn, 1) := by decide +kernel
theorem d_R_state_0 : decode b_R_state 0 = .ok (.aload_n 0, 1) := by decide +kernel
theorem d_R_state_1 : decode b_R_state 1 = .ok (.getfield 28, 3) := by decide +kernel
theorem d_R_state_4 : decode b_R_state 4 = .ok (.invokevirtual 88, 3) := by decide +kernel
theorem d_R_state_7 : decode b_R_state 7 = .ok (.ifCond .eq 14, 3) := by decide +kernel
theorem d_R_state_10 : decode b_R_state 10 = .ok (.aload_n 0, 1) := by decide +kernel
theorem d_R_state_11 : decode b_R_state 11 = .ok (.getfield 19, 3) := by decide +kernel
theorem d_R_state_14 : decode b_R_state 14 = .ok (.iload_n 1, 1) := by decide +kernel
theorem d_R_state_15 : decode b_R_state 15 = .ok (.invokevirtual 129, 3) := by decide +kernel
theorem d_R_state_18 : decode b_R_state 18 = .ok (.goto 4, 3) := by decide +kernel
theorem d_R_state_21 : decode b_R_state 21 = .ok (.iconst (-1), 1) := by decide +kernel
theorem d_R_state_22 : decode b_R_state 22 = .ok (.ireturn, 1) := by decide +kernel
theorem d_R_count_0 : decode b_R_count 0 = .ok (.aload_n 0, 1) := by decide +kernel
theorem d_R_count_1 : decode b_R_count 1 = .ok (.getfield 28, 3) := by decide +kernel
theorem d_R_count_4 : decode b_R_count 4 = .ok (.invokevirtual 88, 3) := by decide +kernel
theorem d_R_count_7 : decode b_R_count 7 = .ok (.ifCond .eq 14, 3) := by decide +kernel
theorem d_R_count_10 : decode b_R_count 10 = .ok (.aload_n 0, 1) := by decide +kernel
theorem d_R_count_11 : decode b_R_count 11 = .ok (.getfield 19, 3) := by decide +kernel
theorem d_R_count_14 : decode b_R_count 14 = .ok (.iload_n 1, 1) := by decide +kernel
theorem d_R_count_15 : decode b_R_count 15 = .ok (.invokevirtual 139, 3) := by decide +kernel
theorem d_R_count_18 : decode b_R_count 18 = .ok (.goto 4, 3) := by decide +kernel
theorem d_R_count_21 : decode b_R_count 21 = .ok (.iconst 0, 1) := by decide +kernel
theorem d_R_count_22 : decode b_R_count 22 = .ok (.ireturn, 1) := by decide +kernel
theorem d_R_part_0 : decode b_R_part 0 = .ok (.aload_n 0, 1) := by decide +kernel
theorem d_R_part_1 : decode b_R_part 1 = .ok (.getfield 28, 3) := by decide +kernel
theorem d_R_part_4 : decode b_R_part 4 = .ok (.invokevirtual 88, 3) := by decide +kernel
theorem d_R_part_7 : decode b_R_part 7 = .ok (.ifCond .eq 14, 3) := by decide +kernel
theorem d_R_part_10 : decode b_R_part 10 = .ok (.aload_n 0, 1) := by decide +kernel
theorem d_R_part_11 : decode b_R_part 11 = .ok (.getfield 19, 3) := by decide +kernel
theorem d_R_part_14 : decode b_R_part 14 = .ok (.iload_n 1, 1) := by decide +kernel
theorem d_R_part_15 : decode b_R_part 15 = .ok (.invokevirtual 142, 3) := by decide +kernel
theorem d_R_part_18 : decode b_R_part 18 = .ok (.goto 4, 3) := by decide +kernel
theorem d_R_part_21 : decode b_R_part 21 = .ok (.iconst (-1), 1) := by decide +kernel
theorem d_R_part_22 : decode b_R_part 22 = .ok (.istore_n 3, 1) := by decide +kernel
theorem d_R_part_23 : decode b_R_part 23 = .ok (.iload_n 3, 1) := by decide +kernel
theorem d_R_part_24 : decode b_R_part 24 = .ok (.iconst (-1), 1) := by decide +kernel
theorem d_R_part_25 : decode b_R_part 25 = .ok (.if_icmp .ne 5, 3) := by decide +kernel
theorem d_R_part_28 : decode b_R_part 28 = .ok (.iconst (-1), 1) := by decide +kernel
theorem d_R_part_29 : decode b_R_part 29 = .ok (.ireturn, 1) := by decide +kernel
theorem d_R_part_30 : decode b_R_part 30 = .ok (.iload_n 2, 1) := by decide +kernel
theorem d_R_part_31 : decode b_R_part 31 = .ok (.tableswitch 49 0 2 #[25, 27, 40], 25) := by decide +kernel
theorem d_R_part_56 : decode b_R_part 56 = .ok (.iload_n 3, 1) := by decide +kernel
theorem d_R_part_57 : decode b_R_part 57 = .ok (.ireturn, 1) := by decide +kernel
theorem d_R_part_58 : decode b_R_part 58 = .ok (.aload_n 0, 1) := by decide +kernel
theorem d_R_part_59 : decode b_R_part 59 = .ok (.getfield 19, 3) := by decide +kernel
theorem d_R_part_62 : decode b_R_part 62 = .ok (.iload_n 3, 1) := by decide +kernel
theorem d_R_part_63 : decode b_R_part 63 = .ok (.bipush 64, 2) := by decide +kernel
theorem d_R_part_65 : decode b_R_part 65 = .ok (.invokevirtual 145, 3) := by decide +kernel
theorem d_R_part_68 : decode b_R_part 68 = .ok (.iload_n 3, 1) := by decide +kernel
theorem d_R_part_69 : decode b_R_part 69 = .ok (.isub, 1) := by decide +kernel
theorem d_R_part_70 : decode b_R_part 70 = .ok (.ireturn, 1) := by decide +kernel
theorem d_R_part_71 : decode b_R_part 71 = .ok (.aload_n 0, 1) := by decide +kernel
theorem d_R_part_72 : decode b_R_part 72 = .ok (.getfield 19, 3) := by decide +kernel
theorem d_R_part_75 : decode b_R_part 75 = .ok (.iload_n 3, 1) := by decide +kernel
theorem d_R_part_76 : decode b_R_part 76 = .ok (.invokevirtual 129, 3) := by decide +kernel
theorem d_R_part_79 : decode b_R_part 79 = .ok (.ireturn, 1) := by decide +kernel
theorem d_R_part_80 : decode b_R_part 80 = .ok (.iconst (-1), 1) := by decide +kernel
theorem d_R_part_81 : decode b_R_part 81 = .ok (.ireturn, 1) := by decide +kernel
theorem d_R_phase_0 : decode b_R_phase 0 = .ok (.aload_n 0, 1) := by decide +kernel
theorem d_R_phase_1 : decode b_R_phase 1 = .ok (.getfield 28, 3) := by decide +kernel
theorem d_R_phase_4 : decode b_R_phase 4 = .ok (.invokevirtual 74, 3) := by decide +kernel
theorem d_R_phase_7 : decode b_R_phase 7 = .ok (.ireturn, 1) := by decide +kernel
theorem d_R_out_0 : decode b_R_out 0 = .ok (.aload_n 0, 1) := by decide +kernel
theorem d_R_out_1 : decode b_R_out 1 = .ok (.getfield 10, 3) := by decide +kernel
theorem d_R_out_4 : decode b_R_out 4 = .ok (.iload_n 1, 1) := by decide +kernel
theorem d_R_out_5 : decode b_R_out 5 = .ok (.invokevirtual 149, 3) := by decide +kernel
theorem d_R_out_8 : decode b_R_out 8 = .ok (.ireturn, 1) := by decide +kernel
theorem d_R_reads_0 : decode b_R_reads 0 = .ok (.aload_n 0, 1) := by decide +kernel
theorem d_R_reads_1 : decode b_R_reads 1 = .ok (.getfield 10, 3) := by decide +kernel
theorem d_R_reads_4 : decode b_R_reads 4 = .ok (.iload_n 1, 1) := by decide +kernel
theorem d_R_reads_5 : decode b_R_reads 5 = .ok (.invokevirtual 152, 3) := by decide +kernel
theorem d_R_reads_8 : decode b_R_reads 8 = .ok (.ireturn, 1) := by decide +kernel
theorem d_R_made_0 : decode b_R_made 0 = .ok (.aload_n 0, 1) := by decide +kernel
theorem d_R_made_1 : decode b_R_made 1 = .ok (.getfield 10, 3) := by decide +kernel
theorem d_R_made_4 : decode b_R_made 4 = .ok (.iload_n 1, 1) := by decide +kernel
theorem d_R_made_5 : decode b_R_made 5 = .ok (.invokevirtual 155, 3) := by decide +kernel
theorem d_R_made_8 : decode b_R_made 8 = .ok (.ireturn, 1) := by decide +kernel
theorem d_R_image_0 : decode b_R_image 0 = .ok (.aload_n 0, 1) := by decide +kernel
theorem d_R_image_1 : decode b_R_image 1 = .ok (.getfield 35, 3) := by decide +kernel
theorem d_R_image_4 : decode b_R_image 4 = .ok (.iload_n 1, 1) := by decide +kernel
theorem d_R_image_5 : decode b_R_image 5 = .ok (.iload_n 2, 1) := by decide +kernel
theorem d_R_image_6 : decode b_R_image 6 = .ok (.invokevirtual 159, 3) := by decide +kernel
theorem d_R_image_9 : decode b_R_image 9 = .ok (.ireturn, 1) := by decide +kernel
end
section
theorem ks_1 : Cond.selects rn_K y_K_readIn y_K_readIn ∈ wb := wb_s 1 (by decide +kernel) (by decide +kernel)
theorem ks_2 : Cond.selects rn_K y_K_readForward y_K_readForward ∈ wb := wb_s 2 (by decide +kernel) (by decide +kernel)
theorem ks_3 : Cond.selects rn_K y_K_rescue y_K_rescue ∈ wb := wb_s 3 (by decide +kernel) (by decide +kernel)
theorem ks_4 : Cond.selects rn_K y_K_takeLeap y_K_takeLeap ∈ wb := wb_s 4 (by decide +kernel) (by decide +kernel)
theorem ks_5 : Cond.selects rn_K y_K_readBackward y_K_readBackward ∈ wb := wb_s 5 (by decide +kernel) (by decide +kernel)
theorem ks_6 : Cond.selects rn_K y_K_trim y_K_trim ∈ wb := wb_s 6 (by decide +kernel) (by decide +kernel)
theorem ks_7 : Cond.selects rn_K y_K_scrape y_K_scrape ∈ wb := wb_s 7 (by decide +kernel) (by decide +kernel)
theorem ks_8 : Cond.selects rn_K y_K_retry y_K_retry ∈ wb := wb_s 8 (by decide +kernel) (by decide +kernel)
theorem ks_9 : Cond.selects rn_K y_K_nextBad y_K_nextBad ∈ wb := wb_s 9 (by decide +kernel) (by decide +kernel)
theorem ks_10 : Cond.selects rn_K y_K_goesUp y_K_goesUp ∈ wb := wb_s 10 (by decide +kernel) (by decide +kernel)
theorem ks_11 : Cond.selects rn_K y_K_enterRound y_K_enterRound ∈ wb := wb_s 11 (by decide +kernel) (by decide +kernel)
theorem ks_12 : Cond.selects rn_V y_V_behindNumber y_V_behindNumber ∈ wb := wb_s 12 (by decide +kernel) (by decide +kernel)
theorem ks_13 : Cond.selects rn_V y_V_draw y_V_draw ∈ wb := wb_s 13 (by decide +kernel) (by decide +kernel)
theorem ks_14 : Cond.selects rn_V y_V_placeOfRun y_V_placeOfRun ∈ wb := wb_s 14 (by decide +kernel) (by decide +kernel)
theorem ks_15 : Cond.selects rn_V y_V_sumBefore y_V_sumBefore ∈ wb := wb_s 15 (by decide +kernel) (by decide +kernel)
theorem ks_16 : Cond.selects rn_V y_V_isWhole y_V_isWhole ∈ wb := wb_s 16 (by decide +kernel) (by decide +kernel)
theorem ks_17 : Cond.selects rn_V y_V_hasRuns y_V_hasRuns ∈ wb := wb_s 17 (by decide +kernel) (by decide +kernel)
theorem kw_2 : Cond.initialized rn_D ∈ wb := wb_t 2 (by decide +kernel) (by decide +kernel)
theorem kw_3 : Cond.initialized rn_S ∈ wb := wb_t 3 (by decide +kernel) (by decide +kernel)
theorem kw_4 : Cond.initialized rn_K ∈ wb := wb_t 4 (by decide +kernel) (by decide +kernel)
theorem kw_5 : Cond.initialized rn_V ∈ wb := wb_t 5 (by decide +kernel) (by decide +kernel)
theorem kw_131 : Cond.methodLink rn_R 88 y_K_goesOn ∈ wb := wb_t 131 (by decide +kernel) (by decide +kernel)
theorem kw_132 : Cond.instanceMethod y_K_goesOn ∈ wb := wb_t 132 (by decide +kernel) (by decide +kernel)
theorem kw_133 : Cond.selects rn_K y_K_goesOn y_K_goesOn ∈ wb := wb_t 133 (by decide +kernel) (by decide +kernel)
theorem kw_134 : Cond.code y_K_goesOn b_K_goesOn 1 (some .boolean) ∈ wb := wb_t 134 (by decide +kernel) (by decide +kernel)
theorem kw_135 : Cond.methodLink rn_R 129 y_S_stateOf ∈ wb := wb_t 135 (by decide +kernel) (by decide +kernel)
theorem kw_136 : Cond.instanceMethod y_S_stateOf ∈ wb := wb_t 136 (by decide +kernel) (by decide +kernel)
theorem kw_137 : Cond.selects rn_S y_S_stateOf y_S_stateOf ∈ wb := wb_t 137 (by decide +kernel) (by decide +kernel)
theorem kw_138 : Cond.code y_S_stateOf b_S_stateOf 2 (some .int) ∈ wb := wb_t 138 (by decide +kernel) (by decide +kernel)
theorem kw_143 : Cond.methodLink rn_R 139 y_S_countOf ∈ wb := wb_t 143 (by decide +kernel) (by decide +kernel)
theorem kw_144 : Cond.instanceMethod y_S_countOf ∈ wb := wb_t 144 (by decide +kernel) (by decide +kernel)
theorem kw_145 : Cond.selects rn_S y_S_countOf y_S_countOf ∈ wb := wb_t 145 (by decide +kernel) (by decide +kernel)
theorem kw_146 : Cond.code y_S_countOf b_S_countOf 4 (some .int) ∈ wb := wb_t 146 (by decide +kernel) (by decide +kernel)
theorem kw_151 : Cond.methodLink rn_R 142 y_S_firstOfRun ∈ wb := wb_t 151 (by decide +kernel) (by decide +kernel)
theorem kw_152 : Cond.instanceMethod y_S_firstOfRun ∈ wb := wb_t 152 (by decide +kernel) (by decide +kernel)
theorem kw_153 : Cond.selects rn_S y_S_firstOfRun y_S_firstOfRun ∈ wb := wb_t 153 (by decide +kernel) (by decide +kernel)
theorem kw_154 : Cond.code y_S_firstOfRun b_S_firstOfRun 4 (some .int) ∈ wb := wb_t 154 (by decide +kernel) (by decide +kernel)
theorem kw_155 : Cond.methodLink rn_S 38 y_S_startsRun ∈ wb := wb_t 155 (by decide +kernel) (by decide +kernel)
theorem kw_156 : Cond.instanceMethod y_S_startsRun ∈ wb := wb_t 156 (by decide +kernel) (by decide +kernel)
theorem kw_157 : Cond.selects rn_S y_S_startsRun y_S_startsRun ∈ wb := wb_t 157 (by decide +kernel) (by decide +kernel)
theorem kw_158 : Cond.code y_S_startsRun b_S_startsRun 2 (some .boolean) ∈ wb := wb_t 158 (by decide +kernel) (by decide +kernel)
theorem kw_159 : Cond.methodLink rn_S 34 y_S_stateOf ∈ wb := wb_t 159 (by decide +kernel) (by decide +kernel)
theorem kw_160 : Cond.methodLink rn_R 145 y_S_behindStretch ∈ wb := wb_t 160 (by decide +kernel) (by decide +kernel)
theorem kw_161 : Cond.instanceMethod y_S_behindStretch ∈ wb := wb_t 161 (by decide +kernel) (by decide +kernel)
theorem kw_162 : Cond.selects rn_S y_S_behindStretch y_S_behindStretch ∈ wb := wb_t 162 (by decide +kernel) (by decide +kernel)
theorem kw_163 : Cond.code y_S_behindStretch b_S_behindStretch 4 (some .int) ∈ wb := wb_t 163 (by decide +kernel) (by decide +kernel)
theorem kw_168 : Cond.methodLink rn_R 74 y_K_currentPhase ∈ wb := wb_t 168 (by decide +kernel) (by decide +kernel)
theorem kw_169 : Cond.instanceMethod y_K_currentPhase ∈ wb := wb_t 169 (by decide +kernel) (by decide +kernel)
theorem kw_170 : Cond.selects rn_K y_K_currentPhase y_K_currentPhase ∈ wb := wb_t 170 (by decide +kernel) (by decide +kernel)
theorem kw_171 : Cond.code y_K_currentPhase b_K_currentPhase 1 (some .int) ∈ wb := wb_t 171 (by decide +kernel) (by decide +kernel)
theorem kw_176 : Cond.methodLink rn_R 149 y_D_wordOut ∈ wb := wb_t 176 (by decide +kernel) (by decide +kernel)
theorem kw_177 : Cond.instanceMethod y_D_wordOut ∈ wb := wb_t 177 (by decide +kernel) (by decide +kernel)
theorem kw_178 : Cond.selects rn_D y_D_wordOut y_D_wordOut ∈ wb := wb_t 178 (by decide +kernel) (by decide +kernel)
theorem kw_179 : Cond.code y_D_wordOut b_D_wordOut 2 (some .int) ∈ wb := wb_t 179 (by decide +kernel) (by decide +kernel)
theorem kw_180 : Cond.methodLink rn_D 40 y_D_has ∈ wb := wb_t 180 (by decide +kernel) (by decide +kernel)
theorem kw_181 : Cond.instanceMethod y_D_has ∈ wb := wb_t 181 (by decide +kernel) (by decide +kernel)
theorem kw_182 : Cond.selects rn_D y_D_has y_D_has ∈ wb := wb_t 182 (by decide +kernel) (by decide +kernel)
theorem kw_183 : Cond.code y_D_has b_D_has 2 (some .boolean) ∈ wb := wb_t 183 (by decide +kernel) (by decide +kernel)
theorem kw_188 : Cond.methodLink rn_R 152 y_D_readsOf ∈ wb := wb_t 188 (by decide +kernel) (by decide +kernel)
theorem kw_189 : Cond.instanceMethod y_D_readsOf ∈ wb := wb_t 189 (by decide +kernel) (by decide +kernel)
theorem kw_190 : Cond.selects rn_D y_D_readsOf y_D_readsOf ∈ wb := wb_t 190 (by decide +kernel) (by decide +kernel)
theorem kw_191 : Cond.code y_D_readsOf b_D_readsOf 2 (some .int) ∈ wb := wb_t 191 (by decide +kernel) (by decide +kernel)
theorem kw_196 : Cond.methodLink rn_R 155 y_D_stretchesRead ∈ wb := wb_t 196 (by decide +kernel) (by decide +kernel)
theorem kw_197 : Cond.instanceMethod y_D_stretchesRead ∈ wb := wb_t 197 (by decide +kernel) (by decide +kernel)
theorem kw_198 : Cond.selects rn_D y_D_stretchesRead y_D_stretchesRead ∈ wb := wb_t 198 (by decide +kernel) (by decide +kernel)
theorem kw_199 : Cond.code y_D_stretchesRead b_D_stretchesRead 2 (some .int) ∈ wb := wb_t 199 (by decide +kernel) (by decide +kernel)
theorem kw_204 : Cond.methodLink rn_R 159 y_V_byteAt ∈ wb := wb_t 204 (by decide +kernel) (by decide +kernel)
theorem kw_205 : Cond.instanceMethod y_V_byteAt ∈ wb := wb_t 205 (by decide +kernel) (by decide +kernel)
theorem kw_206 : Cond.selects rn_V y_V_byteAt y_V_byteAt ∈ wb := wb_t 206 (by decide +kernel) (by decide +kernel)
theorem kw_207 : Cond.code y_V_byteAt b_V_byteAt 3 (some .int) ∈ wb := wb_t 207 (by decide +kernel) (by decide +kernel)
theorem kw_208 : Cond.methodLink rn_V 30 y_V_has ∈ wb := wb_t 208 (by decide +kernel) (by decide +kernel)
theorem kw_209 : Cond.instanceMethod y_V_has ∈ wb := wb_t 209 (by decide +kernel) (by decide +kernel)
theorem kw_210 : Cond.selects rn_V y_V_has y_V_has ∈ wb := wb_t 210 (by decide +kernel) (by decide +kernel)
theorem kw_211 : Cond.code y_V_has b_V_has 3 (some .boolean) ∈ wb := wb_t 211 (by decide +kernel) (by decide +kernel)
theorem kw_291 : Cond.methodLink rn_D 34 y_fill ∈ wb := wb_t 291 (by decide +kernel) (by decide +kernel)
theorem kw_298 : Cond.methodLink rn_V 24 y_fill ∈ wb := wb_t 298 (by decide +kernel) (by decide +kernel)
theorem kw_350 : Cond.methodLink rn_S 15 ⟨"java/lang/Math", "min", "(II)I"⟩ ∈ wb := wb_t 350 (by decide +kernel) (by decide +kernel)
theorem kw_353 : Cond.methodLink rn_S 21 ⟨"java/lang/Math", "max", "(II)I"⟩ ∈ wb := wb_t 353 (by decide +kernel) (by decide +kernel)
theorem kw_356 : Cond.methodLink rn_S 28 y_fill ∈ wb := wb_t 356 (by decide +kernel) (by decide +kernel)
theorem kw_361 : Cond.methodLink rn_K 26 y_K_enter ∈ wb := wb_t 361 (by decide +kernel) (by decide +kernel)
theorem kw_362 : Cond.instanceMethod y_K_enter ∈ wb := wb_t 362 (by decide +kernel) (by decide +kernel)
theorem kw_363 : Cond.selects rn_K y_K_enter y_K_enter ∈ wb := wb_t 363 (by decide +kernel) (by decide +kernel)
theorem kw_364 : Cond.code y_K_enter b_K_enter 2 none ∈ wb := wb_t 364 (by decide +kernel) (by decide +kernel)
theorem kw_365 : Cond.methodLink rn_K 33 y_S_size ∈ wb := wb_t 365 (by decide +kernel) (by decide +kernel)
theorem kw_366 : Cond.instanceMethod y_S_size ∈ wb := wb_t 366 (by decide +kernel) (by decide +kernel)
theorem kw_367 : Cond.selects rn_S y_S_size y_S_size ∈ wb := wb_t 367 (by decide +kernel) (by decide +kernel)
theorem kw_368 : Cond.code y_S_size b_S_size 1 (some .int) ∈ wb := wb_t 368 (by decide +kernel) (by decide +kernel)
theorem kw_381 : Cond.methodLink rn_K 49 y_K_readIn ∈ wb := wb_t 381 (by decide +kernel) (by decide +kernel)
theorem kw_383 : Cond.instanceMethod y_K_readIn ∈ wb := wb_t 383 (by decide +kernel) (by decide +kernel)
theorem kw_384 : Cond.code y_K_readIn b_K_readIn 2 (some .boolean) ∈ wb := wb_t 384 (by decide +kernel) (by decide +kernel)
theorem kw_385 : Cond.methodLink rn_K 53 y_K_readForward ∈ wb := wb_t 385 (by decide +kernel) (by decide +kernel)
theorem kw_387 : Cond.instanceMethod y_K_readForward ∈ wb := wb_t 387 (by decide +kernel) (by decide +kernel)
theorem kw_388 : Cond.code y_K_readForward b_K_readForward 5 (some .boolean) ∈ wb := wb_t 388 (by decide +kernel) (by decide +kernel)
theorem kw_389 : Cond.methodLink rn_K 70 y_S_firstFrom ∈ wb := wb_t 389 (by decide +kernel) (by decide +kernel)
theorem kw_390 : Cond.instanceMethod y_S_firstFrom ∈ wb := wb_t 390 (by decide +kernel) (by decide +kernel)
theorem kw_391 : Cond.selects rn_S y_S_firstFrom y_S_firstFrom ∈ wb := wb_t 391 (by decide +kernel) (by decide +kernel)
theorem kw_392 : Cond.code y_S_firstFrom b_S_firstFrom 4 (some .int) ∈ wb := wb_t 392 (by decide +kernel) (by decide +kernel)
theorem kw_393 : Cond.methodLink rn_K 74 y_S_behindStretch ∈ wb := wb_t 393 (by decide +kernel) (by decide +kernel)
theorem kw_394 : Cond.methodLink rn_K 77 y_K_rescue ∈ wb := wb_t 394 (by decide +kernel) (by decide +kernel)
theorem kw_396 : Cond.instanceMethod y_K_rescue ∈ wb := wb_t 396 (by decide +kernel) (by decide +kernel)
theorem kw_397 : Cond.code y_K_rescue b_K_rescue 5 (some .boolean) ∈ wb := wb_t 397 (by decide +kernel) (by decide +kernel)
theorem kw_398 : Cond.methodLink rn_K 109 y_D_readStretch ∈ wb := wb_t 398 (by decide +kernel) (by decide +kernel)
theorem kw_399 : Cond.instanceMethod y_D_readStretch ∈ wb := wb_t 399 (by decide +kernel) (by decide +kernel)
theorem kw_400 : Cond.selects rn_D y_D_readStretch y_D_readStretch ∈ wb := wb_t 400 (by decide +kernel) (by decide +kernel)
theorem kw_401 : Cond.code y_D_readStretch b_D_readStretch 4 (some .boolean) ∈ wb := wb_t 401 (by decide +kernel) (by decide +kernel)
theorem kw_402 : Cond.methodLink rn_D 44 arraycopyName ∈ wb := wb_t 402 (by decide +kernel) (by decide +kernel)
theorem kw_405 : Cond.methodLink rn_K 96 y_S_mark ∈ wb := wb_t 405 (by decide +kernel) (by decide +kernel)
theorem kw_406 : Cond.instanceMethod y_S_mark ∈ wb := wb_t 406 (by decide +kernel) (by decide +kernel)
theorem kw_407 : Cond.selects rn_S y_S_mark y_S_mark ∈ wb := wb_t 407 (by decide +kernel) (by decide +kernel)
theorem kw_408 : Cond.code y_S_mark b_S_mark 6 none ∈ wb := wb_t 408 (by decide +kernel) (by decide +kernel)
theorem kw_409 : Cond.methodLink rn_K 81 y_K_takeLeap ∈ wb := wb_t 409 (by decide +kernel) (by decide +kernel)
theorem kw_411 : Cond.instanceMethod y_K_takeLeap ∈ wb := wb_t 411 (by decide +kernel) (by decide +kernel)
theorem kw_412 : Cond.code y_K_takeLeap b_K_takeLeap 3 (some .int) ∈ wb := wb_t 412 (by decide +kernel) (by decide +kernel)
theorem kw_413 : Cond.methodLink rn_K 91 ⟨"java/lang/Math", "min", "(II)I"⟩ ∈ wb := wb_t 413 (by decide +kernel) (by decide +kernel)
theorem kw_414 : Cond.methodLink rn_K 57 y_K_readBackward ∈ wb := wb_t 414 (by decide +kernel) (by decide +kernel)
theorem kw_416 : Cond.instanceMethod y_K_readBackward ∈ wb := wb_t 416 (by decide +kernel) (by decide +kernel)
theorem kw_417 : Cond.code y_K_readBackward b_K_readBackward 4 (some .boolean) ∈ wb := wb_t 417 (by decide +kernel) (by decide +kernel)
theorem kw_418 : Cond.methodLink rn_K 85 y_S_lastBelow ∈ wb := wb_t 418 (by decide +kernel) (by decide +kernel)
theorem kw_419 : Cond.instanceMethod y_S_lastBelow ∈ wb := wb_t 419 (by decide +kernel) (by decide +kernel)
theorem kw_420 : Cond.selects rn_S y_S_lastBelow y_S_lastBelow ∈ wb := wb_t 420 (by decide +kernel) (by decide +kernel)
theorem kw_421 : Cond.code y_S_lastBelow b_S_lastBelow 4 (some .int) ∈ wb := wb_t 421 (by decide +kernel) (by decide +kernel)
theorem kw_422 : Cond.methodLink rn_K 88 y_S_firstOfStretch ∈ wb := wb_t 422 (by decide +kernel) (by decide +kernel)
theorem kw_423 : Cond.instanceMethod y_S_firstOfStretch ∈ wb := wb_t 423 (by decide +kernel) (by decide +kernel)
theorem kw_424 : Cond.selects rn_S y_S_firstOfStretch y_S_firstOfStretch ∈ wb := wb_t 424 (by decide +kernel) (by decide +kernel)
theorem kw_425 : Cond.code y_S_firstOfStretch b_S_firstOfStretch 4 (some .int) ∈ wb := wb_t 425 (by decide +kernel) (by decide +kernel)
theorem kw_426 : Cond.methodLink rn_K 61 y_K_trim ∈ wb := wb_t 426 (by decide +kernel) (by decide +kernel)
theorem kw_428 : Cond.instanceMethod y_K_trim ∈ wb := wb_t 428 (by decide +kernel) (by decide +kernel)
theorem kw_429 : Cond.code y_K_trim b_K_trim 5 (some .boolean) ∈ wb := wb_t 429 (by decide +kernel) (by decide +kernel)
theorem kw_430 : Cond.methodLink rn_K 64 y_K_scrape ∈ wb := wb_t 430 (by decide +kernel) (by decide +kernel)
theorem kw_432 : Cond.instanceMethod y_K_scrape ∈ wb := wb_t 432 (by decide +kernel) (by decide +kernel)
theorem kw_433 : Cond.code y_K_scrape b_K_scrape 2 (some .boolean) ∈ wb := wb_t 433 (by decide +kernel) (by decide +kernel)
theorem kw_434 : Cond.methodLink rn_K 67 y_K_retry ∈ wb := wb_t 434 (by decide +kernel) (by decide +kernel)
theorem kw_436 : Cond.instanceMethod y_K_retry ∈ wb := wb_t 436 (by decide +kernel) (by decide +kernel)
theorem kw_437 : Cond.code y_K_retry b_K_retry 2 (some .boolean) ∈ wb := wb_t 437 (by decide +kernel) (by decide +kernel)
theorem kw_438 : Cond.methodLink rn_K 100 y_K_nextBad ∈ wb := wb_t 438 (by decide +kernel) (by decide +kernel)
theorem kw_440 : Cond.instanceMethod y_K_nextBad ∈ wb := wb_t 440 (by decide +kernel) (by decide +kernel)
theorem kw_441 : Cond.code y_K_nextBad b_K_nextBad 3 (some .int) ∈ wb := wb_t 441 (by decide +kernel) (by decide +kernel)
theorem kw_442 : Cond.methodLink rn_K 103 y_K_goesUp ∈ wb := wb_t 442 (by decide +kernel) (by decide +kernel)
theorem kw_444 : Cond.instanceMethod y_K_goesUp ∈ wb := wb_t 444 (by decide +kernel) (by decide +kernel)
theorem kw_445 : Cond.code y_K_goesUp b_K_goesUp 2 (some .boolean) ∈ wb := wb_t 445 (by decide +kernel) (by decide +kernel)
theorem kw_446 : Cond.methodLink rn_K 106 y_K_enterRound ∈ wb := wb_t 446 (by decide +kernel) (by decide +kernel)
theorem kw_448 : Cond.instanceMethod y_K_enterRound ∈ wb := wb_t 448 (by decide +kernel) (by decide +kernel)
theorem kw_449 : Cond.code y_K_enterRound b_K_enterRound 2 none ∈ wb := wb_t 449 (by decide +kernel) (by decide +kernel)
theorem kw_469 : Cond.methodLink rn_V 34 y_V_behindNumber ∈ wb := wb_t 469 (by decide +kernel) (by decide +kernel)
theorem kw_471 : Cond.instanceMethod y_V_behindNumber ∈ wb := wb_t 471 (by decide +kernel) (by decide +kernel)
theorem kw_472 : Cond.code y_V_behindNumber b_V_behindNumber 2 (some .int) ∈ wb := wb_t 472 (by decide +kernel) (by decide +kernel)
theorem kw_473 : Cond.methodLink rn_V 38 y_V_draw ∈ wb := wb_t 473 (by decide +kernel) (by decide +kernel)
theorem kw_475 : Cond.instanceMethod y_V_draw ∈ wb := wb_t 475 (by decide +kernel) (by decide +kernel)
theorem kw_476 : Cond.code y_V_draw b_V_draw 5 (some .int) ∈ wb := wb_t 476 (by decide +kernel) (by decide +kernel)
theorem kw_477 : Cond.methodLink rn_V 52 y_S_size ∈ wb := wb_t 477 (by decide +kernel) (by decide +kernel)
theorem kw_478 : Cond.methodLink rn_V 58 y_S_startsRun ∈ wb := wb_t 478 (by decide +kernel) (by decide +kernel)
theorem kw_479 : Cond.methodLink rn_V 62 y_V_placeOfRun ∈ wb := wb_t 479 (by decide +kernel) (by decide +kernel)
theorem kw_481 : Cond.instanceMethod y_V_placeOfRun ∈ wb := wb_t 481 (by decide +kernel) (by decide +kernel)
theorem kw_482 : Cond.code y_V_placeOfRun b_V_placeOfRun 2 (some .int) ∈ wb := wb_t 482 (by decide +kernel) (by decide +kernel)
theorem kw_483 : Cond.methodLink rn_V 65 y_S_behindStretch ∈ wb := wb_t 483 (by decide +kernel) (by decide +kernel)
theorem kw_484 : Cond.methodLink rn_V 68 y_S_stateOf ∈ wb := wb_t 484 (by decide +kernel) (by decide +kernel)
theorem kw_485 : Cond.methodLink rn_V 71 y_V_sumBefore ∈ wb := wb_t 485 (by decide +kernel) (by decide +kernel)
theorem kw_487 : Cond.instanceMethod y_V_sumBefore ∈ wb := wb_t 487 (by decide +kernel) (by decide +kernel)
theorem kw_488 : Cond.code y_V_sumBefore b_V_sumBefore 5 (some .int) ∈ wb := wb_t 488 (by decide +kernel) (by decide +kernel)
theorem kw_489 : Cond.methodLink rn_V 42 ⟨"java/lang/Math", "min", "(II)I"⟩ ∈ wb := wb_t 489 (by decide +kernel) (by decide +kernel)
theorem kw_490 : Cond.methodLink rn_V 48 y_V_put ∈ wb := wb_t 490 (by decide +kernel) (by decide +kernel)
theorem kw_491 : Cond.instanceMethod y_V_put ∈ wb := wb_t 491 (by decide +kernel) (by decide +kernel)
theorem kw_492 : Cond.selects rn_V y_V_put y_V_put ∈ wb := wb_t 492 (by decide +kernel) (by decide +kernel)
theorem kw_493 : Cond.code y_V_put b_V_put 4 none ∈ wb := wb_t 493 (by decide +kernel) (by decide +kernel)
theorem kw_518 : Cond.methodLink rn_V 75 y_V_isWhole ∈ wb := wb_t 518 (by decide +kernel) (by decide +kernel)
theorem kw_520 : Cond.instanceMethod y_V_isWhole ∈ wb := wb_t 520 (by decide +kernel) (by decide +kernel)
theorem kw_521 : Cond.code y_V_isWhole b_V_isWhole 5 (some .boolean) ∈ wb := wb_t 521 (by decide +kernel) (by decide +kernel)
theorem kw_522 : Cond.methodLink rn_V 78 y_V_byteAt ∈ wb := wb_t 522 (by decide +kernel) (by decide +kernel)
theorem kw_523 : Cond.methodLink rn_V 81 y_V_hasRuns ∈ wb := wb_t 523 (by decide +kernel) (by decide +kernel)
theorem kw_525 : Cond.instanceMethod y_V_hasRuns ∈ wb := wb_t 525 (by decide +kernel) (by decide +kernel)
theorem kw_526 : Cond.code y_V_hasRuns b_V_hasRuns 9 (some .boolean) ∈ wb := wb_t 526 (by decide +kernel) (by decide +kernel)
theorem kw_531 : Cond.methodLink rn_V 85 y_S_mark ∈ wb := wb_t 531 (by decide +kernel) (by decide +kernel)
theorem hd_D_has : y_D_has.cls = rn_D ∧ y_D_has.cls ≠ "java/lang/invoke/MethodHandle" ∧ y_D_has.cls ≠ "java/lang/invoke/VarHandle" ∧ (parseMethodDescriptor y_D_has.desc).map (fun d => d.parameters.length) = some 1 := by decide +kernel
theorem g_D_40 : GoodIn wb (wsV rn_D 40 rn_D y_D_has (Cond.code y_D_has b_D_has 2 (some .boolean) :: wb)) := gw_V kw_180 kw_181 kw_182 kw_2 kw_183
theorem hd_K_enter : y_K_enter.cls = rn_K ∧ y_K_enter.cls ≠ "java/lang/invoke/MethodHandle" ∧ y_K_enter.cls ≠ "java/lang/invoke/VarHandle" ∧ (parseMethodDescriptor y_K_enter.desc).map (fun d => d.parameters.length) = some 1 := by decide +kernel
theorem g_K_26 : GoodIn wb (wsV rn_K 26 rn_K y_K_enter (Cond.code y_K_enter b_K_enter 2 none :: wb)) := gw_V kw_361 kw_362 kw_363 kw_4 kw_364
theorem hd_S_size : y_S_size.cls = rn_S ∧ y_S_size.cls ≠ "java/lang/invoke/MethodHandle" ∧ y_S_size.cls ≠ "java/lang/invoke/VarHandle" ∧ (parseMethodDescriptor y_S_size.desc).map (fun d => d.parameters.length) = some 0 := by decide +kernel
theorem g_K_33 : GoodIn wb (wsV rn_K 33 rn_S y_S_size (Cond.code y_S_size b_S_size 1 (some .int) :: wb)) := gw_V kw_365 kw_366 kw_367 kw_3 kw_368
theorem hd_K_readIn : y_K_readIn.cls = rn_K ∧ y_K_readIn.cls ≠ "java/lang/invoke/MethodHandle" ∧ y_K_readIn.cls ≠ "java/lang/invoke/VarHandle" ∧ (parseMethodDescriptor y_K_readIn.desc).map (fun d => d.parameters.length) = some 1 := by decide +kernel
theorem g_K_49 : GoodIn wb (wsV rn_K 49 rn_K y_K_readIn (Cond.code y_K_readIn b_K_readIn 2 (some .boolean) :: wb)) := gw_V kw_381 kw_383 ks_1 kw_4 kw_384
theorem hd_K_readForward : y_K_readForward.cls = rn_K ∧ y_K_readForward.cls ≠ "java/lang/invoke/MethodHandle" ∧ y_K_readForward.cls ≠ "java/lang/invoke/VarHandle" ∧ (parseMethodDescriptor y_K_readForward.desc).map (fun d => d.parameters.length) = some 1 := by decide +kernel
theorem g_K_53 : GoodIn wb (wsV rn_K 53 rn_K y_K_readForward (Cond.code y_K_readForward b_K_readForward 5 (some .boolean) :: wb)) := gw_V kw_385 kw_387 ks_2 kw_4 kw_388
theorem hd_K_readBackward : y_K_readBackward.cls = rn_K ∧ y_K_readBackward.cls ≠ "java/lang/invoke/MethodHandle" ∧ y_K_readBackward.cls ≠ "java/lang/invoke/VarHandle" ∧ (parseMethodDescriptor y_K_readBackward.desc).map (fun d => d.parameters.length) = some 0 := by decide +kernel
theorem g_K_57 : GoodIn wb (wsV rn_K 57 rn_K y_K_readBackward (Cond.code y_K_readBackward b_K_readBackward 4 (some .boolean) :: wb)) := gw_V kw_414 kw_416 ks_5 kw_4 kw_417
theorem hd_K_trim : y_K_trim.cls = rn_K ∧ y_K_trim.cls ≠ "java/lang/invoke/MethodHandle" ∧ y_K_trim.cls ≠ "java/lang/invoke/VarHandle" ∧ (parseMethodDescriptor y_K_trim.desc).map (fun d => d.parameters.length) = some 0 := by decide +kernel
theorem g_K_61 : GoodIn wb (wsV rn_K 61 rn_K y_K_trim (Cond.code y_K_trim b_K_trim 5 (some .boolean) :: wb)) := gw_V kw_426 kw_428 ks_6 kw_4 kw_429
theorem hd_K_scrape : y_K_scrape.cls = rn_K ∧ y_K_scrape.cls ≠ "java/lang/invoke/MethodHandle" ∧ y_K_scrape.cls ≠ "java/lang/invoke/VarHandle" ∧ (parseMethodDescriptor y_K_scrape.desc).map (fun d => d.parameters.length) = some 0 := by decide +kernel
theorem g_K_64 : GoodIn wb (wsV rn_K 64 rn_K y_K_scrape (Cond.code y_K_scrape b_K_scrape 2 (some .boolean) :: wb)) := gw_V kw_430 kw_432 ks_7 kw_4 kw_433
theorem hd_K_retry : y_K_retry.cls = rn_K ∧ y_K_retry.cls ≠ "java/lang/invoke/MethodHandle" ∧ y_K_retry.cls ≠ "java/lang/invoke/VarHandle" ∧ (parseMethodDescriptor y_K_retry.desc).map (fun d => d.parameters.length) = some 0 := by decide +kernel
theorem g_K_67 : GoodIn wb (wsV rn_K 67 rn_K y_K_retry (Cond.code y_K_retry b_K_retry 2 (some .boolean) :: wb)) := gw_V kw_434 kw_436 ks_8 kw_4 kw_437
theorem hd_S_firstFrom : y_S_firstFrom.cls = rn_S ∧ y_S_firstFrom.cls ≠ "java/lang/invoke/MethodHandle" ∧ y_S_firstFrom.cls ≠ "java/lang/invoke/VarHandle" ∧ (parseMethodDescriptor y_S_firstFrom.desc).map (fun d => d.parameters.length) = some 2 := by decide +kernel
theorem g_K_70 : GoodIn wb (wsV rn_K 70 rn_S y_S_firstFrom (Cond.code y_S_firstFrom b_S_firstFrom 4 (some .int) :: wb)) := gw_V kw_389 kw_390 kw_391 kw_3 kw_392
theorem hd_S_behindStretch : y_S_behindStretch.cls = rn_S ∧ y_S_behindStretch.cls ≠ "java/lang/invoke/MethodHandle" ∧ y_S_behindStretch.cls ≠ "java/lang/invoke/VarHandle" ∧ (parseMethodDescriptor y_S_behindStretch.desc).map (fun d => d.parameters.length) = some 2 := by decide +kernel
theorem g_K_74 : GoodIn wb (wsV rn_K 74 rn_S y_S_behindStretch (Cond.code y_S_behindStretch b_S_behindStretch 4 (some .int) :: wb)) := gw_V kw_393 kw_161 kw_162 kw_3 kw_163
theorem hd_K_rescue : y_K_rescue.cls = rn_K ∧ y_K_rescue.cls ≠ "java/lang/invoke/MethodHandle" ∧ y_K_rescue.cls ≠ "java/lang/invoke/VarHandle" ∧ (parseMethodDescriptor y_K_rescue.desc).map (fun d => d.parameters.length) = some 3 := by decide +kernel
theorem g_K_77 : GoodIn wb (wsV rn_K 77 rn_K y_K_rescue (Cond.code y_K_rescue b_K_rescue 5 (some .boolean) :: wb)) := gw_V kw_394 kw_396 ks_3 kw_4 kw_397
theorem hd_K_takeLeap : y_K_takeLeap.cls = rn_K ∧ y_K_takeLeap.cls ≠ "java/lang/invoke/MethodHandle" ∧ y_K_takeLeap.cls ≠ "java/lang/invoke/VarHandle" ∧ (parseMethodDescriptor y_K_takeLeap.desc).map (fun d => d.parameters.length) = some 1 := by decide +kernel
theorem g_K_81 : GoodIn wb (wsV rn_K 81 rn_K y_K_takeLeap (Cond.code y_K_takeLeap b_K_takeLeap 3 (some .int) :: wb)) := gw_V kw_409 kw_411 ks_4 kw_4 kw_412
theorem hd_S_lastBelow : y_S_lastBelow.cls = rn_S ∧ y_S_lastBelow.cls ≠ "java/lang/invoke/MethodHandle" ∧ y_S_lastBelow.cls ≠ "java/lang/invoke/VarHandle" ∧ (parseMethodDescriptor y_S_lastBelow.desc).map (fun d => d.parameters.length) = some 2 := by decide +kernel
theorem g_K_85 : GoodIn wb (wsV rn_K 85 rn_S y_S_lastBelow (Cond.code y_S_lastBelow b_S_lastBelow 4 (some .int) :: wb)) := gw_V kw_418 kw_419 kw_420 kw_3 kw_421
theorem hd_S_firstOfStretch : y_S_firstOfStretch.cls = rn_S ∧ y_S_firstOfStretch.cls ≠ "java/lang/invoke/MethodHandle" ∧ y_S_firstOfStretch.cls ≠ "java/lang/invoke/VarHandle" ∧ (parseMethodDescriptor y_S_firstOfStretch.desc).map (fun d => d.parameters.length) = some 2 := by decide +kernel
theorem g_K_88 : GoodIn wb (wsV rn_K 88 rn_S y_S_firstOfStretch (Cond.code y_S_firstOfStretch b_S_firstOfStretch 4 (some .int) :: wb)) := gw_V kw_422 kw_423 kw_424 kw_3 kw_425
theorem hd_S_mark : y_S_mark.cls = rn_S ∧ y_S_mark.cls ≠ "java/lang/invoke/MethodHandle" ∧ y_S_mark.cls ≠ "java/lang/invoke/VarHandle" ∧ (parseMethodDescriptor y_S_mark.desc).map (fun d => d.parameters.length) = some 3 := by decide +kernel
theorem g_K_96 : GoodIn wb (wsV rn_K 96 rn_S y_S_mark (Cond.code y_S_mark b_S_mark 6 none :: wb)) := gw_V kw_405 kw_406 kw_407 kw_3 kw_408
theorem hd_K_nextBad : y_K_nextBad.cls = rn_K ∧ y_K_nextBad.cls ≠ "java/lang/invoke/MethodHandle" ∧ y_K_nextBad.cls ≠ "java/lang/invoke/VarHandle" ∧ (parseMethodDescriptor y_K_nextBad.desc).map (fun d => d.parameters.length) = some 0 := by decide +kernel
theorem g_K_100 : GoodIn wb (wsV rn_K 100 rn_K y_K_nextBad (Cond.code y_K_nextBad b_K_nextBad 3 (some .int) :: wb)) := gw_V kw_438 kw_440 ks_9 kw_4 kw_441
theorem hd_K_goesUp : y_K_goesUp.cls = rn_K ∧ y_K_goesUp.cls ≠ "java/lang/invoke/MethodHandle" ∧ y_K_goesUp.cls ≠ "java/lang/invoke/VarHandle" ∧ (parseMethodDescriptor y_K_goesUp.desc).map (fun d => d.parameters.length) = some 1 := by decide +kernel
theorem g_K_103 : GoodIn wb (wsV rn_K 103 rn_K y_K_goesUp (Cond.code y_K_goesUp b_K_goesUp 2 (some .boolean) :: wb)) := gw_V kw_442 kw_444 ks_10 kw_4 kw_445
theorem hd_K_enterRound : y_K_enterRound.cls = rn_K ∧ y_K_enterRound.cls ≠ "java/lang/invoke/MethodHandle" ∧ y_K_enterRound.cls ≠ "java/lang/invoke/VarHandle" ∧ (parseMethodDescriptor y_K_enterRound.desc).map (fun d => d.parameters.length) = some 1 := by decide +kernel
theorem g_K_106 : GoodIn wb (wsV rn_K 106 rn_K y_K_enterRound (Cond.code y_K_enterRound b_K_enterRound 2 none :: wb)) := gw_V kw_446 kw_448 ks_11 kw_4 kw_449
theorem hd_D_readStretch : y_D_readStretch.cls = rn_D ∧ y_D_readStretch.cls ≠ "java/lang/invoke/MethodHandle" ∧ y_D_readStretch.cls ≠ "java/lang/invoke/VarHandle" ∧ (parseMethodDescriptor y_D_readStretch.desc).map (fun d => d.parameters.length) = some 2 := by decide +kernel
theorem g_K_109 : GoodIn wb (wsV rn_K 109 rn_D y_D_readStretch (Cond.code y_D_readStretch b_D_readStretch 4 (some .boolean) :: wb)) := gw_V kw_398 kw_399 kw_400 kw_2 kw_401
theorem hd_K_currentPhase : y_K_currentPhase.cls = rn_K ∧ y_K_currentPhase.cls ≠ "java/lang/invoke/MethodHandle" ∧ y_K_currentPhase.cls ≠ "java/lang/invoke/VarHandle" ∧ (parseMethodDescriptor y_K_currentPhase.desc).map (fun d => d.parameters.length) = some 0 := by decide +kernel
theorem g_R_74 : GoodIn wb (wsV rn_R 74 rn_K y_K_currentPhase (Cond.code y_K_currentPhase b_K_currentPhase 1 (some .int) :: wb)) := gw_V kw_168 kw_169 kw_170 kw_4 kw_171
theorem hd_K_goesOn : y_K_goesOn.cls = rn_K ∧ y_K_goesOn.cls ≠ "java/lang/invoke/MethodHandle" ∧ y_K_goesOn.cls ≠ "java/lang/invoke/VarHandle" ∧ (parseMethodDescriptor y_K_goesOn.desc).map (fun d => d.parameters.length) = some 0 := by decide +kernel
theorem g_R_88 : GoodIn wb (wsV rn_R 88 rn_K y_K_goesOn (Cond.code y_K_goesOn b_K_goesOn 1 (some .boolean) :: wb)) := gw_V kw_131 kw_132 kw_133 kw_4 kw_134
theorem hd_S_stateOf : y_S_stateOf.cls = rn_S ∧ y_S_stateOf.cls ≠ "java/lang/invoke/MethodHandle" ∧ y_S_stateOf.cls ≠ "java/lang/invoke/VarHandle" ∧ (parseMethodDescriptor y_S_stateOf.desc).map (fun d => d.parameters.length) = some 1 := by decide +kernel
theorem g_R_129 : GoodIn wb (wsV rn_R 129 rn_S y_S_stateOf (Cond.code y_S_stateOf b_S_stateOf 2 (some .int) :: wb)) := gw_V kw_135 kw_136 kw_137 kw_3 kw_138
theorem hd_S_countOf : y_S_countOf.cls = rn_S ∧ y_S_countOf.cls ≠ "java/lang/invoke/MethodHandle" ∧ y_S_countOf.cls ≠ "java/lang/invoke/VarHandle" ∧ (parseMethodDescriptor y_S_countOf.desc).map (fun d => d.parameters.length) = some 1 := by decide +kernel
theorem g_R_139 : GoodIn wb (wsV rn_R 139 rn_S y_S_countOf (Cond.code y_S_countOf b_S_countOf 4 (some .int) :: wb)) := gw_V kw_143 kw_144 kw_145 kw_3 kw_146
theorem hd_S_firstOfRun : y_S_firstOfRun.cls = rn_S ∧ y_S_firstOfRun.cls ≠ "java/lang/invoke/MethodHandle" ∧ y_S_firstOfRun.cls ≠ "java/lang/invoke/VarHandle" ∧ (parseMethodDescriptor y_S_firstOfRun.desc).map (fun d => d.parameters.length) = some 1 := by decide +kernel
theorem g_R_142 : GoodIn wb (wsV rn_R 142 rn_S y_S_firstOfRun (Cond.code y_S_firstOfRun b_S_firstOfRun 4 (some .int) :: wb)) := gw_V kw_151 kw_152 kw_153 kw_3 kw_154
theorem g_R_145 : GoodIn wb (wsV rn_R 145 rn_S y_S_behindStretch (Cond.code y_S_behindStretch b_S_behindStretch 4 (some .int) :: wb)) := gw_V kw_160 kw_161 kw_162 kw_3 kw_163
theorem hd_D_wordOut : y_D_wordOut.cls = rn_D ∧ y_D_wordOut.cls ≠ "java/lang/invoke/MethodHandle" ∧ y_D_wordOut.cls ≠ "java/lang/invoke/VarHandle" ∧ (parseMethodDescriptor y_D_wordOut.desc).map (fun d => d.parameters.length) = some 1 := by decide +kernel
theorem g_R_149 : GoodIn wb (wsV rn_R 149 rn_D y_D_wordOut (Cond.code y_D_wordOut b_D_wordOut 2 (some .int) :: wb)) := gw_V kw_176 kw_177 kw_178 kw_2 kw_179
theorem hd_D_readsOf : y_D_readsOf.cls = rn_D ∧ y_D_readsOf.cls ≠ "java/lang/invoke/MethodHandle" ∧ y_D_readsOf.cls ≠ "java/lang/invoke/VarHandle" ∧ (parseMethodDescriptor y_D_readsOf.desc).map (fun d => d.parameters.length) = some 1 := by decide +kernel
theorem g_R_152 : GoodIn wb (wsV rn_R 152 rn_D y_D_readsOf (Cond.code y_D_readsOf b_D_readsOf 2 (some .int) :: wb)) := gw_V kw_188 kw_189 kw_190 kw_2 kw_191
theorem hd_D_stretchesRead : y_D_stretchesRead.cls = rn_D ∧ y_D_stretchesRead.cls ≠ "java/lang/invoke/MethodHandle" ∧ y_D_stretchesRead.cls ≠ "java/lang/invoke/VarHandle" ∧ (parseMethodDescriptor y_D_stretchesRead.desc).map (fun d => d.parameters.length) = some 1 := by decide +kernel
theorem g_R_155 : GoodIn wb (wsV rn_R 155 rn_D y_D_stretchesRead (Cond.code y_D_stretchesRead b_D_stretchesRead 2 (some .int) :: wb)) := gw_V kw_196 kw_197 kw_198 kw_2 kw_199
theorem hd_V_byteAt : y_V_byteAt.cls = rn_V ∧ y_V_byteAt.cls ≠ "java/lang/invoke/MethodHandle" ∧ y_V_byteAt.cls ≠ "java/lang/invoke/VarHandle" ∧ (parseMethodDescriptor y_V_byteAt.desc).map (fun d => d.parameters.length) = some 2 := by decide +kernel
theorem g_R_159 : GoodIn wb (wsV rn_R 159 rn_V y_V_byteAt (Cond.code y_V_byteAt b_V_byteAt 3 (some .int) :: wb)) := gw_V kw_204 kw_205 kw_206 kw_5 kw_207
theorem g_S_34 : GoodIn wb (wsV rn_S 34 rn_S y_S_stateOf (Cond.code y_S_stateOf b_S_stateOf 2 (some .int) :: wb)) := gw_V kw_159 kw_136 kw_137 kw_3 kw_138
theorem hd_S_startsRun : y_S_startsRun.cls = rn_S ∧ y_S_startsRun.cls ≠ "java/lang/invoke/MethodHandle" ∧ y_S_startsRun.cls ≠ "java/lang/invoke/VarHandle" ∧ (parseMethodDescriptor y_S_startsRun.desc).map (fun d => d.parameters.length) = some 1 := by decide +kernel
theorem g_S_38 : GoodIn wb (wsV rn_S 38 rn_S y_S_startsRun (Cond.code y_S_startsRun b_S_startsRun 2 (some .boolean) :: wb)) := gw_V kw_155 kw_156 kw_157 kw_3 kw_158
theorem hd_V_has : y_V_has.cls = rn_V ∧ y_V_has.cls ≠ "java/lang/invoke/MethodHandle" ∧ y_V_has.cls ≠ "java/lang/invoke/VarHandle" ∧ (parseMethodDescriptor y_V_has.desc).map (fun d => d.parameters.length) = some 2 := by decide +kernel
theorem g_V_30 : GoodIn wb (wsV rn_V 30 rn_V y_V_has (Cond.code y_V_has b_V_has 3 (some .boolean) :: wb)) := gw_V kw_208 kw_209 kw_210 kw_5 kw_211
theorem hd_V_behindNumber : y_V_behindNumber.cls = rn_V ∧ y_V_behindNumber.cls ≠ "java/lang/invoke/MethodHandle" ∧ y_V_behindNumber.cls ≠ "java/lang/invoke/VarHandle" ∧ (parseMethodDescriptor y_V_behindNumber.desc).map (fun d => d.parameters.length) = some 1 := by decide +kernel
theorem g_V_34 : GoodIn wb (wsV rn_V 34 rn_V y_V_behindNumber (Cond.code y_V_behindNumber b_V_behindNumber 2 (some .int) :: wb)) := gw_V kw_469 kw_471 ks_12 kw_5 kw_472
theorem hd_V_draw : y_V_draw.cls = rn_V ∧ y_V_draw.cls ≠ "java/lang/invoke/MethodHandle" ∧ y_V_draw.cls ≠ "java/lang/invoke/VarHandle" ∧ (parseMethodDescriptor y_V_draw.desc).map (fun d => d.parameters.length) = some 1 := by decide +kernel
theorem g_V_38 : GoodIn wb (wsV rn_V 38 rn_V y_V_draw (Cond.code y_V_draw b_V_draw 5 (some .int) :: wb)) := gw_V kw_473 kw_475 ks_13 kw_5 kw_476
theorem hd_V_put : y_V_put.cls = rn_V ∧ y_V_put.cls ≠ "java/lang/invoke/MethodHandle" ∧ y_V_put.cls ≠ "java/lang/invoke/VarHandle" ∧ (parseMethodDescriptor y_V_put.desc).map (fun d => d.parameters.length) = some 3 := by decide +kernel
theorem g_V_48 : GoodIn wb (wsV rn_V 48 rn_V y_V_put (Cond.code y_V_put b_V_put 4 none :: wb)) := gw_V kw_490 kw_491 kw_492 kw_5 kw_493
theorem g_V_52 : GoodIn wb (wsV rn_V 52 rn_S y_S_size (Cond.code y_S_size b_S_size 1 (some .int) :: wb)) := gw_V kw_477 kw_366 kw_367 kw_3 kw_368
theorem g_V_58 : GoodIn wb (wsV rn_V 58 rn_S y_S_startsRun (Cond.code y_S_startsRun b_S_startsRun 2 (some .boolean) :: wb)) := gw_V kw_478 kw_156 kw_157 kw_3 kw_158
theorem hd_V_placeOfRun : y_V_placeOfRun.cls = rn_V ∧ y_V_placeOfRun.cls ≠ "java/lang/invoke/MethodHandle" ∧ y_V_placeOfRun.cls ≠ "java/lang/invoke/VarHandle" ∧ (parseMethodDescriptor y_V_placeOfRun.desc).map (fun d => d.parameters.length) = some 1 := by decide +kernel
theorem g_V_62 : GoodIn wb (wsV rn_V 62 rn_V y_V_placeOfRun (Cond.code y_V_placeOfRun b_V_placeOfRun 2 (some .int) :: wb)) := gw_V kw_479 kw_481 ks_14 kw_5 kw_482
theorem g_V_65 : GoodIn wb (wsV rn_V 65 rn_S y_S_behindStretch (Cond.code y_S_behindStretch b_S_behindStretch 4 (some .int) :: wb)) := gw_V kw_483 kw_161 kw_162 kw_3 kw_163
theorem g_V_68 : GoodIn wb (wsV rn_V 68 rn_S y_S_stateOf (Cond.code y_S_stateOf b_S_stateOf 2 (some .int) :: wb)) := gw_V kw_484 kw_136 kw_137 kw_3 kw_138
theorem hd_V_sumBefore : y_V_sumBefore.cls = rn_V ∧ y_V_sumBefore.cls ≠ "java/lang/invoke/MethodHandle" ∧ y_V_sumBefore.cls ≠ "java/lang/invoke/VarHandle" ∧ (parseMethodDescriptor y_V_sumBefore.desc).map (fun d => d.parameters.length) = some 2 := by decide +kernel
theorem g_V_71 : GoodIn wb (wsV rn_V 71 rn_V y_V_sumBefore (Cond.code y_V_sumBefore b_V_sumBefore 5 (some .int) :: wb)) := gw_V kw_485 kw_487 ks_15 kw_5 kw_488
theorem hd_V_isWhole : y_V_isWhole.cls = rn_V ∧ y_V_isWhole.cls ≠ "java/lang/invoke/MethodHandle" ∧ y_V_isWhole.cls ≠ "java/lang/invoke/VarHandle" ∧ (parseMethodDescriptor y_V_isWhole.desc).map (fun d => d.parameters.length) = some 2 := by decide +kernel
theorem g_V_75 : GoodIn wb (wsV rn_V 75 rn_V y_V_isWhole (Cond.code y_V_isWhole b_V_isWhole 5 (some .boolean) :: wb)) := gw_V kw_518 kw_520 ks_16 kw_5 kw_521
theorem g_V_78 : GoodIn wb (wsV rn_V 78 rn_V y_V_byteAt (Cond.code y_V_byteAt b_V_byteAt 3 (some .int) :: wb)) := gw_V kw_522 kw_205 kw_206 kw_5 kw_207
theorem hd_V_hasRuns : y_V_hasRuns.cls = rn_V ∧ y_V_hasRuns.cls ≠ "java/lang/invoke/MethodHandle" ∧ y_V_hasRuns.cls ≠ "java/lang/invoke/VarHandle" ∧ (parseMethodDescriptor y_V_hasRuns.desc).map (fun d => d.parameters.length) = some 3 := by decide +kernel
theorem g_V_81 : GoodIn wb (wsV rn_V 81 rn_V y_V_hasRuns (Cond.code y_V_hasRuns b_V_hasRuns 9 (some .boolean) :: wb)) := gw_V kw_523 kw_525 ks_17 kw_5 kw_526
theorem g_V_85 : GoodIn wb (wsV rn_V 85 rn_S y_S_mark (Cond.code y_S_mark b_S_mark 6 none :: wb)) := gw_V kw_531 kw_406 kw_407 kw_3 kw_408
def p_K_currentPhase (σ : jS) (post : Int32 → jS → Prop) : Prop :=
  post (σ 8 2) σ
def p_K_goesOn (σ : jS) (post : Int32 → jS → Prop) : Prop :=
  ((σ 8 2) < 0 → bz 0 ∧ post 0 σ) ∧ (¬ (σ 8 2) < 0 → ((6 : Int32) < (σ 8 2) → bz 0 ∧ post 0 σ) ∧ (¬ (6 : Int32) < (σ 8 2) → bz 1 ∧ post 1 σ))
def p_K_forget (σ : jS) (post : jS → Prop) : Prop :=
  post (up2 σ 8 2 (-1))
def p_K_halt (σ : jS) (post : jS → Prop) : Prop :=
  post (up2 σ 8 2 7)
def p_S_size (σ : jS) (post : Int32 → jS → Prop) : Prop :=
  post (σ 6 1) σ
def p_K_enter (σ : jS) (v1 : Int32) (post : jS → Prop) : Prop :=
  (¬ v1 = (1 : Int32) → bz 0 ∧ post (up2 (up2 (up2 (up2 (up2 σ 8 2 v1) 8 4 8) 8 3 0) 8 5 0) 8 7 0)) ∧ (v1 = (1 : Int32) → p_S_size (up2 (up2 σ 8 2 v1) 8 4 8) (fun r2 σ1 => bz 0 ∧ post (up2 (up2 (up2 σ1 8 3 r2) 8 5 0) 8 7 0)))
def p_K_start (σ : jS) (v1 : Int32) (post : jS → Prop) : Prop :=
  p_K_enter (up2 σ 8 6 v1) 0 (fun σ1 => post σ1)
def p_S_firstFrom_6 (post : Int32 → jS → Prop) (v1 : Int32) (v2 : Int32) : Nat → jS → Int32 → Prop
  | 0, _, _ => False
  | n + 1, σ, v3 =>
    ((σ 6 1) ≤ v3 → post (-1) σ) ∧ (¬ (σ 6 1) ≤ v3 → vp_in v3 64 ∧ (¬ (σ 7 v3.toNatClampNeg) = v1 → p_S_firstFrom_6 post v1 v2 n σ (v3 + 1)) ∧ ((σ 7 v3.toNatClampNeg) = v1 → post v3 σ))
def p_S_firstFrom (σ : jS) (v1 : Int32) (v2 : Int32) (post : Int32 → jS → Prop) : Prop :=
  ∃ n, p_S_firstFrom_6 post v1 v2 n σ (if 0 < v2 then v2 else 0)
def p_S_stateOf (σ : jS) (v1 : Int32) (post : Int32 → jS → Prop) : Prop :=
  (v1 < 0 → post (-1) σ) ∧ (¬ v1 < 0 → ((σ 6 1) ≤ v1 → post (-1) σ) ∧ (¬ (σ 6 1) ≤ v1 → vp_in v1 64 ∧ post (σ 7 v1.toNatClampNeg) σ))
def p_S_behindStretch_4 (post : Int32 → jS → Prop) (v1 : Int32) (v2 : Int32) : Nat → jS → Int32 → Prop
  | 0, _, _ => False
  | n + 1, σ, v3 =>
    ((σ 6 1) ≤ v3 → post v3 σ) ∧ (¬ (σ 6 1) ≤ v3 → (v2 ≤ (v3 - v1) → post v3 σ) ∧ (¬ v2 ≤ (v3 - v1) → p_S_stateOf σ v3 (fun r2 σ1 => p_S_stateOf σ1 v1 (fun r4 σ3 => (¬ r2 = r4 → post v3 σ3) ∧ (r2 = r4 → p_S_behindStretch_4 post v1 v2 n σ3 (v3 + 1))))))
def p_S_behindStretch (σ : jS) (v1 : Int32) (v2 : Int32) (post : Int32 → jS → Prop) : Prop :=
  ∃ n, p_S_behindStretch_4 post v1 v2 n σ (v1 + 1)
def p_D_readStretch_31 (post : Int32 → jS → Prop) (v1 : Int32) (v2 : Int32) : Nat → jS → Int32 → Prop
  | 0, _, _ => False
  | n + 1, σ, v3 =>
    (v2 ≤ v3 → (¬ v1 < 0 ∧ ¬ v1 < 0 ∧ ¬ (v2 - v1) < 0 ∧ v1.toNatClampNeg + (v2 - v1).toNatClampNeg ≤ 64 ∧ v1.toNatClampNeg + (v2 - v1).toNatClampNeg ≤ 64) ∧ bz 1 ∧ post 1 (upC σ 5 2 v1.toNatClampNeg v1.toNatClampNeg (v2 - v1).toNatClampNeg)) ∧ (¬ v2 ≤ v3 → vp_in v3 64 ∧ vp_in v3 64 ∧ vp_in v3 64 ∧ (((up2 σ 4 v3.toNatClampNeg ((σ 4 v3.toNatClampNeg) + 1)) 3 v3.toNatClampNeg) = 0 → p_D_readStretch_31 post v1 v2 n (up2 σ 4 v3.toNatClampNeg ((σ 4 v3.toNatClampNeg) + 1)) (v3 + 1)) ∧ (¬ ((up2 σ 4 v3.toNatClampNeg ((σ 4 v3.toNatClampNeg) + 1)) 3 v3.toNatClampNeg) = 0 → vp_in v3 64 ∧ (((up2 σ 4 v3.toNatClampNeg ((σ 4 v3.toNatClampNeg) + 1)) 3 v3.toNatClampNeg) = ((-1) : Int32) → bz 0 ∧ post 0 (up2 (up2 σ 4 v3.toNatClampNeg ((σ 4 v3.toNatClampNeg) + 1)) 1 6 (((up2 σ 4 v3.toNatClampNeg ((σ 4 v3.toNatClampNeg) + 1)) 1 6) + 1))) ∧ (¬ ((up2 σ 4 v3.toNatClampNeg ((σ 4 v3.toNatClampNeg) + 1)) 3 v3.toNatClampNeg) = ((-1) : Int32) → vp_in v3 64 ∧ vp_in v3 64 ∧ bz 0 ∧ post 0 (up2 (up2 (up2 σ 4 v3.toNatClampNeg ((σ 4 v3.toNatClampNeg) + 1)) 3 v3.toNatClampNeg (((up2 σ 4 v3.toNatClampNeg ((σ 4 v3.toNatClampNeg) + 1)) 3 v3.toNatClampNeg) - 1)) 1 6 (((up2 (up2 σ 4 v3.toNatClampNeg ((σ 4 v3.toNatClampNeg) + 1)) 3 v3.toNatClampNeg (((up2 σ 4 v3.toNatClampNeg ((σ 4 v3.toNatClampNeg) + 1)) 3 v3.toNatClampNeg) - 1)) 1 6) + 1)))))
def p_D_readStretch (σ : jS) (v1 : Int32) (v2 : Int32) (post : Int32 → jS → Prop) : Prop :=
  (v1 < 0 → bz 0 ∧ post 0 σ) ∧ (¬ v1 < 0 → (v2 ≤ v1 → bz 0 ∧ post 0 σ) ∧ (¬ v2 ≤ v1 → (v2 ≤ (σ 1 4) → ∃ n, p_D_readStretch_31 post v1 v2 n (up2 σ 1 5 ((σ 1 5) + 1)) v1) ∧ (¬ v2 ≤ (σ 1 4) → bz 0 ∧ post 0 σ)))
def p_S_mark_17 (post : jS → Prop) (v1 : Int32) (v2 : Int32) (v3 : Int32) : Nat → jS → Int32 → Int32 → Prop
  | 0, _, _, _ => False
  | n + 1, σ, v4, v5 =>
    (v4 ≤ v5 → post σ) ∧ (¬ v4 ≤ v5 → vp_in v5 64 ∧ p_S_mark_17 post v1 v2 v3 n (up2 σ 7 v5.toNatClampNeg v3) v4 (v5 + 1))
def p_S_mark (σ : jS) (v1 : Int32) (v2 : Int32) (v3 : Int32) (post : jS → Prop) : Prop :=
  ∃ n, p_S_mark_17 post v1 v2 v3 n σ (if σ 6 1 < v2 then σ 6 1 else v2) (if 0 < v1 then v1 else 0)
def p_K_rescue_27 (post : Int32 → jS → Prop) (v1 : Int32) (v2 : Int32) (v3 : Int32) (σ : jS) (v4 : Int32) (y0 : Int32) (y1 : Int32) (y2 : Int32) : Prop :=
  p_S_mark σ y2 y1 y0 (fun σ3 => bz v4 ∧ post v4 σ3)
def p_K_rescue (σ : jS) (v1 : Int32) (v2 : Int32) (v3 : Int32) (post : Int32 → jS → Prop) : Prop :=
  p_D_readStretch σ v1 v2 (fun r2 σ1 => (r2 = 0 → p_K_rescue_27 post v1 v2 v3 σ1 r2 v3 v2 v1) ∧ (¬ r2 = 0 → p_K_rescue_27 post v1 v2 v3 σ1 r2 4 v2 v1))
def p_K_takeLeap_12 (post : Int32 → jS → Prop) (v1 : Int32) (σ : jS) (y0 : Int32) : Prop :=
  (v1 = 0 → post y0 (up2 σ 8 4 (if 32 < 2 * (σ 8 4) then 32 else 2 * (σ 8 4)))) ∧ (¬ v1 = 0 → post y0 (up2 σ 8 4 8))
def p_K_takeLeap (σ : jS) (v1 : Int32) (post : Int32 → jS → Prop) : Prop :=
  (v1 = 0 → p_K_takeLeap_12 post v1 σ (σ 8 4)) ∧ (¬ v1 = 0 → p_K_takeLeap_12 post v1 σ 0)
def p_K_readForward (σ : jS) (v1 : Int32) (post : Int32 → jS → Prop) : Prop :=
  p_S_firstFrom σ 0 (σ 8 3) (fun r2 σ1 => (¬ r2 = ((-1) : Int32) → p_S_behindStretch σ1 r2 8 (fun r4 σ3 => p_K_rescue σ3 r2 r4 1 (fun r6 σ5 => (v1 = 0 → bz 1 ∧ post 1 (up2 σ5 8 3 (r4 + 0))) ∧ (¬ v1 = 0 → p_K_takeLeap σ5 r6 (fun r8 σ7 => bz 1 ∧ post 1 (up2 σ7 8 3 (r4 + r8))))))) ∧ (r2 = ((-1) : Int32) → bz 0 ∧ post 0 σ1))
def p_S_lastBelow_11 (post : Int32 → jS → Prop) (v1 : Int32) (v2 : Int32) : Nat → jS → Int32 → Prop
  | 0, _, _ => False
  | n + 1, σ, v3 =>
    (v3 < 0 → post (-1) σ) ∧ (¬ v3 < 0 → vp_in v3 64 ∧ (¬ (σ 7 v3.toNatClampNeg) = v1 → p_S_lastBelow_11 post v1 v2 n σ (v3 + (-1))) ∧ ((σ 7 v3.toNatClampNeg) = v1 → post v3 σ))
def p_S_lastBelow (σ : jS) (v1 : Int32) (v2 : Int32) (post : Int32 → jS → Prop) : Prop :=
  ∃ n, p_S_lastBelow_11 post v1 v2 n σ ((if σ 6 1 < v2 then σ 6 1 else v2) - 1)
def p_S_firstOfStretch_2 (post : Int32 → jS → Prop) (v1 : Int32) (v2 : Int32) : Nat → jS → Int32 → Prop
  | 0, _, _ => False
  | n + 1, σ, v3 =>
    (v3 ≤ 0 → post v3 σ) ∧ (¬ v3 ≤ 0 → (v2 ≤ ((v1 - v3) + 1) → post v3 σ) ∧ (¬ v2 ≤ ((v1 - v3) + 1) → p_S_stateOf σ (v3 - 1) (fun r2 σ1 => p_S_stateOf σ1 v1 (fun r4 σ3 => (¬ r2 = r4 → post v3 σ3) ∧ (r2 = r4 → p_S_firstOfStretch_2 post v1 v2 n σ3 (v3 + (-1)))))))
def p_S_firstOfStretch (σ : jS) (v1 : Int32) (v2 : Int32) (post : Int32 → jS → Prop) : Prop :=
  ∃ n, p_S_firstOfStretch_2 post v1 v2 n σ v1
def p_K_readBackward (σ : jS) (post : Int32 → jS → Prop) : Prop :=
  p_S_lastBelow σ 0 (σ 8 3) (fun r2 σ1 => (¬ r2 = ((-1) : Int32) → p_S_firstOfStretch σ1 r2 8 (fun r4 σ3 => p_K_rescue σ3 r4 (r2 + 1) 1 (fun r6 σ5 => p_K_takeLeap σ5 r6 (fun r8 σ7 => bz 1 ∧ post 1 (up2 σ7 8 3 (r4 - r8)))))) ∧ (r2 = ((-1) : Int32) → bz 0 ∧ post 0 σ1))
def p_K_trim_76 (post : Int32 → jS → Prop) (σ : jS) (v1 : Int32) (v2 : Int32) (v4 : Int32) : Prop :=
  (¬ v1 = v2 → (¬ v4 = 0 → bz 1 ∧ post 1 σ) ∧ (v4 = 0 → (¬ (σ 8 7) = 0 → bz 0 ∧ bz 1 ∧ post 1 (up2 σ 8 7 0)) ∧ ((σ 8 7) = 0 → bz 1 ∧ bz 1 ∧ post 1 (up2 σ 8 7 1)))) ∧ (v1 = v2 → bz 0 ∧ bz 1 ∧ post 1 (up2 σ 8 7 0))
def p_K_trim_42 (post : Int32 → jS → Prop) (σ : jS) (v1 : Int32) (v2 : Int32) (y0 : Int32) : Prop :=
  p_K_rescue σ y0 (y0 + 1) 3 (fun r6 σ5 => (¬ r6 = 0 → p_K_trim_76 post σ5 v1 v2 r6) ∧ (r6 = 0 → ((σ5 8 7) = 0 → p_K_trim_76 post σ5 v1 v2 r6) ∧ (¬ (σ5 8 7) = 0 → p_S_mark σ5 v1 v2 2 (fun σ7 => p_K_trim_76 post σ7 v1 v2 r6))))
def p_K_trim (σ : jS) (post : Int32 → jS → Prop) : Prop :=
  p_S_firstFrom σ 1 0 (fun r2 σ1 => (¬ r2 = ((-1) : Int32) → p_S_behindStretch σ1 r2 64 (fun r4 σ3 => ((σ3 8 7) = 0 → p_K_trim_42 post σ3 r2 (r4 - 1) r2) ∧ (¬ (σ3 8 7) = 0 → p_K_trim_42 post σ3 r2 (r4 - 1) (r4 - 1)))) ∧ (r2 = ((-1) : Int32) → bz 0 ∧ post 0 σ1))
def p_K_scrape (σ : jS) (post : Int32 → jS → Prop) : Prop :=
  p_S_firstFrom σ 2 0 (fun r2 σ1 => (¬ r2 = ((-1) : Int32) → p_K_rescue σ1 r2 (r2 + 1) 3 (fun r4 σ3 => bz 1 ∧ post 1 σ3)) ∧ (r2 = ((-1) : Int32) → bz 0 ∧ post 0 σ1))
def p_K_goesUp (σ : jS) (v1 : Int32) (post : Int32 → jS → Prop) : Prop :=
  (¬ (v1 - v1 / 2 * 2) = 0 → bz 0 ∧ post 0 σ) ∧ ((v1 - v1 / 2 * 2) = 0 → bz 1 ∧ post 1 σ)
def p_K_enterRound (σ : jS) (v1 : Int32) (post : jS → Prop) : Prop :=
  p_K_goesUp (up2 σ 8 5 v1) v1 (fun r2 σ1 => (r2 = 0 → p_S_size σ1 (fun r4 σ3 => post (up2 σ3 8 3 r4))) ∧ (¬ r2 = 0 → post (up2 σ1 8 3 0)))
def p_K_nextBad_48 (post : Int32 → jS → Prop) (k5 : jS → Int32 → Prop) (σ : jS) (v1 : Int32) (y0 : Int32) : Prop :=
  (y0 = ((-1) : Int32) → p_K_enterRound σ (v1 + 1) (fun σ5 => k5 σ5 (v1 + 1))) ∧ (¬ y0 = ((-1) : Int32) → post y0 σ)
def p_K_nextBad_5 (post : Int32 → jS → Prop) : Nat → jS → Int32 → Prop
  | 0, _, _ => False
  | n + 1, σ, v1 =>
    ((σ 8 6) ≤ v1 → post (-1) σ) ∧ (¬ (σ 8 6) ≤ v1 → p_K_goesUp σ v1 (fun r2 σ1 => (r2 = 0 → p_S_lastBelow σ1 3 (σ1 8 3) (fun r4 σ3 => p_K_nextBad_48 post (p_K_nextBad_5 post n) σ3 v1 r4)) ∧ (¬ r2 = 0 → p_S_firstFrom σ1 3 (σ1 8 3) (fun r7 σ6 => p_K_nextBad_48 post (p_K_nextBad_5 post n) σ6 v1 r7))))
def p_K_nextBad (σ : jS) (post : Int32 → jS → Prop) : Prop :=
  ∃ n, p_K_nextBad_5 post n σ (σ 8 5)
def p_K_retry (σ : jS) (post : Int32 → jS → Prop) : Prop :=
  p_K_nextBad σ (fun r2 σ1 => (¬ r2 = ((-1) : Int32) → p_K_rescue σ1 r2 (r2 + 1) 3 (fun r4 σ3 => p_K_goesUp σ3 (σ3 8 5) (fun r6 σ5 => (r6 = 0 → bz 1 ∧ post 1 (up2 σ5 8 3 r2)) ∧ (¬ r6 = 0 → bz 1 ∧ post 1 (up2 σ5 8 3 (r2 + 1)))))) ∧ (r2 = ((-1) : Int32) → bz 0 ∧ post 0 σ1))
def p_K_readIn (σ : jS) (v1 : Int32) (post : Int32 → jS → Prop) : Prop :=
  (v1 = 0 → p_K_readForward σ 1 (fun r2 σ1 => bz r2 ∧ post r2 σ1)) ∧ (v1 = 1 → p_K_readBackward σ (fun r4 σ3 => bz r4 ∧ post r4 σ3)) ∧ (v1 = 2 → p_K_readForward σ 0 (fun r6 σ5 => bz r6 ∧ post r6 σ5)) ∧ (v1 = 3 → p_K_trim σ (fun r8 σ7 => bz r8 ∧ post r8 σ7)) ∧ (v1 = 4 → p_K_scrape σ (fun r10 σ9 => bz r10 ∧ post r10 σ9)) ∧ (v1 = 5 → p_K_retry σ (fun r12 σ11 => bz r12 ∧ post r12 σ11)) ∧ ((v1 < 0 ∨ 6 ≤ v1) → bz 0 ∧ post 0 σ)
def p_K_makeStep_5 (post : Int32 → jS → Prop) : Nat → jS → Int32 → Prop
  | 0, _, _ => False
  | n + 1, σ, v1 =>
    ((6 : Int32) ≤ v1 → post 6 σ) ∧ (¬ (6 : Int32) ≤ v1 → p_K_readIn σ v1 (fun r2 σ1 => (r2 = 0 → p_K_enter σ1 (v1 + 1) (fun σ3 => p_K_makeStep_5 post n σ3 (v1 + 1))) ∧ (¬ r2 = 0 → post v1 σ1)))
def p_K_makeStep (σ : jS) (post : Int32 → jS → Prop) : Prop :=
  ∃ n, p_K_makeStep_5 post n σ (σ 8 2)
def p_D_lay (σ : jS) (v1 : Int32) (post : jS → Prop) : Prop :=
  post (upA (upA (upA (upA (up2 (up2 (up2 σ 1 4 v1) 1 5 0) 1 6 0) 2 64 0) 3 64 0) 4 64 0) 5 64 0)
def p_D_size (σ : jS) (post : Int32 → jS → Prop) : Prop :=
  post (σ 1 4) σ
def p_D_has (σ : jS) (v1 : Int32) (post : Int32 → jS → Prop) : Prop :=
  (v1 < 0 → bz 0 ∧ post 0 σ) ∧ (¬ v1 < 0 → ((σ 1 4) ≤ v1 → bz 0 ∧ post 0 σ) ∧ (¬ (σ 1 4) ≤ v1 → bz 1 ∧ post 1 σ))
def p_D_put (σ : jS) (v1 : Int32) (v2 : Int32) (v3 : Int32) (post : jS → Prop) : Prop :=
  p_D_has σ v1 (fun r2 σ1 => (r2 = 0 → post σ1) ∧ (¬ r2 = 0 → vp_in v1 64 ∧ vp_in v1 64 ∧ post (up2 (up2 σ1 2 v1.toNatClampNeg v2) 3 v1.toNatClampNeg v3)))
def p_D_deliver (σ : jS) (v1 : Int32) (v2 : Int32) (post : jS → Prop) : Prop :=
  p_D_has σ v1 (fun r2 σ1 => (r2 = 0 → post σ1) ∧ (¬ r2 = 0 → vp_in v1 64 ∧ post (up2 σ1 5 v1.toNatClampNeg v2)))
def p_D_wordOut (σ : jS) (v1 : Int32) (post : Int32 → jS → Prop) : Prop :=
  p_D_has σ v1 (fun r2 σ1 => (r2 = 0 → post 0 σ1) ∧ (¬ r2 = 0 → vp_in v1 64 ∧ post (σ1 5 v1.toNatClampNeg) σ1))
def p_D_readsOf (σ : jS) (v1 : Int32) (post : Int32 → jS → Prop) : Prop :=
  p_D_has σ v1 (fun r2 σ1 => (r2 = 0 → post 0 σ1) ∧ (¬ r2 = 0 → vp_in v1 64 ∧ post (σ1 4 v1.toNatClampNeg) σ1))
def p_D_stretchesRead (σ : jS) (v1 : Int32) (post : Int32 → jS → Prop) : Prop :=
  (v1 = 0 → post (σ 1 5) σ) ∧ (¬ v1 = 0 → post (σ 1 6) σ)
def p_V_wipe_7 (post : jS → Prop) : Nat → jS → Int32 → Prop
  | 0, _, _ => False
  | n + 1, σ, v1 =>
    ((2 : Int32) ≤ v1 → post σ) ∧ (¬ (2 : Int32) ≤ v1 → vp_in v1 2 ∧ (v1 = 0 → p_V_wipe_7 post n (upA σ 11 140 0) (v1 + 1)) ∧ (¬ v1 = 0 → p_V_wipe_7 post n (upA σ 12 140 0) (v1 + 1)))
def p_V_wipe (σ : jS) (post : jS → Prop) : Prop :=
  ∃ n, p_V_wipe_7 post n (up2 σ 9 2 0) 0
def p_V_has (σ : jS) (v1 : Int32) (v2 : Int32) (post : Int32 → jS → Prop) : Prop :=
  (v1 < 0 → bz 0 ∧ post 0 σ) ∧ (¬ v1 < 0 → ((2 : Int32) ≤ v1 → bz 0 ∧ post 0 σ) ∧ (¬ (2 : Int32) ≤ v1 → (v2 < 0 → bz 0 ∧ post 0 σ) ∧ (¬ v2 < 0 → ((140 : Int32) ≤ v2 → bz 0 ∧ post 0 σ) ∧ (¬ (140 : Int32) ≤ v2 → bz 1 ∧ post 1 σ))))
def p_V_byteAt (σ : jS) (v1 : Int32) (v2 : Int32) (post : Int32 → jS → Prop) : Prop :=
  p_V_has σ v1 v2 (fun r2 σ1 => (r2 = 0 → post (-1) σ1) ∧ (¬ r2 = 0 → vp_in v1 2 ∧ (v1 = 0 → vp_in v2 140 ∧ post (σ1 11 v2.toNatClampNeg) σ1) ∧ (¬ v1 = 0 → vp_in v2 140 ∧ post (σ1 12 v2.toNatClampNeg) σ1)))
def p_V_put (σ : jS) (v1 : Int32) (v2 : Int32) (v3 : Int32) (post : jS → Prop) : Prop :=
  p_V_has σ v1 v2 (fun r2 σ1 => (r2 = 0 → post σ1) ∧ (¬ r2 = 0 → vp_in v1 2 ∧ (v1 = 0 → vp_in v2 140 ∧ post (up2 σ1 11 v2.toNatClampNeg v3)) ∧ (¬ v1 = 0 → vp_in v2 140 ∧ post (up2 σ1 12 v2.toNatClampNeg v3))))
def p_V_behindNumber (σ : jS) (v1 : Int32) (post : Int32 → jS → Prop) : Prop :=
  post ((v1 + 1) - (v1 + 1) / 200 * 200) σ
def p_S_startsRun (σ : jS) (v1 : Int32) (post : Int32 → jS → Prop) : Prop :=
  (v1 = 0 → bz 1 ∧ post 1 σ) ∧ (¬ v1 = 0 → p_S_stateOf σ v1 (fun r2 σ1 => p_S_stateOf σ1 (v1 - 1) (fun r4 σ3 => (r2 = r4 → bz 0 ∧ post 0 σ3) ∧ (¬ r2 = r4 → bz 1 ∧ post 1 σ3))))
def p_V_placeOfRun (σ : jS) (v1 : Int32) (post : Int32 → jS → Prop) : Prop :=
  post (2 + (2 * v1)) σ
def p_V_sumBefore_5 (post : Int32 → jS → Prop) (fa : Nat → Int32) (v2 : Int32) : Nat → jS → Int32 → Int32 → Prop
  | 0, _, _, _ => False
  | n + 1, σ, v3, v4 =>
    (v2 ≤ v4 → post (v3 - v3 / 251 * 251) σ) ∧ (¬ v2 ≤ v4 → ((140 : Int32) ≤ v4 → post (v3 - v3 / 251 * 251) σ) ∧ (¬ (140 : Int32) ≤ v4 → vp_in v4 140 ∧ p_V_sumBefore_5 post fa v2 n σ (v3 + ((fa v4.toNatClampNeg) * (v4 + 1))) (v4 + 1)))
def p_V_sumBefore (fa : Nat → Int32) (σ : jS) (v2 : Int32) (post : Int32 → jS → Prop) : Prop :=
  ∃ n, p_V_sumBefore_5 post fa v2 n σ 0 0
def p_V_draw_60 (post : Int32 → jS → Prop) (k4 : jS → Int32 → Int32 → Prop) (σ : jS) (v2 : Int32) (v3 : Int32) : Prop :=
  k4 σ v2 (v3 + 1)
def p_V_draw_4 (post : Int32 → jS → Prop) : Nat → jS → Int32 → Int32 → Prop
  | 0, _, _, _ => False
  | n + 1, σ, v2, v3 =>
    p_S_size σ (fun r2 σ1 => (r2 ≤ v3 → vp_in 0 140 ∧ vp_in 1 140 ∧ p_V_placeOfRun (up2 (up2 σ1 13 (0 : Int32).toNatClampNeg (σ1 9 2)) 13 (1 : Int32).toNatClampNeg v2) v2 (fun r4 σ3 => p_V_sumBefore (σ3 13) σ3 r4 (fun r6 σ5 => vp_in r4 140 ∧ post (r4 + 1) (up2 σ5 13 r4.toNatClampNeg r6)))) ∧ (¬ r2 ≤ v3 → p_S_startsRun σ1 v3 (fun r8 σ7 => (r8 = 0 → p_V_draw_60 post (p_V_draw_4 post n) σ7 v2 v3) ∧ (¬ r8 = 0 → p_V_placeOfRun σ7 v2 (fun r10 σ9 => p_S_behindStretch σ9 v3 64 (fun r12 σ11 => vp_in r10 140 ∧ p_S_stateOf (up2 σ11 13 r10.toNatClampNeg (r12 - v3)) v3 (fun r14 σ13 => vp_in (r10 + 1) 140 ∧ p_V_draw_60 post (p_V_draw_4 post n) (up2 σ13 13 (r10 + 1).toNatClampNeg r14) (v2 + 1) v3)))))))
def p_V_draw (σ : jS) (post : Int32 → jS → Prop) : Prop :=
  ∃ n, p_V_draw_4 post n σ 0 0
def p_V_write_25 (post : Int32 → jS → Prop) (v2 : Int32) : Nat → jS → Int32 → Int32 → Prop
  | 0, _, _, _ => False
  | n + 1, σ, v3, v4 =>
    (v3 ≤ v4 → post (σ 9 2) σ) ∧ (¬ v3 ≤ v4 → vp_in v4 140 ∧ p_V_put σ ((σ 9 2) - (σ 9 2) / 2 * 2) v4 (σ 13 v4.toNatClampNeg) (fun σ5 => p_V_write_25 post v2 n σ5 v3 (v4 + 1)))
def p_V_write (σ : jS) (v2 : Int32) (post : Int32 → jS → Prop) : Prop :=
  p_V_behindNumber σ (σ 9 2) (fun r2 σ1 => p_V_draw (up2 σ1 9 2 r2) (fun r4 σ3 => ∃ n, p_V_write_25 post v2 n σ3 (if r4 < v2 then r4 else v2) 0))
def p_V_hasRuns_9 (post : Int32 → jS → Prop) (v1 : Int32) (v2 : Int32) (v3 : Int32) : Nat → jS → Int32 → Int32 → Int32 → Prop
  | 0, _, _, _, _ => False
  | n + 1, σ, v4, v5, v6 =>
    (v2 ≤ v6 → (¬ v4 = v3 → bz 0 ∧ post 0 σ) ∧ (v4 = v3 → bz 1 ∧ post 1 σ)) ∧ (¬ v2 ≤ v6 → p_V_placeOfRun σ v6 (fun r2 σ1 => p_V_byteAt σ1 v1 r2 (fun r4 σ3 => p_V_placeOfRun σ3 v6 (fun r6 σ5 => p_V_byteAt σ5 v1 (r6 + 1) (fun r8 σ7 => (r4 = 0 → bz 0 ∧ post 0 σ7) ∧ (¬ r4 = 0 → ((4 : Int32) < r8 → bz 0 ∧ post 0 σ7) ∧ (¬ (4 : Int32) < r8 → (¬ r8 = v5 → p_V_hasRuns_9 post v1 v2 v3 n σ7 (v4 + r4) r8 (v6 + 1)) ∧ (r8 = v5 → bz 0 ∧ post 0 σ7))))))))
def p_V_hasRuns (σ : jS) (v1 : Int32) (v2 : Int32) (v3 : Int32) (post : Int32 → jS → Prop) : Prop :=
  ∃ n, p_V_hasRuns_9 post v1 v2 v3 n σ 0 (-1) 0
def p_V_isWhole (σ : jS) (v1 : Int32) (v2 : Int32) (post : Int32 → jS → Prop) : Prop :=
  p_V_byteAt σ v1 1 (fun r2 σ1 => p_V_byteAt σ1 v1 0 (fun r4 σ3 => ((200 : Int32) ≤ r4 → bz 0 ∧ post 0 σ3) ∧ (¬ (200 : Int32) ≤ r4 → (r2 ≤ v2 → p_V_placeOfRun σ3 r2 (fun r6 σ5 => p_V_hasRuns σ5 v1 r2 v2 (fun r8 σ7 => (r8 = 0 → bz 0 ∧ post 0 σ7) ∧ (¬ r8 = 0 → p_V_byteAt σ7 v1 r6 (fun r10 σ9 => vp_in v1 2 ∧ (v1 = 0 → p_V_sumBefore (σ9 11) σ9 r6 (fun r12 σ11 => (¬ r10 = r12 → bz 0 ∧ post 0 σ11) ∧ (r10 = r12 → bz 1 ∧ post 1 σ11))) ∧ (¬ v1 = 0 → p_V_sumBefore (σ9 12) σ9 r6 (fun r14 σ13 => (¬ r10 = r14 → bz 0 ∧ post 0 σ13) ∧ (r10 = r14 → bz 1 ∧ post 1 σ13)))))))) ∧ (¬ r2 ≤ v2 → bz 0 ∧ post 0 σ3))))
def p_V_newestWhole_47 (post : Int32 → jS → Prop) (v1 : Int32) (σ : jS) (v2 : Int32) (v3 : Int32) : Prop :=
  (v2 = 0 → (v3 = 0 → post (-1) σ) ∧ (¬ v3 = 0 → post 1 σ)) ∧ (¬ v2 = 0 → post 0 σ)
def p_V_newestWhole (σ : jS) (v1 : Int32) (post : Int32 → jS → Prop) : Prop :=
  p_V_isWhole σ 0 v1 (fun r2 σ1 => p_V_isWhole σ1 1 v1 (fun r4 σ3 => (r2 = 0 → p_V_newestWhole_47 post v1 σ3 r2 r4) ∧ (¬ r2 = 0 → (r4 = 0 → p_V_newestWhole_47 post v1 σ3 r2 r4) ∧ (¬ r4 = 0 → p_V_byteAt σ3 1 0 (fun r6 σ5 => p_V_byteAt σ5 0 0 (fun r8 σ7 => p_V_behindNumber σ7 r8 (fun r10 σ9 => (¬ r6 = r10 → post 0 σ9) ∧ (r6 = r10 → post 1 σ9))))))))
def p_V_load_26 (post : jS → Prop) (v1 : Int32) : Nat → jS → Int32 → Int32 → Prop
  | 0, _, _, _ => False
  | n + 1, σ, v3, v4 =>
    p_V_byteAt σ v1 1 (fun r4 σ3 => (r4 ≤ v4 → post σ3) ∧ (¬ r4 ≤ v4 → p_V_placeOfRun σ3 v4 (fun r6 σ5 => p_V_byteAt σ5 v1 r6 (fun r8 σ7 => p_V_placeOfRun σ7 v4 (fun r10 σ9 => p_V_byteAt σ9 v1 (r10 + 1) (fun r12 σ11 => p_S_mark σ11 v3 (v3 + r8) r12 (fun σ13 => p_V_load_26 post v1 n σ13 (v3 + r8) (v4 + 1))))))))
def p_V_load (σ : jS) (v1 : Int32) (post : jS → Prop) : Prop :=
  (¬ v1 = ((-1) : Int32) → p_V_byteAt σ v1 0 (fun r2 σ1 => ∃ n, p_V_load_26 post v1 n (up2 σ1 9 2 r2) 0 0)) ∧ (v1 = ((-1) : Int32) → post (up2 σ 9 2 0))
def p_S_clear (σ : jS) (v1 : Int32) (post : jS → Prop) : Prop :=
  post (upA (up2 σ 6 1 (if 0 < (if 64 < v1 then 64 else v1) then (if 64 < v1 then 64 else v1) else 0)) 7 64 0)
def p_S_countOf_25 (post : Int32 → jS → Prop) (k4 : jS → Int32 → Int32 → Prop) (v1 : Int32) (σ : jS) (v2 : Int32) (v3 : Int32) : Prop :=
  k4 σ v2 (v3 + 1)
def p_S_countOf_4 (post : Int32 → jS → Prop) (v1 : Int32) : Nat → jS → Int32 → Int32 → Prop
  | 0, _, _, _ => False
  | n + 1, σ, v2, v3 =>
    ((σ 6 1) ≤ v3 → post v2 σ) ∧ (¬ (σ 6 1) ≤ v3 → vp_in v3 64 ∧ (¬ (σ 7 v3.toNatClampNeg) = v1 → p_S_countOf_25 post (p_S_countOf_4 post v1 n) v1 σ v2 v3) ∧ ((σ 7 v3.toNatClampNeg) = v1 → p_S_countOf_25 post (p_S_countOf_4 post v1 n) v1 σ (v2 + 1) v3))
def p_S_countOf (σ : jS) (v1 : Int32) (post : Int32 → jS → Prop) : Prop :=
  ∃ n, p_S_countOf_4 post v1 n σ 0 0
def p_S_firstOfRun_30 (post : Int32 → jS → Prop) (k4 : jS → Int32 → Int32 → Prop) (v1 : Int32) (σ : jS) (v2 : Int32) (v3 : Int32) : Prop :=
  k4 σ v2 (v3 + 1)
def p_S_firstOfRun_4 (post : Int32 → jS → Prop) (v1 : Int32) : Nat → jS → Int32 → Int32 → Prop
  | 0, _, _, _ => False
  | n + 1, σ, v2, v3 =>
    ((σ 6 1) ≤ v3 → post (-1) σ) ∧ (¬ (σ 6 1) ≤ v3 → p_S_startsRun σ v3 (fun r2 σ1 => (r2 = 0 → p_S_firstOfRun_30 post (p_S_firstOfRun_4 post v1 n) v1 σ1 v2 v3) ∧ (¬ r2 = 0 → (¬ v2 = v1 → p_S_firstOfRun_30 post (p_S_firstOfRun_4 post v1 n) v1 σ1 (v2 + 1) v3) ∧ (v2 = v1 → post v3 σ1))))
def p_S_firstOfRun (σ : jS) (v1 : Int32) (post : Int32 → jS → Prop) : Prop :=
  ∃ n, p_S_firstOfRun_4 post v1 n σ 0 0
def p_R_state (σ : jS) (v1 : Int32) (post : Int32 → jS → Prop) : Prop :=
  p_K_goesOn σ (fun r2 σ1 => (r2 = 0 → post (-1) σ1) ∧ (¬ r2 = 0 → p_S_stateOf σ1 v1 (fun r4 σ3 => post r4 σ3)))
def p_R_count (σ : jS) (v1 : Int32) (post : Int32 → jS → Prop) : Prop :=
  p_K_goesOn σ (fun r2 σ1 => (r2 = 0 → post 0 σ1) ∧ (¬ r2 = 0 → p_S_countOf σ1 v1 (fun r4 σ3 => post r4 σ3)))
def p_R_part_22 (post : Int32 → jS → Prop) (v1 : Int32) (v2 : Int32) (σ : jS) (y0 : Int32) : Prop :=
  (¬ y0 = ((-1) : Int32) → (v2 = 0 → post y0 σ) ∧ (v2 = 1 → p_S_behindStretch σ y0 64 (fun r4 σ3 => post (r4 - y0) σ3)) ∧ (v2 = 2 → p_S_stateOf σ y0 (fun r6 σ5 => post r6 σ5)) ∧ ((v2 < 0 ∨ 3 ≤ v2) → post (-1) σ)) ∧ (y0 = ((-1) : Int32) → post (-1) σ)
def p_R_part (σ : jS) (v1 : Int32) (v2 : Int32) (post : Int32 → jS → Prop) : Prop :=
  p_K_goesOn σ (fun r2 σ1 => (r2 = 0 → p_R_part_22 post v1 v2 σ1 (-1)) ∧ (¬ r2 = 0 → p_S_firstOfRun σ1 v1 (fun r8 σ7 => p_R_part_22 post v1 v2 σ7 r8)))
def p_R_phase (σ : jS) (post : Int32 → jS → Prop) : Prop :=
  p_K_currentPhase σ (fun r2 σ1 => post r2 σ1)
def p_R_out (σ : jS) (v1 : Int32) (post : Int32 → jS → Prop) : Prop :=
  p_D_wordOut σ v1 (fun r2 σ1 => post r2 σ1)
def p_R_reads (σ : jS) (v1 : Int32) (post : Int32 → jS → Prop) : Prop :=
  p_D_readsOf σ v1 (fun r2 σ1 => post r2 σ1)
def p_R_made (σ : jS) (v1 : Int32) (post : Int32 → jS → Prop) : Prop :=
  p_D_stretchesRead σ v1 (fun r2 σ1 => post r2 σ1)
def p_R_image (σ : jS) (v1 : Int32) (v2 : Int32) (post : Int32 → jS → Prop) : Prop :=
  p_V_byteAt σ v1 v2 (fun r2 σ1 => post r2 σ1)
end
section
section JM
variable {p : Program} {l : Launch} {e : Env} {s : State} {m : MethodId} {args : Array Value} {below : List Frame} {meth : Method} {c : Code} {D : va_G} {A : Nat → Prop} {ad : Nat → Nat} {cI cA cL : ClassId} {F : va_W}
set_option maxRecDepth 100000 in
theorem w_K_currentPhase_0 (X : jv_C p s m args meth c b_K_currentPhase 1 (some .int) y_K_currentPhase wb D jClasses (jTy cI cA cL) A) {post : Int32 → jS → Prop} {σ : jS} (h : p_K_currentPhase σ post) : jv_V p l e (rmk 1 0 0) s m args below meth c D jClasses A 1 0 0 (MQ below (va_Qi post (jv_End D jClasses (jTy cI cA cL) A (fun σ => cw ad cI cA σ F)) A) args s 0 0 A) (cw ad cI cA σ F) [(0, .ref (ad 8))] 0 [] := by
  obtain ⟨B, hml, hown, hts, hK, hA, hr, hlk, hnm⟩ := id X
  unfold p_K_currentPhase at h
  refine jv_aload_n B d_K_currentPhase_0 rfl 0 rfl ?_
  refine fg_K_phaseNow B hts hown hK d_K_currentPhase_1 ?_
  exact jv_iret B hr rfl hlk hK _ rfl h d_K_currentPhase_4
theorem c_K_currentPhase {l : Launch} {D : va_G} {A : Nat → Prop} {ad : Nat → Nat} {cI cA cL : ClassId} {F : va_W} {σ : jS} {post : Int32 → jS → Prop} (h : p_K_currentPhase σ post) : Met l y_K_currentPhase (Cond.code y_K_currentPhase b_K_currentPhase 1 (some .int) :: wb) (rmk 1 0 0) (jv_Pre D jClasses (jTy cI cA cL) A (cw ad cI cA σ F) [.ref (ad 8)]) (va_Qi post (jv_End D jClasses (jTy cI cA cL) A (fun σ => cw ad cI cA σ F)) A) 0 0 A :=
  jv_ofB (by decide) (Nat.le_of_ble_eq_true rfl) (fun p e s m below meth c X => w_K_currentPhase_0 X h)
set_option maxRecDepth 100000 in
theorem w_K_goesOn_0 (X : jv_C p s m args meth c b_K_goesOn 1 (some .boolean) y_K_goesOn wb D jClasses (jTy cI cA cL) A) {post : Int32 → jS → Prop} {σ : jS} (h : p_K_goesOn σ post) : jv_V p l e (rmk 1 0 0) s m args below meth c D jClasses A 1 0 0 (MQ below (va_Qi post (jv_End D jClasses (jTy cI cA cL) A (fun σ => cw ad cI cA σ F)) A) args s 0 0 A) (cw ad cI cA σ F) [(0, .ref (ad 8))] 0 [] := by
  obtain ⟨B, hml, hown, hts, hK, hA, hr, hlk, hnm⟩ := id X
  unfold p_K_goesOn at h
  refine jv_aload_n B d_K_goesOn_0 rfl 0 rfl ?_
  refine fg_K_phaseNow B hts hown hK d_K_goesOn_1 ?_
  refine jv_if_lt (tgt := 20) B d_K_goesOn_4 (by decide) (fun hc => ?_) (fun hc => ?_)
  · replace h := h.1 hc
    refine jv_iconst (v := 0) B d_K_goesOn_20 (by decide) ?_
    exact jv_iret B hr (nz h.1) hlk hK _ rfl h.2 d_K_goesOn_21
  · replace h := h.2 hc
    refine jv_aload_n B d_K_goesOn_7 rfl 0 rfl ?_
    refine fg_K_phaseNow B hts hown hK d_K_goesOn_8 ?_
    refine jv_bipush (v := 6) B d_K_goesOn_11 (by decide) ?_
    refine jv_icmp_gt (tgt := 20) B d_K_goesOn_13 (by decide) (fun hc => ?_) (fun hc => ?_)
    · replace h := h.1 hc
      refine jv_iconst (v := 0) B d_K_goesOn_20 (by decide) ?_
      exact jv_iret B hr (nz h.1) hlk hK _ rfl h.2 d_K_goesOn_21
    · replace h := h.2 hc
      refine jv_iconst (v := 1) B d_K_goesOn_16 (by decide) ?_
      refine jv_goto (tgt := 21) B d_K_goesOn_17 (by decide) ?_
      exact jv_iret B hr (nz h.1) hlk hK _ rfl h.2 d_K_goesOn_21
theorem c_K_goesOn {l : Launch} {D : va_G} {A : Nat → Prop} {ad : Nat → Nat} {cI cA cL : ClassId} {F : va_W} {σ : jS} {post : Int32 → jS → Prop} (h : p_K_goesOn σ post) : Met l y_K_goesOn (Cond.code y_K_goesOn b_K_goesOn 1 (some .boolean) :: wb) (rmk 1 0 0) (jv_Pre D jClasses (jTy cI cA cL) A (cw ad cI cA σ F) [.ref (ad 8)]) (va_Qi post (jv_End D jClasses (jTy cI cA cL) A (fun σ => cw ad cI cA σ F)) A) 0 0 A :=
  jv_ofB (by decide) (Nat.le_of_ble_eq_true rfl) (fun p e s m below meth c X => w_K_goesOn_0 X h)
set_option maxRecDepth 100000 in
theorem w_K_forget_0 (X : jv_C p s m args meth c b_K_forget 1 none y_K_forget wb D jClasses (jTy cI cA cL) A) {post : jS → Prop} {σ : jS} (h : p_K_forget σ post) : jv_V p l e (rmk 1 0 0) s m args below meth c D jClasses A 1 0 0 (MQ below (va_Qv post (jv_End D jClasses (jTy cI cA cL) A (fun σ => cw ad cI cA σ F)) A) args s 0 0 A) (cw ad cI cA σ F) [(0, .ref (ad 8))] 0 [] := by
  obtain ⟨B, hml, hown, hts, hK, hA, hr, hlk, hnm⟩ := id X
  unfold p_K_forget at h
  refine jv_aload_n B d_K_forget_0 rfl 0 rfl ?_
  refine jv_iconst (v := (-1)) B d_K_forget_1 (by decide) ?_
  refine fs_K_phaseNow B hts hown hK d_K_forget_2 ?_
  exact jv_vret B hr hlk hK _ rfl h d_K_forget_5
theorem c_K_forget {l : Launch} {D : va_G} {A : Nat → Prop} {ad : Nat → Nat} {cI cA cL : ClassId} {F : va_W} {σ : jS} {post : jS → Prop} (h : p_K_forget σ post) : Met l y_K_forget (Cond.code y_K_forget b_K_forget 1 none :: wb) (rmk 1 0 0) (jv_Pre D jClasses (jTy cI cA cL) A (cw ad cI cA σ F) [.ref (ad 8)]) (va_Qv post (jv_End D jClasses (jTy cI cA cL) A (fun σ => cw ad cI cA σ F)) A) 0 0 A :=
  jv_ofB (by decide) (Nat.le_of_ble_eq_true rfl) (fun p e s m below meth c X => w_K_forget_0 X h)
set_option maxRecDepth 100000 in
theorem w_K_halt_0 (X : jv_C p s m args meth c b_K_halt 1 none y_K_halt wb D jClasses (jTy cI cA cL) A) {post : jS → Prop} {σ : jS} (h : p_K_halt σ post) : jv_V p l e (rmk 1 0 0) s m args below meth c D jClasses A 1 0 0 (MQ below (va_Qv post (jv_End D jClasses (jTy cI cA cL) A (fun σ => cw ad cI cA σ F)) A) args s 0 0 A) (cw ad cI cA σ F) [(0, .ref (ad 8))] 0 [] := by
  obtain ⟨B, hml, hown, hts, hK, hA, hr, hlk, hnm⟩ := id X
  unfold p_K_halt at h
  refine jv_aload_n B d_K_halt_0 rfl 0 rfl ?_
  refine jv_bipush (v := 7) B d_K_halt_1 (by decide) ?_
  refine fs_K_phaseNow B hts hown hK d_K_halt_3 ?_
  exact jv_vret B hr hlk hK _ rfl h d_K_halt_6
theorem c_K_halt {l : Launch} {D : va_G} {A : Nat → Prop} {ad : Nat → Nat} {cI cA cL : ClassId} {F : va_W} {σ : jS} {post : jS → Prop} (h : p_K_halt σ post) : Met l y_K_halt (Cond.code y_K_halt b_K_halt 1 none :: wb) (rmk 1 0 0) (jv_Pre D jClasses (jTy cI cA cL) A (cw ad cI cA σ F) [.ref (ad 8)]) (va_Qv post (jv_End D jClasses (jTy cI cA cL) A (fun σ => cw ad cI cA σ F)) A) 0 0 A :=
  jv_ofB (by decide) (Nat.le_of_ble_eq_true rfl) (fun p e s m below meth c X => w_K_halt_0 X h)
set_option maxRecDepth 100000 in
theorem w_S_size_0 (X : jv_C p s m args meth c b_S_size 1 (some .int) y_S_size wb D jClasses (jTy cI cA cL) A) {post : Int32 → jS → Prop} {σ : jS} (h : p_S_size σ post) : jv_V p l e (rmk 1 0 0) s m args below meth c D jClasses A 1 0 0 (MQ below (va_Qi post (jv_End D jClasses (jTy cI cA cL) A (fun σ => cw ad cI cA σ F)) A) args s 0 0 A) (cw ad cI cA σ F) [(0, .ref (ad 6))] 0 [] := by
  obtain ⟨B, hml, hown, hts, hK, hA, hr, hlk, hnm⟩ := id X
  unfold p_S_size at h
  refine jv_aload_n B d_S_size_0 rfl 0 rfl ?_
  refine fg_S_sectors B hts hown hK d_S_size_1 ?_
  exact jv_iret B hr rfl hlk hK _ rfl h d_S_size_4
theorem c_S_size {l : Launch} {D : va_G} {A : Nat → Prop} {ad : Nat → Nat} {cI cA cL : ClassId} {F : va_W} {σ : jS} {post : Int32 → jS → Prop} (h : p_S_size σ post) : Met l y_S_size (Cond.code y_S_size b_S_size 1 (some .int) :: wb) (rmk 1 0 0) (jv_Pre D jClasses (jTy cI cA cL) A (cw ad cI cA σ F) [.ref (ad 6)]) (va_Qi post (jv_End D jClasses (jTy cI cA cL) A (fun σ => cw ad cI cA σ F)) A) 0 0 A :=
  jv_ofB (by decide) (Nat.le_of_ble_eq_true rfl) (fun p e s m below meth c X => w_S_size_0 X h)
set_option maxRecDepth 100000 in
theorem w_K_enter_0 (X : jv_C p s m args meth c b_K_enter 2 none y_K_enter wb D jClasses (jTy cI cA cL) A) {post : jS → Prop} {σ : jS} {v1 : Int32} (h : p_K_enter σ v1 post) : jv_V p l e (rmk 2 0 0) s m args below meth c D jClasses A 2 0 0 (MQ below (va_Qv post (jv_End D jClasses (jTy cI cA cL) A (fun σ => cw ad cI cA σ F)) A) args s 0 0 A) (cw ad cI cA σ F) [(0, .ref (ad 8)), (1, .int v1)] 0 [] := by
  obtain ⟨B, hml, hown, hts, hK, hA, hr, hlk, hnm⟩ := id X
  unfold p_K_enter at h
  refine jv_aload_n B d_K_enter_0 rfl 0 rfl ?_
  refine jv_iload_n B d_K_enter_1 rfl 1 rfl ?_
  refine fs_K_phaseNow B hts hown hK d_K_enter_2 ?_
  refine jv_aload_n B d_K_enter_5 rfl 0 rfl ?_
  refine jv_bipush (v := 8) B d_K_enter_6 (by decide) ?_
  refine fs_K_leap B hts hown hK d_K_enter_8 ?_
  refine jv_aload_n B d_K_enter_11 rfl 0 rfl ?_
  refine jv_iload_n B d_K_enter_12 rfl 1 rfl ?_
  refine jv_iconst (v := 1) B d_K_enter_13 (by decide) ?_
  refine jv_icmp_ne (tgt := 27) B d_K_enter_14 (by decide) (fun hc => ?_) (fun hc => ?_)
  · replace h := h.1 hc
    refine jv_iconst (v := 0) B d_K_enter_27 (by decide) ?_
    refine fs_K_position B hts hown hK d_K_enter_28 ?_
    refine jv_aload_n B d_K_enter_31 rfl 0 rfl ?_
    refine jv_iconst (v := 0) B d_K_enter_32 (by decide) ?_
    refine fs_K_round B hts hown hK d_K_enter_33 ?_
    refine jv_aload_n B d_K_enter_36 rfl 0 rfl ?_
    refine jv_iconst (v := 0) B d_K_enter_37 (by decide) ?_
    refine fs_K_trimsLast B hts hown hK h.1 d_K_enter_38 ?_
    replace h := h.2
    exact jv_vret B hr hlk hK _ rfl h d_K_enter_41
  · replace h := h.2 hc
    refine jv_aload_n B d_K_enter_17 rfl 0 rfl ?_
    refine fg_K_map B hts hown hK d_K_enter_18 ?_
    refine jv_civ (As := []) B hml hown hts hK hA (c_S_size (ad := ad) (cI := cI) (cA := cA) (cL := cL) (F := F) h) (cwV 0 hts g_K_33 rfl rfl rfl hd_S_size ⟨Nat.le_of_ble_eq_true rfl, Nat.le_of_ble_eq_true rfl⟩) 6 3 rfl rfl rfl rfl (Nat.le_of_ble_eq_true rfl) d_K_enter_21 ⟨Nat.le_of_ble_eq_true rfl, Nat.le_of_ble_eq_true rfl⟩ rfl (fun r2 σ1 h => ?_)
    refine jv_goto (tgt := 28) B d_K_enter_24 (by decide) ?_
    refine fs_K_position B hts hown hK d_K_enter_28 ?_
    refine jv_aload_n B d_K_enter_31 rfl 0 rfl ?_
    refine jv_iconst (v := 0) B d_K_enter_32 (by decide) ?_
    refine fs_K_round B hts hown hK d_K_enter_33 ?_
    refine jv_aload_n B d_K_enter_36 rfl 0 rfl ?_
    refine jv_iconst (v := 0) B d_K_enter_37 (by decide) ?_
    refine fs_K_trimsLast B hts hown hK h.1 d_K_enter_38 ?_
    replace h := h.2
    exact jv_vret B hr hlk hK _ rfl h d_K_enter_41
theorem c_K_enter {l : Launch} {D : va_G} {A : Nat → Prop} {ad : Nat → Nat} {cI cA cL : ClassId} {F : va_W} {σ : jS} {v1 : Int32} {post : jS → Prop} (h : p_K_enter σ v1 post) : Met l y_K_enter (Cond.code y_K_enter b_K_enter 2 none :: wb) (rmk 2 0 0) (jv_Pre D jClasses (jTy cI cA cL) A (cw ad cI cA σ F) [.ref (ad 8), .int v1]) (va_Qv post (jv_End D jClasses (jTy cI cA cL) A (fun σ => cw ad cI cA σ F)) A) 0 0 A :=
  jv_ofB (by decide) (Nat.le_of_ble_eq_true rfl) (fun p e s m below meth c X => w_K_enter_0 X h)
set_option maxRecDepth 100000 in
theorem w_K_start_0 (X : jv_C p s m args meth c b_K_start 2 none y_K_start wb D jClasses (jTy cI cA cL) A) {post : jS → Prop} {σ : jS} {v1 : Int32} (h : p_K_start σ v1 post) : jv_V p l e (rmk 3 0 0) s m args below meth c D jClasses A 2 0 0 (MQ below (va_Qv post (jv_End D jClasses (jTy cI cA cL) A (fun σ => cw ad cI cA σ F)) A) args s 0 0 A) (cw ad cI cA σ F) [(0, .ref (ad 8)), (1, .int v1)] 0 [] := by
  obtain ⟨B, hml, hown, hts, hK, hA, hr, hlk, hnm⟩ := id X
  unfold p_K_start at h
  refine jv_aload_n B d_K_start_0 rfl 0 rfl ?_
  refine jv_iload_n B d_K_start_1 rfl 1 rfl ?_
  refine fs_K_retryRounds B hts hown hK d_K_start_2 ?_
  refine jv_aload_n B d_K_start_5 rfl 0 rfl ?_
  refine jv_iconst (v := 0) B d_K_start_6 (by decide) ?_
  refine jv_cvv (As := [.int 0]) B hml hown hts hK hA (c_K_enter (ad := ad) (cI := cI) (cA := cA) (cL := cL) (F := F) h) (cwV 1 hts g_K_26 rfl rfl rfl hd_K_enter ⟨Nat.le_of_ble_eq_true rfl, Nat.le_of_ble_eq_true rfl⟩) 8 0 rfl rfl rfl rfl (Nat.le_of_ble_eq_true rfl) d_K_start_7 ⟨Nat.le_of_ble_eq_true rfl, Nat.le_of_ble_eq_true rfl⟩ rfl (fun σ1 h => ?_)
  exact jv_vret B hr hlk hK _ rfl h d_K_start_10
theorem c_K_start {l : Launch} {D : va_G} {A : Nat → Prop} {ad : Nat → Nat} {cI cA cL : ClassId} {F : va_W} {σ : jS} {v1 : Int32} {post : jS → Prop} (h : p_K_start σ v1 post) : Met l y_K_start (Cond.code y_K_start b_K_start 2 none :: wb) (rmk 3 0 0) (jv_Pre D jClasses (jTy cI cA cL) A (cw ad cI cA σ F) [.ref (ad 8), .int v1]) (va_Qv post (jv_End D jClasses (jTy cI cA cL) A (fun σ => cw ad cI cA σ F)) A) 0 0 A :=
  jv_ofB (by decide) (Nat.le_of_ble_eq_true rfl) (fun p e s m below meth c X => w_K_start_0 X h)
set_option maxRecDepth 100000 in
theorem w_S_firstFrom_6 (X : jv_C p s m args meth c b_S_firstFrom 4 (some .int) y_S_firstFrom wb D jClasses (jTy cI cA cL) A) {post : Int32 → jS → Prop} {v1 v2 : Int32} : ∀ (n : Nat), ∀ (σ : jS) (v3 : Int32), p_S_firstFrom_6 post v1 v2 n σ v3 → jv_V p l e (rmk 2 0 0) s m args below meth c D jClasses A 4 0 0 (MQ below (va_Qi post (jv_End D jClasses (jTy cI cA cL) A (fun σ => cw ad cI cA σ F)) A) args s 0 0 A) (cw ad cI cA σ F) [(0, .ref (ad 6)), (1, .int v1), (3, .int v3)] 6 [] := by
  obtain ⟨B, hml, hown, hts, hK, hA, hr, hlk, hnm⟩ := id X
  intro n
  induction n with
  | zero => intro σ v3 h; exact h.elim
  | succ n ih =>
    intro σ v3 h
    rw [p_S_firstFrom_6] at h
    refine jv_iload_n B d_S_firstFrom_6 rfl 2 rfl ?_
    refine jv_aload_n B d_S_firstFrom_7 rfl 0 rfl ?_
    refine fg_S_sectors B hts hown hK d_S_firstFrom_8 ?_
    refine jv_icmp_ge (tgt := 32) B d_S_firstFrom_11 (by decide) (fun hc => ?_) (fun hc => ?_)
    · replace h := h.1 hc
      refine jv_iconst (v := (-1)) B d_S_firstFrom_32 (by decide) ?_
      exact jv_iret B hr rfl hlk hK _ rfl h d_S_firstFrom_33
    · replace h := h.2 hc
      refine jv_aload_n B d_S_firstFrom_14 rfl 0 rfl ?_
      refine fg_S_states B hts hown hK d_S_firstFrom_15 ?_
      refine jv_iload_n B d_S_firstFrom_18 rfl 2 rfl ?_
      refine ld_c_7 B hK h.1 d_S_firstFrom_19 ?_
      replace h := h.2
      refine jv_iload_n B d_S_firstFrom_20 rfl 1 rfl ?_
      refine jv_icmp_ne (tgt := 26) B d_S_firstFrom_21 (by decide) (fun hc => ?_) (fun hc => ?_)
      · replace h := h.1 hc
        refine jv_iinc (n9 := 2) (v := v3 + 1) (lv' := [(3, .int (v3 + 1)), (0, .ref (ad 6)), (1, .int v1)]) B d_S_firstFrom_26 rfl rfl (by decide) rfl ?_
        refine jv_goto (tgt := 6) B d_S_firstFrom_29 (by decide) ?_
        refine jv_sub [1, 2, 0] rfl ?_
        exact ih _ _ h
      · replace h := h.2 hc
        refine jv_iload_n B d_S_firstFrom_24 rfl 2 rfl ?_
        exact jv_iret B hr rfl hlk hK _ rfl h d_S_firstFrom_25
set_option maxRecDepth 100000 in
theorem w_S_firstFrom_0 (X : jv_C p s m args meth c b_S_firstFrom 4 (some .int) y_S_firstFrom wb D jClasses (jTy cI cA cL) A) {post : Int32 → jS → Prop} {σ : jS} {v1 v2 : Int32} (h : p_S_firstFrom σ v1 v2 post) : jv_V p l e (rmk 2 0 0) s m args below meth c D jClasses A 4 0 0 (MQ below (va_Qi post (jv_End D jClasses (jTy cI cA cL) A (fun σ => cw ad cI cA σ F)) A) args s 0 0 A) (cw ad cI cA σ F) [(0, .ref (ad 6)), (1, .int v1), (2, .int v2)] 0 [] := by
  obtain ⟨B, hml, hown, hts, hK, hA, hr, hlk, hnm⟩ := id X
  unfold p_S_firstFrom at h
  refine jv_iconst (v := 0) B d_S_firstFrom_0 (by decide) ?_
  refine jv_iload_n B d_S_firstFrom_1 rfl 2 rfl ?_
  refine jv_mmax B hml hown hts (hts _ kw_353) (Nat.le_of_ble_eq_true rfl) (Nat.le_of_ble_eq_true rfl) (Nat.le_of_ble_eq_true rfl) (Nat.le_of_ble_eq_true rfl) d_S_firstFrom_2 ?_
  refine jv_istore_n (lv' := [(3, .int (if 0 < v2 then v2 else 0)), (0, .ref (ad 6)), (1, .int v1), (2, .int v2)]) B d_S_firstFrom_5 rfl (by decide) rfl ?_
  refine jv_sub [1, 2, 0] rfl ?_
  obtain ⟨n9, h⟩ := h
  exact w_S_firstFrom_6 X n9 _ _ h
theorem c_S_firstFrom {l : Launch} {D : va_G} {A : Nat → Prop} {ad : Nat → Nat} {cI cA cL : ClassId} {F : va_W} {σ : jS} {v1 v2 : Int32} {post : Int32 → jS → Prop} (h : p_S_firstFrom σ v1 v2 post) : Met l y_S_firstFrom (Cond.code y_S_firstFrom b_S_firstFrom 4 (some .int) :: wb) (rmk 2 0 0) (jv_Pre D jClasses (jTy cI cA cL) A (cw ad cI cA σ F) [.ref (ad 6), .int v1, .int v2]) (va_Qi post (jv_End D jClasses (jTy cI cA cL) A (fun σ => cw ad cI cA σ F)) A) 0 0 A :=
  jv_ofB (by decide) (Nat.le_of_ble_eq_true rfl) (fun p e s m below meth c X => w_S_firstFrom_0 X h)
set_option maxRecDepth 100000 in
theorem w_S_stateOf_0 (X : jv_C p s m args meth c b_S_stateOf 2 (some .int) y_S_stateOf wb D jClasses (jTy cI cA cL) A) {post : Int32 → jS → Prop} {σ : jS} {v1 : Int32} (h : p_S_stateOf σ v1 post) : jv_V p l e (rmk 1 0 0) s m args below meth c D jClasses A 2 0 0 (MQ below (va_Qi post (jv_End D jClasses (jTy cI cA cL) A (fun σ => cw ad cI cA σ F)) A) args s 0 0 A) (cw ad cI cA σ F) [(0, .ref (ad 6)), (1, .int v1)] 0 [] := by
  obtain ⟨B, hml, hown, hts, hK, hA, hr, hlk, hnm⟩ := id X
  unfold p_S_stateOf at h
  refine jv_iload_n B d_S_stateOf_0 rfl 1 rfl ?_
  refine jv_if_lt (tgt := 21) B d_S_stateOf_1 (by decide) (fun hc => ?_) (fun hc => ?_)
  · replace h := h.1 hc
    refine jv_iconst (v := (-1)) B d_S_stateOf_21 (by decide) ?_
    exact jv_iret B hr rfl hlk hK _ rfl h d_S_stateOf_22
  · replace h := h.2 hc
    refine jv_iload_n B d_S_stateOf_4 rfl 1 rfl ?_
    refine jv_aload_n B d_S_stateOf_5 rfl 0 rfl ?_
    refine fg_S_sectors B hts hown hK d_S_stateOf_6 ?_
    refine jv_icmp_ge (tgt := 21) B d_S_stateOf_9 (by decide) (fun hc => ?_) (fun hc => ?_)
    · replace h := h.1 hc
      refine jv_iconst (v := (-1)) B d_S_stateOf_21 (by decide) ?_
      exact jv_iret B hr rfl hlk hK _ rfl h d_S_stateOf_22
    · replace h := h.2 hc
      refine jv_aload_n B d_S_stateOf_12 rfl 0 rfl ?_
      refine fg_S_states B hts hown hK d_S_stateOf_13 ?_
      refine jv_iload_n B d_S_stateOf_16 rfl 1 rfl ?_
      refine ld_c_7 B hK h.1 d_S_stateOf_17 ?_
      replace h := h.2
      refine jv_goto (tgt := 22) B d_S_stateOf_18 (by decide) ?_
      exact jv_iret B hr rfl hlk hK _ rfl h d_S_stateOf_22
theorem c_S_stateOf {l : Launch} {D : va_G} {A : Nat → Prop} {ad : Nat → Nat} {cI cA cL : ClassId} {F : va_W} {σ : jS} {v1 : Int32} {post : Int32 → jS → Prop} (h : p_S_stateOf σ v1 post) : Met l y_S_stateOf (Cond.code y_S_stateOf b_S_stateOf 2 (some .int) :: wb) (rmk 1 0 0) (jv_Pre D jClasses (jTy cI cA cL) A (cw ad cI cA σ F) [.ref (ad 6), .int v1]) (va_Qi post (jv_End D jClasses (jTy cI cA cL) A (fun σ => cw ad cI cA σ F)) A) 0 0 A :=
  jv_ofB (by decide) (Nat.le_of_ble_eq_true rfl) (fun p e s m below meth c X => w_S_stateOf_0 X h)
set_option maxRecDepth 100000 in
theorem w_S_behindStretch_4 (X : jv_C p s m args meth c b_S_behindStretch 4 (some .int) y_S_behindStretch wb D jClasses (jTy cI cA cL) A) {post : Int32 → jS → Prop} {v1 v2 : Int32} : ∀ (n : Nat), ∀ (σ : jS) (v3 : Int32), p_S_behindStretch_4 post v1 v2 n σ v3 → jv_V p l e (rmk 2 0 0) s m args below meth c D jClasses A 4 0 0 (MQ below (va_Qi post (jv_End D jClasses (jTy cI cA cL) A (fun σ => cw ad cI cA σ F)) A) args s 0 0 A) (cw ad cI cA σ F) [(0, .ref (ad 6)), (1, .int v1), (2, .int v2), (3, .int v3)] 4 [] := by
  obtain ⟨B, hml, hown, hts, hK, hA, hr, hlk, hnm⟩ := id X
  intro n
  induction n with
  | zero => intro σ v3 h; exact h.elim
  | succ n ih =>
    intro σ v3 h
    rw [p_S_behindStretch_4] at h
    refine jv_iload_n B d_S_behindStretch_4 rfl 3 rfl ?_
    refine jv_aload_n B d_S_behindStretch_5 rfl 0 rfl ?_
    refine fg_S_sectors B hts hown hK d_S_behindStretch_6 ?_
    refine jv_icmp_ge (tgt := 38) B d_S_behindStretch_9 (by decide) (fun hc => ?_) (fun hc => ?_)
    · replace h := h.1 hc
      refine jv_iload_n B d_S_behindStretch_38 rfl 3 rfl ?_
      exact jv_iret B hr rfl hlk hK _ rfl h d_S_behindStretch_39
    · replace h := h.2 hc
      refine jv_iload_n B d_S_behindStretch_12 rfl 3 rfl ?_
      refine jv_iload_n B d_S_behindStretch_13 rfl 1 rfl ?_
      refine jv_isub B d_S_behindStretch_14 ?_
      refine jv_iload_n B d_S_behindStretch_15 rfl 2 rfl ?_
      refine jv_icmp_ge (tgt := 38) B d_S_behindStretch_16 (by decide) (fun hc => ?_) (fun hc => ?_)
      · replace h := h.1 hc
        refine jv_iload_n B d_S_behindStretch_38 rfl 3 rfl ?_
        exact jv_iret B hr rfl hlk hK _ rfl h d_S_behindStretch_39
      · replace h := h.2 hc
        refine jv_aload_n B d_S_behindStretch_19 rfl 0 rfl ?_
        refine jv_iload_n B d_S_behindStretch_20 rfl 3 rfl ?_
        refine jv_civ (As := [.int v3]) B hml hown hts hK hA (c_S_stateOf (ad := ad) (cI := cI) (cA := cA) (cL := cL) (F := F) h) (cwV 1 hts g_S_34 rfl rfl rfl hd_S_stateOf ⟨Nat.le_of_ble_eq_true rfl, Nat.le_of_ble_eq_true rfl⟩) 6 3 rfl rfl rfl rfl (Nat.le_of_ble_eq_true rfl) d_S_behindStretch_21 ⟨Nat.le_of_ble_eq_true rfl, Nat.le_of_ble_eq_true rfl⟩ rfl (fun r2 σ1 h => ?_)
        refine jv_aload_n B d_S_behindStretch_24 rfl 0 rfl ?_
        refine jv_iload_n B d_S_behindStretch_25 rfl 1 rfl ?_
        refine jv_civ (As := [.int v1]) B hml hown hts hK hA (c_S_stateOf (ad := ad) (cI := cI) (cA := cA) (cL := cL) (F := F) h) (cwV 1 hts g_S_34 rfl rfl rfl hd_S_stateOf ⟨Nat.le_of_ble_eq_true rfl, Nat.le_of_ble_eq_true rfl⟩) 6 3 rfl rfl rfl rfl (Nat.le_of_ble_eq_true rfl) d_S_behindStretch_26 ⟨Nat.le_of_ble_eq_true rfl, Nat.le_of_ble_eq_true rfl⟩ rfl (fun r4 σ3 h => ?_)
        refine jv_icmp_ne (tgt := 38) B d_S_behindStretch_29 (by decide) (fun hc => ?_) (fun hc => ?_)
        · replace h := h.1 hc
          refine jv_iload_n B d_S_behindStretch_38 rfl 3 rfl ?_
          exact jv_iret B hr rfl hlk hK _ rfl h d_S_behindStretch_39
        · replace h := h.2 hc
          refine jv_iinc (n9 := 3) (v := v3 + 1) (lv' := [(3, .int (v3 + 1)), (0, .ref (ad 6)), (1, .int v1), (2, .int v2)]) B d_S_behindStretch_32 rfl rfl (by decide) rfl ?_
          refine jv_goto (tgt := 4) B d_S_behindStretch_35 (by decide) ?_
          refine jv_sub [1, 2, 3, 0] rfl ?_
          exact ih _ _ h
set_option maxRecDepth 100000 in
theorem w_S_behindStretch_0 (X : jv_C p s m args meth c b_S_behindStretch 4 (some .int) y_S_behindStretch wb D jClasses (jTy cI cA cL) A) {post : Int32 → jS → Prop} {σ : jS} {v1 v2 : Int32} (h : p_S_behindStretch σ v1 v2 post) : jv_V p l e (rmk 2 0 0) s m args below meth c D jClasses A 4 0 0 (MQ below (va_Qi post (jv_End D jClasses (jTy cI cA cL) A (fun σ => cw ad cI cA σ F)) A) args s 0 0 A) (cw ad cI cA σ F) [(0, .ref (ad 6)), (1, .int v1), (2, .int v2)] 0 [] := by
  obtain ⟨B, hml, hown, hts, hK, hA, hr, hlk, hnm⟩ := id X
  unfold p_S_behindStretch at h
  refine jv_iload_n B d_S_behindStretch_0 rfl 1 rfl ?_
  refine jv_iconst (v := 1) B d_S_behindStretch_1 (by decide) ?_
  refine jv_iadd B d_S_behindStretch_2 ?_
  refine jv_istore_n (lv' := [(3, .int (v1 + 1)), (0, .ref (ad 6)), (1, .int v1), (2, .int v2)]) B d_S_behindStretch_3 rfl (by decide) rfl ?_
  refine jv_sub [1, 2, 3, 0] rfl ?_
  obtain ⟨n9, h⟩ := h
  exact w_S_behindStretch_4 X n9 _ _ h
theorem c_S_behindStretch {l : Launch} {D : va_G} {A : Nat → Prop} {ad : Nat → Nat} {cI cA cL : ClassId} {F : va_W} {σ : jS} {v1 v2 : Int32} {post : Int32 → jS → Prop} (h : p_S_behindStretch σ v1 v2 post) : Met l y_S_behindStretch (Cond.code y_S_behindStretch b_S_behindStretch 4 (some .int) :: wb) (rmk 2 0 0) (jv_Pre D jClasses (jTy cI cA cL) A (cw ad cI cA σ F) [.ref (ad 6), .int v1, .int v2]) (va_Qi post (jv_End D jClasses (jTy cI cA cL) A (fun σ => cw ad cI cA σ F)) A) 0 0 A :=
  jv_ofB (by decide) (Nat.le_of_ble_eq_true rfl) (fun p e s m below meth c X => w_S_behindStretch_0 X h)
set_option maxRecDepth 100000 in
theorem w_D_readStretch_31 (X : jv_C p s m args meth c b_D_readStretch 4 (some .boolean) y_D_readStretch wb D jClasses (jTy cI cA cL) A) {post : Int32 → jS → Prop} {v1 v2 : Int32} : ∀ (n : Nat), ∀ (σ : jS) (v3 : Int32), p_D_readStretch_31 post v1 v2 n σ v3 → jv_V p l e (rmk 2 0 0) s m args below meth c D jClasses A 4 0 0 (MQ below (va_Qi post (jv_End D jClasses (jTy cI cA cL) A (fun σ => cw ad cI cA σ F)) A) args s 0 0 A) (cw ad cI cA σ F) [(0, .ref (ad 1)), (1, .int v1), (2, .int v2), (3, .int v3)] 31 [] := by
  obtain ⟨B, hml, hown, hts, hK, hA, hr, hlk, hnm⟩ := id X
  intro n
  induction n with
  | zero => intro σ v3 h; exact h.elim
  | succ n ih =>
    intro σ v3 h
    rw [p_D_readStretch_31] at h
    refine jv_iload_n B d_D_readStretch_31 rfl 3 rfl ?_
    refine jv_iload_n B d_D_readStretch_32 rfl 2 rfl ?_
    refine jv_icmp_ge (tgt := 93) B d_D_readStretch_33 (by decide) (fun hc => ?_) (fun hc => ?_)
    · replace h := h.1 hc
      refine jv_aload_n B d_D_readStretch_93 rfl 0 rfl ?_
      refine fg_D_words B hts hown hK d_D_readStretch_94 ?_
      refine jv_iload_n B d_D_readStretch_97 rfl 1 rfl ?_
      refine jv_aload_n B d_D_readStretch_98 rfl 0 rfl ?_
      refine fg_D_target B hts hown hK d_D_readStretch_99 ?_
      refine jv_iload_n B d_D_readStretch_102 rfl 1 rfl ?_
      refine jv_iload_n B d_D_readStretch_103 rfl 2 rfl ?_
      refine jv_iload_n B d_D_readStretch_104 rfl 1 rfl ?_
      refine jv_isub B d_D_readStretch_105 ?_
      refine jv_copy (ws' := cw ad cI cA (upC σ 5 2 v1.toNatClampNeg v1.toNatClampNeg (v2 - v1).toNatClampNeg) F) B hml hown hts hK (hts _ kw_402) 2 5 rfl rfl rfl h.1 rfl (Nat.le_of_ble_eq_true rfl) (Nat.le_of_ble_eq_true rfl) d_D_readStretch_106 ?_
      replace h := h.2
      refine jv_iconst (v := 1) B d_D_readStretch_109 (by decide) ?_
      exact jv_iret B hr (nz h.1) hlk hK _ rfl h.2 d_D_readStretch_110
    · replace h := h.2 hc
      refine jv_aload_n B d_D_readStretch_36 rfl 0 rfl ?_
      refine fg_D_readCounts B hts hown hK d_D_readStretch_37 ?_
      refine jv_iload_n B d_D_readStretch_40 rfl 3 rfl ?_
      refine jv_dup2 B d_D_readStretch_41 rfl rfl ?_
      refine ld_c_4 B hK h.1 d_D_readStretch_42 ?_
      replace h := h.2
      refine jv_iconst (v := 1) B d_D_readStretch_43 (by decide) ?_
      refine jv_iadd B d_D_readStretch_44 ?_
      refine sd_c_4 B hK h.1 d_D_readStretch_45 ?_
      replace h := h.2
      refine jv_aload_n B d_D_readStretch_46 rfl 0 rfl ?_
      refine fg_D_failuresLeft B hts hown hK d_D_readStretch_47 ?_
      refine jv_iload_n B d_D_readStretch_50 rfl 3 rfl ?_
      refine ld_c_3 B hK h.1 d_D_readStretch_51 ?_
      replace h := h.2
      refine jv_if_eq (tgt := 87) B d_D_readStretch_52 (by decide) (fun hc => ?_) (fun hc => ?_)
      · replace h := h.1 hc
        refine jv_iinc (n9 := 3) (v := v3 + 1) (lv' := [(3, .int (v3 + 1)), (0, .ref (ad 1)), (1, .int v1), (2, .int v2)]) B d_D_readStretch_87 rfl rfl (by decide) rfl ?_
        refine jv_goto (tgt := 31) B d_D_readStretch_90 (by decide) ?_
        refine jv_sub [1, 2, 3, 0] rfl ?_
        exact ih _ _ h
      · replace h := h.2 hc
        refine jv_aload_n B d_D_readStretch_55 rfl 0 rfl ?_
        refine fg_D_failuresLeft B hts hown hK d_D_readStretch_56 ?_
        refine jv_iload_n B d_D_readStretch_59 rfl 3 rfl ?_
        refine ld_c_3 B hK h.1 d_D_readStretch_60 ?_
        replace h := h.2
        refine jv_iconst (v := (-1)) B d_D_readStretch_61 (by decide) ?_
        refine jv_icmp_eq (tgt := 75) B d_D_readStretch_62 (by decide) (fun hc => ?_) (fun hc => ?_)
        · replace h := h.1 hc
          refine jv_aload_n B d_D_readStretch_75 rfl 0 rfl ?_
          refine jv_dup B d_D_readStretch_76 rfl ?_
          refine fg_D_failedStretches B hts hown hK d_D_readStretch_77 ?_
          refine jv_iconst (v := 1) B d_D_readStretch_80 (by decide) ?_
          refine jv_iadd B d_D_readStretch_81 ?_
          refine fs_D_failedStretches B hts hown hK d_D_readStretch_82 ?_
          refine jv_iconst (v := 0) B d_D_readStretch_85 (by decide) ?_
          exact jv_iret B hr (nz h.1) hlk hK _ rfl h.2 d_D_readStretch_86
        · replace h := h.2 hc
          refine jv_aload_n B d_D_readStretch_65 rfl 0 rfl ?_
          refine fg_D_failuresLeft B hts hown hK d_D_readStretch_66 ?_
          refine jv_iload_n B d_D_readStretch_69 rfl 3 rfl ?_
          refine jv_dup2 B d_D_readStretch_70 rfl rfl ?_
          refine ld_c_3 B hK h.1 d_D_readStretch_71 ?_
          replace h := h.2
          refine jv_iconst (v := 1) B d_D_readStretch_72 (by decide) ?_
          refine jv_isub B d_D_readStretch_73 ?_
          refine sd_c_3 B hK h.1 d_D_readStretch_74 ?_
          replace h := h.2
          refine jv_aload_n B d_D_readStretch_75 rfl 0 rfl ?_
          refine jv_dup B d_D_readStretch_76 rfl ?_
          refine fg_D_failedStretches B hts hown hK d_D_readStretch_77 ?_
          refine jv_iconst (v := 1) B d_D_readStretch_80 (by decide) ?_
          refine jv_iadd B d_D_readStretch_81 ?_
          refine fs_D_failedStretches B hts hown hK d_D_readStretch_82 ?_
          refine jv_iconst (v := 0) B d_D_readStretch_85 (by decide) ?_
          exact jv_iret B hr (nz h.1) hlk hK _ rfl h.2 d_D_readStretch_86
set_option maxRecDepth 100000 in
theorem w_D_readStretch_0 (X : jv_C p s m args meth c b_D_readStretch 4 (some .boolean) y_D_readStretch wb D jClasses (jTy cI cA cL) A) {post : Int32 → jS → Prop} {σ : jS} {v1 v2 : Int32} (h : p_D_readStretch σ v1 v2 post) : jv_V p l e (rmk 2 0 0) s m args below meth c D jClasses A 4 0 0 (MQ below (va_Qi post (jv_End D jClasses (jTy cI cA cL) A (fun σ => cw ad cI cA σ F)) A) args s 0 0 A) (cw ad cI cA σ F) [(0, .ref (ad 1)), (1, .int v1), (2, .int v2)] 0 [] := by
  obtain ⟨B, hml, hown, hts, hK, hA, hr, hlk, hnm⟩ := id X
  unfold p_D_readStretch at h
  refine jv_iload_n B d_D_readStretch_0 rfl 1 rfl ?_
  refine jv_if_lt (tgt := 17) B d_D_readStretch_1 (by decide) (fun hc => ?_) (fun hc => ?_)
  · replace h := h.1 hc
    refine jv_iconst (v := 0) B d_D_readStretch_17 (by decide) ?_
    exact jv_iret B hr (nz h.1) hlk hK _ rfl h.2 d_D_readStretch_18
  · replace h := h.2 hc
    refine jv_iload_n B d_D_readStretch_4 rfl 1 rfl ?_
    refine jv_iload_n B d_D_readStretch_5 rfl 2 rfl ?_
    refine jv_icmp_ge (tgt := 17) B d_D_readStretch_6 (by decide) (fun hc => ?_) (fun hc => ?_)
    · replace h := h.1 hc
      refine jv_iconst (v := 0) B d_D_readStretch_17 (by decide) ?_
      exact jv_iret B hr (nz h.1) hlk hK _ rfl h.2 d_D_readStretch_18
    · replace h := h.2 hc
      refine jv_iload_n B d_D_readStretch_9 rfl 2 rfl ?_
      refine jv_aload_n B d_D_readStretch_10 rfl 0 rfl ?_
      refine fg_D_sectors B hts hown hK d_D_readStretch_11 ?_
      refine jv_icmp_le (tgt := 19) B d_D_readStretch_14 (by decide) (fun hc => ?_) (fun hc => ?_)
      · replace h := h.1 hc
        refine jv_aload_n B d_D_readStretch_19 rfl 0 rfl ?_
        refine jv_dup B d_D_readStretch_20 rfl ?_
        refine fg_D_stretches B hts hown hK d_D_readStretch_21 ?_
        refine jv_iconst (v := 1) B d_D_readStretch_24 (by decide) ?_
        refine jv_iadd B d_D_readStretch_25 ?_
        refine fs_D_stretches B hts hown hK d_D_readStretch_26 ?_
        refine jv_iload_n B d_D_readStretch_29 rfl 1 rfl ?_
        refine jv_istore_n (lv' := [(3, .int v1), (0, .ref (ad 1)), (1, .int v1), (2, .int v2)]) B d_D_readStretch_30 rfl (by decide) rfl ?_
        refine jv_sub [1, 2, 3, 0] rfl ?_
        obtain ⟨n9, h⟩ := h
        exact w_D_readStretch_31 X n9 _ _ h
      · replace h := h.2 hc
        refine jv_iconst (v := 0) B d_D_readStretch_17 (by decide) ?_
        exact jv_iret B hr (nz h.1) hlk hK _ rfl h.2 d_D_readStretch_18
theorem c_D_readStretch {l : Launch} {D : va_G} {A : Nat → Prop} {ad : Nat → Nat} {cI cA cL : ClassId} {F : va_W} {σ : jS} {v1 v2 : Int32} {post : Int32 → jS → Prop} (h : p_D_readStretch σ v1 v2 post) : Met l y_D_readStretch (Cond.code y_D_readStretch b_D_readStretch 4 (some .boolean) :: wb) (rmk 2 0 0) (jv_Pre D jClasses (jTy cI cA cL) A (cw ad cI cA σ F) [.ref (ad 1), .int v1, .int v2]) (va_Qi post (jv_End D jClasses (jTy cI cA cL) A (fun σ => cw ad cI cA σ F)) A) 0 0 A :=
  jv_ofB (by decide) (Nat.le_of_ble_eq_true rfl) (fun p e s m below meth c X => w_D_readStretch_0 X h)
set_option maxRecDepth 100000 in
theorem w_S_mark_17 (X : jv_C p s m args meth c b_S_mark 6 none y_S_mark wb D jClasses (jTy cI cA cL) A) {post : jS → Prop} {v1 v2 v3 : Int32} : ∀ (n : Nat), ∀ (σ : jS) (v4 v5 : Int32), p_S_mark_17 post v1 v2 v3 n σ v4 v5 → jv_V p l e (rmk 2 0 0) s m args below meth c D jClasses A 6 0 0 (MQ below (va_Qv post (jv_End D jClasses (jTy cI cA cL) A (fun σ => cw ad cI cA σ F)) A) args s 0 0 A) (cw ad cI cA σ F) [(0, .ref (ad 6)), (3, .int v3), (4, .int v4), (5, .int v5)] 17 [] := by
  obtain ⟨B, hml, hown, hts, hK, hA, hr, hlk, hnm⟩ := id X
  intro n
  induction n with
  | zero => intro σ v4 v5 h; exact h.elim
  | succ n ih =>
    intro σ v4 v5 h
    rw [p_S_mark_17] at h
    refine jv_iload B d_S_mark_17 3 rfl ?_
    refine jv_iload B d_S_mark_19 2 rfl ?_
    refine jv_icmp_ge (tgt := 38) B d_S_mark_21 (by decide) (fun hc => ?_) (fun hc => ?_)
    · replace h := h.1 hc
      exact jv_vret B hr hlk hK _ rfl h d_S_mark_38
    · replace h := h.2 hc
      refine jv_aload_n B d_S_mark_24 rfl 0 rfl ?_
      refine fg_S_states B hts hown hK d_S_mark_25 ?_
      refine jv_iload B d_S_mark_28 3 rfl ?_
      refine jv_iload_n B d_S_mark_30 rfl 1 rfl ?_
      refine sd_c_7 B hK h.1 d_S_mark_31 ?_
      replace h := h.2
      refine jv_iinc (n9 := 3) (v := v5 + 1) (lv' := [(5, .int (v5 + 1)), (0, .ref (ad 6)), (3, .int v3), (4, .int v4)]) B d_S_mark_32 rfl rfl (by decide) rfl ?_
      refine jv_goto (tgt := 17) B d_S_mark_35 (by decide) ?_
      refine jv_sub [1, 2, 3, 0] rfl ?_
      exact ih _ _ _ h
set_option maxRecDepth 100000 in
theorem w_S_mark_0 (X : jv_C p s m args meth c b_S_mark 6 none y_S_mark wb D jClasses (jTy cI cA cL) A) {post : jS → Prop} {σ : jS} {v1 v2 v3 : Int32} (h : p_S_mark σ v1 v2 v3 post) : jv_V p l e (rmk 2 0 0) s m args below meth c D jClasses A 6 0 0 (MQ below (va_Qv post (jv_End D jClasses (jTy cI cA cL) A (fun σ => cw ad cI cA σ F)) A) args s 0 0 A) (cw ad cI cA σ F) [(0, .ref (ad 6)), (1, .int v1), (2, .int v2), (3, .int v3)] 0 [] := by
  obtain ⟨B, hml, hown, hts, hK, hA, hr, hlk, hnm⟩ := id X
  unfold p_S_mark at h
  refine jv_iload_n B d_S_mark_0 rfl 2 rfl ?_
  refine jv_aload_n B d_S_mark_1 rfl 0 rfl ?_
  refine fg_S_sectors B hts hown hK d_S_mark_2 ?_
  refine jv_mmin B hml hown hts (hts _ kw_350) (Nat.le_of_ble_eq_true rfl) (Nat.le_of_ble_eq_true rfl) (Nat.le_of_ble_eq_true rfl) (Nat.le_of_ble_eq_true rfl) d_S_mark_5 ?_
  refine jv_istore (lv' := [(4, .int (if σ 6 1 < v2 then σ 6 1 else v2)), (0, .ref (ad 6)), (1, .int v1), (2, .int v2), (3, .int v3)]) B d_S_mark_8 (by decide) rfl ?_
  refine jv_iconst (v := 0) B d_S_mark_10 (by decide) ?_
  refine jv_iload_n B d_S_mark_11 rfl 2 rfl ?_
  refine jv_mmax B hml hown hts (hts _ kw_353) (Nat.le_of_ble_eq_true rfl) (Nat.le_of_ble_eq_true rfl) (Nat.le_of_ble_eq_true rfl) (Nat.le_of_ble_eq_true rfl) d_S_mark_12 ?_
  refine jv_istore (lv' := [(5, .int (if 0 < v1 then v1 else 0)), (4, .int (if σ 6 1 < v2 then σ 6 1 else v2)), (0, .ref (ad 6)), (1, .int v1), (2, .int v2), (3, .int v3)]) B d_S_mark_15 (by decide) rfl ?_
  refine jv_sub [2, 5, 1, 0] rfl ?_
  obtain ⟨n9, h⟩ := h
  exact w_S_mark_17 X n9 _ _ _ h
theorem c_S_mark {l : Launch} {D : va_G} {A : Nat → Prop} {ad : Nat → Nat} {cI cA cL : ClassId} {F : va_W} {σ : jS} {v1 v2 v3 : Int32} {post : jS → Prop} (h : p_S_mark σ v1 v2 v3 post) : Met l y_S_mark (Cond.code y_S_mark b_S_mark 6 none :: wb) (rmk 2 0 0) (jv_Pre D jClasses (jTy cI cA cL) A (cw ad cI cA σ F) [.ref (ad 6), .int v1, .int v2, .int v3]) (va_Qv post (jv_End D jClasses (jTy cI cA cL) A (fun σ => cw ad cI cA σ F)) A) 0 0 A :=
  jv_ofB (by decide) (Nat.le_of_ble_eq_true rfl) (fun p e s m below meth c X => w_S_mark_0 X h)
set_option maxRecDepth 100000 in
theorem w_K_rescue_27 (X : jv_C p s m args meth c b_K_rescue 5 (some .boolean) y_K_rescue wb D jClasses (jTy cI cA cL) A) {post : Int32 → jS → Prop} {v1 v2 v3 : Int32} {σ : jS} {v4 y0 y1 y2 : Int32} (h : p_K_rescue_27 post v1 v2 v3 σ v4 y0 y1 y2) : jv_V p l e (rmk 3 0 0) s m args below meth c D jClasses A 5 0 0 (MQ below (va_Qi post (jv_End D jClasses (jTy cI cA cL) A (fun σ => cw ad cI cA σ F)) A) args s 0 0 A) (cw ad cI cA σ F) [(4, .int v4)] 27 [.int y0, .int y1, .int y2, .ref (ad 6)] := by
  obtain ⟨B, hml, hown, hts, hK, hA, hr, hlk, hnm⟩ := id X
  unfold p_K_rescue_27 at h
  refine jv_cvv (As := [.int y2, .int y1, .int y0]) B hml hown hts hK hA (c_S_mark (ad := ad) (cI := cI) (cA := cA) (cL := cL) (F := F) h) (cwV 3 hts g_K_96 rfl rfl rfl hd_S_mark ⟨Nat.le_of_ble_eq_true rfl, Nat.le_of_ble_eq_true rfl⟩) 6 3 rfl rfl rfl rfl (Nat.le_of_ble_eq_true rfl) d_K_rescue_27 ⟨Nat.le_of_ble_eq_true rfl, Nat.le_of_ble_eq_true rfl⟩ rfl (fun σ3 h => ?_)
  refine jv_iload B d_K_rescue_30 0 rfl ?_
  exact jv_iret B hr (nz h.1) hlk hK _ rfl h.2 d_K_rescue_32
set_option maxRecDepth 100000 in
theorem w_K_rescue_0 (X : jv_C p s m args meth c b_K_rescue 5 (some .boolean) y_K_rescue wb D jClasses (jTy cI cA cL) A) {post : Int32 → jS → Prop} {σ : jS} {v1 v2 v3 : Int32} (h : p_K_rescue σ v1 v2 v3 post) : jv_V p l e (rmk 3 0 0) s m args below meth c D jClasses A 5 0 0 (MQ below (va_Qi post (jv_End D jClasses (jTy cI cA cL) A (fun σ => cw ad cI cA σ F)) A) args s 0 0 A) (cw ad cI cA σ F) [(0, .ref (ad 8)), (1, .int v1), (2, .int v2), (3, .int v3)] 0 [] := by
  obtain ⟨B, hml, hown, hts, hK, hA, hr, hlk, hnm⟩ := id X
  unfold p_K_rescue at h
  refine jv_aload_n B d_K_rescue_0 rfl 0 rfl ?_
  refine fg_K_disk B hts hown hK d_K_rescue_1 ?_
  refine jv_iload_n B d_K_rescue_4 rfl 1 rfl ?_
  refine jv_iload_n B d_K_rescue_5 rfl 2 rfl ?_
  refine jv_civ (As := [.int v1, .int v2]) B hml hown hts hK hA (c_D_readStretch (ad := ad) (cI := cI) (cA := cA) (cL := cL) (F := F) h) (cwV 2 hts g_K_109 rfl rfl rfl hd_D_readStretch ⟨Nat.le_of_ble_eq_true rfl, Nat.le_of_ble_eq_true rfl⟩) 1 1 rfl rfl rfl rfl (Nat.le_of_ble_eq_true rfl) d_K_rescue_6 ⟨Nat.le_of_ble_eq_true rfl, Nat.le_of_ble_eq_true rfl⟩ rfl (fun r2 σ1 h => ?_)
  refine jv_istore (lv' := [(4, .int r2), (0, .ref (ad 8)), (1, .int v1), (2, .int v2), (3, .int v3)]) B d_K_rescue_9 (by decide) rfl ?_
  refine jv_aload_n B d_K_rescue_11 rfl 1 rfl ?_
  refine fg_K_map B hts hown hK d_K_rescue_12 ?_
  refine jv_iload_n B d_K_rescue_15 rfl 2 rfl ?_
  refine jv_iload_n B d_K_rescue_16 rfl 3 rfl ?_
  refine jv_iload B d_K_rescue_17 0 rfl ?_
  refine jv_if_eq (tgt := 26) B d_K_rescue_19 (by decide) (fun hc => ?_) (fun hc => ?_)
  · replace h := h.1 hc
    refine jv_iload_n B d_K_rescue_26 rfl 4 rfl ?_
    refine jv_sub [0] rfl ?_
    exact w_K_rescue_27 X h
  · replace h := h.2 hc
    refine jv_iconst (v := 4) B d_K_rescue_22 (by decide) ?_
    refine jv_goto (tgt := 27) B d_K_rescue_23 (by decide) ?_
    refine jv_sub [0] rfl ?_
    exact w_K_rescue_27 X h
theorem c_K_rescue {l : Launch} {D : va_G} {A : Nat → Prop} {ad : Nat → Nat} {cI cA cL : ClassId} {F : va_W} {σ : jS} {v1 v2 v3 : Int32} {post : Int32 → jS → Prop} (h : p_K_rescue σ v1 v2 v3 post) : Met l y_K_rescue (Cond.code y_K_rescue b_K_rescue 5 (some .boolean) :: wb) (rmk 3 0 0) (jv_Pre D jClasses (jTy cI cA cL) A (cw ad cI cA σ F) [.ref (ad 8), .int v1, .int v2, .int v3]) (va_Qi post (jv_End D jClasses (jTy cI cA cL) A (fun σ => cw ad cI cA σ F)) A) 0 0 A :=
  jv_ofB (by decide) (Nat.le_of_ble_eq_true rfl) (fun p e s m below meth c X => w_K_rescue_0 X h)
set_option maxRecDepth 100000 in
theorem w_K_takeLeap_12 (X : jv_C p s m args meth c b_K_takeLeap 3 (some .int) y_K_takeLeap wb D jClasses (jTy cI cA cL) A) {post : Int32 → jS → Prop} {v1 : Int32} {σ : jS} {y0 : Int32} (h : p_K_takeLeap_12 post v1 σ y0) : jv_V p l e (rmk 2 0 0) s m args below meth c D jClasses A 3 0 0 (MQ below (va_Qi post (jv_End D jClasses (jTy cI cA cL) A (fun σ => cw ad cI cA σ F)) A) args s 0 0 A) (cw ad cI cA σ F) [(0, .ref (ad 8)), (1, .int v1)] 12 [.int y0] := by
  obtain ⟨B, hml, hown, hts, hK, hA, hr, hlk, hnm⟩ := id X
  unfold p_K_takeLeap_12 at h
  refine jv_istore_n (lv' := [(2, .int y0), (0, .ref (ad 8)), (1, .int v1)]) B d_K_takeLeap_12 rfl (by decide) rfl ?_
  refine jv_aload_n B d_K_takeLeap_13 rfl 1 rfl ?_
  refine jv_iload_n B d_K_takeLeap_14 rfl 2 rfl ?_
  refine jv_if_eq (tgt := 23) B d_K_takeLeap_15 (by decide) (fun hc => ?_) (fun hc => ?_)
  · replace h := h.1 hc
    refine jv_iconst (v := 2) B d_K_takeLeap_23 (by decide) ?_
    refine jv_aload_n B d_K_takeLeap_24 rfl 1 rfl ?_
    refine fg_K_leap B hts hown hK d_K_takeLeap_25 ?_
    refine jv_imul B d_K_takeLeap_28 ?_
    refine jv_bipush (v := 32) B d_K_takeLeap_29 (by decide) ?_
    refine jv_mmin B hml hown hts (hts _ kw_413) (Nat.le_of_ble_eq_true rfl) (Nat.le_of_ble_eq_true rfl) (Nat.le_of_ble_eq_true rfl) (Nat.le_of_ble_eq_true rfl) d_K_takeLeap_31 ?_
    refine fs_K_leap B hts hown hK d_K_takeLeap_34 ?_
    refine jv_iload_n B d_K_takeLeap_37 rfl 0 rfl ?_
    exact jv_iret B hr rfl hlk hK _ rfl h d_K_takeLeap_38
  · replace h := h.2 hc
    refine jv_bipush (v := 8) B d_K_takeLeap_18 (by decide) ?_
    refine jv_goto (tgt := 34) B d_K_takeLeap_20 (by decide) ?_
    refine fs_K_leap B hts hown hK d_K_takeLeap_34 ?_
    refine jv_iload_n B d_K_takeLeap_37 rfl 0 rfl ?_
    exact jv_iret B hr rfl hlk hK _ rfl h d_K_takeLeap_38
set_option maxRecDepth 100000 in
theorem w_K_takeLeap_0 (X : jv_C p s m args meth c b_K_takeLeap 3 (some .int) y_K_takeLeap wb D jClasses (jTy cI cA cL) A) {post : Int32 → jS → Prop} {σ : jS} {v1 : Int32} (h : p_K_takeLeap σ v1 post) : jv_V p l e (rmk 2 0 0) s m args below meth c D jClasses A 3 0 0 (MQ below (va_Qi post (jv_End D jClasses (jTy cI cA cL) A (fun σ => cw ad cI cA σ F)) A) args s 0 0 A) (cw ad cI cA σ F) [(0, .ref (ad 8)), (1, .int v1)] 0 [] := by
  obtain ⟨B, hml, hown, hts, hK, hA, hr, hlk, hnm⟩ := id X
  unfold p_K_takeLeap at h
  refine jv_iload_n B d_K_takeLeap_0 rfl 1 rfl ?_
  refine jv_if_eq (tgt := 8) B d_K_takeLeap_1 (by decide) (fun hc => ?_) (fun hc => ?_)
  · replace h := h.1 hc
    refine jv_aload_n B d_K_takeLeap_8 rfl 0 rfl ?_
    refine fg_K_leap B hts hown hK d_K_takeLeap_9 ?_
    exact w_K_takeLeap_12 X h
  · replace h := h.2 hc
    refine jv_iconst (v := 0) B d_K_takeLeap_4 (by decide) ?_
    refine jv_goto (tgt := 12) B d_K_takeLeap_5 (by decide) ?_
    exact w_K_takeLeap_12 X h
theorem c_K_takeLeap {l : Launch} {D : va_G} {A : Nat → Prop} {ad : Nat → Nat} {cI cA cL : ClassId} {F : va_W} {σ : jS} {v1 : Int32} {post : Int32 → jS → Prop} (h : p_K_takeLeap σ v1 post) : Met l y_K_takeLeap (Cond.code y_K_takeLeap b_K_takeLeap 3 (some .int) :: wb) (rmk 2 0 0) (jv_Pre D jClasses (jTy cI cA cL) A (cw ad cI cA σ F) [.ref (ad 8), .int v1]) (va_Qi post (jv_End D jClasses (jTy cI cA cL) A (fun σ => cw ad cI cA σ F)) A) 0 0 A :=
  jv_ofB (by decide) (Nat.le_of_ble_eq_true rfl) (fun p e s m below meth c X => w_K_takeLeap_0 X h)
set_option maxRecDepth 100000 in
theorem w_K_readForward_0 (X : jv_C p s m args meth c b_K_readForward 5 (some .boolean) y_K_readForward wb D jClasses (jTy cI cA cL) A) {post : Int32 → jS → Prop} {σ : jS} {v1 : Int32} (h : p_K_readForward σ v1 post) : jv_V p l e (rmk 4 0 0) s m args below meth c D jClasses A 5 0 0 (MQ below (va_Qi post (jv_End D jClasses (jTy cI cA cL) A (fun σ => cw ad cI cA σ F)) A) args s 0 0 A) (cw ad cI cA σ F) [(0, .ref (ad 8)), (1, .int v1)] 0 [] := by
  obtain ⟨B, hml, hown, hts, hK, hA, hr, hlk, hnm⟩ := id X
  unfold p_K_readForward at h
  refine jv_aload_n B d_K_readForward_0 rfl 0 rfl ?_
  refine fg_K_map B hts hown hK d_K_readForward_1 ?_
  refine jv_iconst (v := 0) B d_K_readForward_4 (by decide) ?_
  refine jv_aload_n B d_K_readForward_5 rfl 0 rfl ?_
  refine fg_K_position B hts hown hK d_K_readForward_6 ?_
  refine jv_civ (As := [.int 0, .int (σ 8 3)]) B hml hown hts hK hA (c_S_firstFrom (ad := ad) (cI := cI) (cA := cA) (cL := cL) (F := F) h) (cwV 2 hts g_K_70 rfl rfl rfl hd_S_firstFrom ⟨Nat.le_of_ble_eq_true rfl, Nat.le_of_ble_eq_true rfl⟩) 6 3 rfl rfl rfl rfl (Nat.le_of_ble_eq_true rfl) d_K_readForward_9 ⟨Nat.le_of_ble_eq_true rfl, Nat.le_of_ble_eq_true rfl⟩ rfl (fun r2 σ1 h => ?_)
  refine jv_istore_n (lv' := [(2, .int r2), (0, .ref (ad 8)), (1, .int v1)]) B d_K_readForward_12 rfl (by decide) rfl ?_
  refine jv_iload_n B d_K_readForward_13 rfl 0 rfl ?_
  refine jv_iconst (v := (-1)) B d_K_readForward_14 (by decide) ?_
  refine jv_icmp_ne (tgt := 20) B d_K_readForward_15 (by decide) (fun hc => ?_) (fun hc => ?_)
  · replace h := h.1 hc
    refine jv_aload_n B d_K_readForward_20 rfl 1 rfl ?_
    refine fg_K_map B hts hown hK d_K_readForward_21 ?_
    refine jv_iload_n B d_K_readForward_24 rfl 0 rfl ?_
    refine jv_bipush (v := 8) B d_K_readForward_25 (by decide) ?_
    refine jv_civ (As := [.int r2, .int 8]) B hml hown hts hK hA (c_S_behindStretch (ad := ad) (cI := cI) (cA := cA) (cL := cL) (F := F) h) (cwV 2 hts g_K_74 rfl rfl rfl hd_S_behindStretch ⟨Nat.le_of_ble_eq_true rfl, Nat.le_of_ble_eq_true rfl⟩) 6 3 rfl rfl rfl rfl (Nat.le_of_ble_eq_true rfl) d_K_readForward_27 ⟨Nat.le_of_ble_eq_true rfl, Nat.le_of_ble_eq_true rfl⟩ rfl (fun r4 σ3 h => ?_)
    refine jv_istore_n (lv' := [(3, .int r4), (2, .int r2), (0, .ref (ad 8)), (1, .int v1)]) B d_K_readForward_30 rfl (by decide) rfl ?_
    refine jv_aload_n B d_K_readForward_31 rfl 2 rfl ?_
    refine jv_iload_n B d_K_readForward_32 rfl 1 rfl ?_
    refine jv_iload_n B d_K_readForward_33 rfl 0 rfl ?_
    refine jv_iconst (v := 1) B d_K_readForward_34 (by decide) ?_
    refine jv_civ (As := [.int r2, .int r4, .int 1]) B hml hown hts hK hA (c_K_rescue (ad := ad) (cI := cI) (cA := cA) (cL := cL) (F := F) h) (cwV 3 hts g_K_77 rfl rfl rfl hd_K_rescue ⟨Nat.le_of_ble_eq_true rfl, Nat.le_of_ble_eq_true rfl⟩) 8 0 rfl rfl rfl rfl (Nat.le_of_ble_eq_true rfl) d_K_readForward_35 ⟨Nat.le_of_ble_eq_true rfl, Nat.le_of_ble_eq_true rfl⟩ rfl (fun r6 σ5 h => ?_)
    refine jv_istore (lv' := [(4, .int r6), (3, .int r4), (2, .int r2), (0, .ref (ad 8)), (1, .int v1)]) B d_K_readForward_38 (by decide) rfl ?_
    refine jv_aload_n B d_K_readForward_40 rfl 3 rfl ?_
    refine jv_iload_n B d_K_readForward_41 rfl 1 rfl ?_
    refine jv_iload_n B d_K_readForward_42 rfl 4 rfl ?_
    refine jv_if_eq (tgt := 55) B d_K_readForward_43 (by decide) (fun hc => ?_) (fun hc => ?_)
    · replace h := h.1 hc
      refine jv_iconst (v := 0) B d_K_readForward_55 (by decide) ?_
      refine jv_iadd B d_K_readForward_56 ?_
      refine fs_K_position B hts hown hK d_K_readForward_57 ?_
      refine jv_iconst (v := 1) B d_K_readForward_60 (by decide) ?_
      exact jv_iret B hr (nz h.1) hlk hK _ rfl h.2 d_K_readForward_61
    · replace h := h.2 hc
      refine jv_aload_n B d_K_readForward_46 rfl 3 rfl ?_
      refine jv_iload B d_K_readForward_47 0 rfl ?_
      refine jv_civ (As := [.int r6]) B hml hown hts hK hA (c_K_takeLeap (ad := ad) (cI := cI) (cA := cA) (cL := cL) (F := F) h) (cwV 1 hts g_K_81 rfl rfl rfl hd_K_takeLeap ⟨Nat.le_of_ble_eq_true rfl, Nat.le_of_ble_eq_true rfl⟩) 8 0 rfl rfl rfl rfl (Nat.le_of_ble_eq_true rfl) d_K_readForward_49 ⟨Nat.le_of_ble_eq_true rfl, Nat.le_of_ble_eq_true rfl⟩ rfl (fun r8 σ7 h => ?_)
      refine jv_goto (tgt := 56) B d_K_readForward_52 (by decide) ?_
      refine jv_iadd B d_K_readForward_56 ?_
      refine fs_K_position B hts hown hK d_K_readForward_57 ?_
      refine jv_iconst (v := 1) B d_K_readForward_60 (by decide) ?_
      exact jv_iret B hr (nz h.1) hlk hK _ rfl h.2 d_K_readForward_61
  · replace h := h.2 hc
    refine jv_iconst (v := 0) B d_K_readForward_18 (by decide) ?_
    exact jv_iret B hr (nz h.1) hlk hK _ rfl h.2 d_K_readForward_19
theorem c_K_readForward {l : Launch} {D : va_G} {A : Nat → Prop} {ad : Nat → Nat} {cI cA cL : ClassId} {F : va_W} {σ : jS} {v1 : Int32} {post : Int32 → jS → Prop} (h : p_K_readForward σ v1 post) : Met l y_K_readForward (Cond.code y_K_readForward b_K_readForward 5 (some .boolean) :: wb) (rmk 4 0 0) (jv_Pre D jClasses (jTy cI cA cL) A (cw ad cI cA σ F) [.ref (ad 8), .int v1]) (va_Qi post (jv_End D jClasses (jTy cI cA cL) A (fun σ => cw ad cI cA σ F)) A) 0 0 A :=
  jv_ofB (by decide) (Nat.le_of_ble_eq_true rfl) (fun p e s m below meth c X => w_K_readForward_0 X h)
set_option maxRecDepth 100000 in
theorem w_S_lastBelow_11 (X : jv_C p s m args meth c b_S_lastBelow 4 (some .int) y_S_lastBelow wb D jClasses (jTy cI cA cL) A) {post : Int32 → jS → Prop} {v1 v2 : Int32} : ∀ (n : Nat), ∀ (σ : jS) (v3 : Int32), p_S_lastBelow_11 post v1 v2 n σ v3 → jv_V p l e (rmk 2 0 0) s m args below meth c D jClasses A 4 0 0 (MQ below (va_Qi post (jv_End D jClasses (jTy cI cA cL) A (fun σ => cw ad cI cA σ F)) A) args s 0 0 A) (cw ad cI cA σ F) [(0, .ref (ad 6)), (1, .int v1), (3, .int v3)] 11 [] := by
  obtain ⟨B, hml, hown, hts, hK, hA, hr, hlk, hnm⟩ := id X
  intro n
  induction n with
  | zero => intro σ v3 h; exact h.elim
  | succ n ih =>
    intro σ v3 h
    rw [p_S_lastBelow_11] at h
    refine jv_iload_n B d_S_lastBelow_11 rfl 2 rfl ?_
    refine jv_if_lt (tgt := 33) B d_S_lastBelow_12 (by decide) (fun hc => ?_) (fun hc => ?_)
    · replace h := h.1 hc
      refine jv_iconst (v := (-1)) B d_S_lastBelow_33 (by decide) ?_
      exact jv_iret B hr rfl hlk hK _ rfl h d_S_lastBelow_34
    · replace h := h.2 hc
      refine jv_aload_n B d_S_lastBelow_15 rfl 0 rfl ?_
      refine fg_S_states B hts hown hK d_S_lastBelow_16 ?_
      refine jv_iload_n B d_S_lastBelow_19 rfl 2 rfl ?_
      refine ld_c_7 B hK h.1 d_S_lastBelow_20 ?_
      replace h := h.2
      refine jv_iload_n B d_S_lastBelow_21 rfl 1 rfl ?_
      refine jv_icmp_ne (tgt := 27) B d_S_lastBelow_22 (by decide) (fun hc => ?_) (fun hc => ?_)
      · replace h := h.1 hc
        refine jv_iinc (n9 := 2) (v := v3 + (-1)) (lv' := [(3, .int (v3 + (-1))), (0, .ref (ad 6)), (1, .int v1)]) B d_S_lastBelow_27 rfl rfl (by decide) rfl ?_
        refine jv_goto (tgt := 11) B d_S_lastBelow_30 (by decide) ?_
        refine jv_sub [1, 2, 0] rfl ?_
        exact ih _ _ h
      · replace h := h.2 hc
        refine jv_iload_n B d_S_lastBelow_25 rfl 2 rfl ?_
        exact jv_iret B hr rfl hlk hK _ rfl h d_S_lastBelow_26
set_option maxRecDepth 100000 in
theorem w_S_lastBelow_0 (X : jv_C p s m args meth c b_S_lastBelow 4 (some .int) y_S_lastBelow wb D jClasses (jTy cI cA cL) A) {post : Int32 → jS → Prop} {σ : jS} {v1 v2 : Int32} (h : p_S_lastBelow σ v1 v2 post) : jv_V p l e (rmk 2 0 0) s m args below meth c D jClasses A 4 0 0 (MQ below (va_Qi post (jv_End D jClasses (jTy cI cA cL) A (fun σ => cw ad cI cA σ F)) A) args s 0 0 A) (cw ad cI cA σ F) [(0, .ref (ad 6)), (1, .int v1), (2, .int v2)] 0 [] := by
  obtain ⟨B, hml, hown, hts, hK, hA, hr, hlk, hnm⟩ := id X
  unfold p_S_lastBelow at h
  refine jv_iload_n B d_S_lastBelow_0 rfl 2 rfl ?_
  refine jv_aload_n B d_S_lastBelow_1 rfl 0 rfl ?_
  refine fg_S_sectors B hts hown hK d_S_lastBelow_2 ?_
  refine jv_mmin B hml hown hts (hts _ kw_350) (Nat.le_of_ble_eq_true rfl) (Nat.le_of_ble_eq_true rfl) (Nat.le_of_ble_eq_true rfl) (Nat.le_of_ble_eq_true rfl) d_S_lastBelow_5 ?_
  refine jv_iconst (v := 1) B d_S_lastBelow_8 (by decide) ?_
  refine jv_isub B d_S_lastBelow_9 ?_
  refine jv_istore_n (lv' := [(3, .int ((if σ 6 1 < v2 then σ 6 1 else v2) - 1)), (0, .ref (ad 6)), (1, .int v1), (2, .int v2)]) B d_S_lastBelow_10 rfl (by decide) rfl ?_
  refine jv_sub [1, 2, 0] rfl ?_
  obtain ⟨n9, h⟩ := h
  exact w_S_lastBelow_11 X n9 _ _ h
theorem c_S_lastBelow {l : Launch} {D : va_G} {A : Nat → Prop} {ad : Nat → Nat} {cI cA cL : ClassId} {F : va_W} {σ : jS} {v1 v2 : Int32} {post : Int32 → jS → Prop} (h : p_S_lastBelow σ v1 v2 post) : Met l y_S_lastBelow (Cond.code y_S_lastBelow b_S_lastBelow 4 (some .int) :: wb) (rmk 2 0 0) (jv_Pre D jClasses (jTy cI cA cL) A (cw ad cI cA σ F) [.ref (ad 6), .int v1, .int v2]) (va_Qi post (jv_End D jClasses (jTy cI cA cL) A (fun σ => cw ad cI cA σ F)) A) 0 0 A :=
  jv_ofB (by decide) (Nat.le_of_ble_eq_true rfl) (fun p e s m below meth c X => w_S_lastBelow_0 X h)
set_option maxRecDepth 100000 in
theorem w_S_firstOfStretch_2 (X : jv_C p s m args meth c b_S_firstOfStretch 4 (some .int) y_S_firstOfStretch wb D jClasses (jTy cI cA cL) A) {post : Int32 → jS → Prop} {v1 v2 : Int32} : ∀ (n : Nat), ∀ (σ : jS) (v3 : Int32), p_S_firstOfStretch_2 post v1 v2 n σ v3 → jv_V p l e (rmk 2 0 0) s m args below meth c D jClasses A 4 0 0 (MQ below (va_Qi post (jv_End D jClasses (jTy cI cA cL) A (fun σ => cw ad cI cA σ F)) A) args s 0 0 A) (cw ad cI cA σ F) [(0, .ref (ad 6)), (1, .int v1), (2, .int v2), (3, .int v3)] 2 [] := by
  obtain ⟨B, hml, hown, hts, hK, hA, hr, hlk, hnm⟩ := id X
  intro n
  induction n with
  | zero => intro σ v3 h; exact h.elim
  | succ n ih =>
    intro σ v3 h
    rw [p_S_firstOfStretch_2] at h
    refine jv_iload_n B d_S_firstOfStretch_2 rfl 3 rfl ?_
    refine jv_if_le (tgt := 36) B d_S_firstOfStretch_3 (by decide) (fun hc => ?_) (fun hc => ?_)
    · replace h := h.1 hc
      refine jv_iload_n B d_S_firstOfStretch_36 rfl 3 rfl ?_
      exact jv_iret B hr rfl hlk hK _ rfl h d_S_firstOfStretch_37
    · replace h := h.2 hc
      refine jv_iload_n B d_S_firstOfStretch_6 rfl 1 rfl ?_
      refine jv_iload_n B d_S_firstOfStretch_7 rfl 3 rfl ?_
      refine jv_isub B d_S_firstOfStretch_8 ?_
      refine jv_iconst (v := 1) B d_S_firstOfStretch_9 (by decide) ?_
      refine jv_iadd B d_S_firstOfStretch_10 ?_
      refine jv_iload_n B d_S_firstOfStretch_11 rfl 2 rfl ?_
      refine jv_icmp_ge (tgt := 36) B d_S_firstOfStretch_12 (by decide) (fun hc => ?_) (fun hc => ?_)
      · replace h := h.1 hc
        refine jv_iload_n B d_S_firstOfStretch_36 rfl 3 rfl ?_
        exact jv_iret B hr rfl hlk hK _ rfl h d_S_firstOfStretch_37
      · replace h := h.2 hc
        refine jv_aload_n B d_S_firstOfStretch_15 rfl 0 rfl ?_
        refine jv_iload_n B d_S_firstOfStretch_16 rfl 3 rfl ?_
        refine jv_iconst (v := 1) B d_S_firstOfStretch_17 (by decide) ?_
        refine jv_isub B d_S_firstOfStretch_18 ?_
        refine jv_civ (As := [.int (v3 - 1)]) B hml hown hts hK hA (c_S_stateOf (ad := ad) (cI := cI) (cA := cA) (cL := cL) (F := F) h) (cwV 1 hts g_S_34 rfl rfl rfl hd_S_stateOf ⟨Nat.le_of_ble_eq_true rfl, Nat.le_of_ble_eq_true rfl⟩) 6 3 rfl rfl rfl rfl (Nat.le_of_ble_eq_true rfl) d_S_firstOfStretch_19 ⟨Nat.le_of_ble_eq_true rfl, Nat.le_of_ble_eq_true rfl⟩ rfl (fun r2 σ1 h => ?_)
        refine jv_aload_n B d_S_firstOfStretch_22 rfl 0 rfl ?_
        refine jv_iload_n B d_S_firstOfStretch_23 rfl 1 rfl ?_
        refine jv_civ (As := [.int v1]) B hml hown hts hK hA (c_S_stateOf (ad := ad) (cI := cI) (cA := cA) (cL := cL) (F := F) h) (cwV 1 hts g_S_34 rfl rfl rfl hd_S_stateOf ⟨Nat.le_of_ble_eq_true rfl, Nat.le_of_ble_eq_true rfl⟩) 6 3 rfl rfl rfl rfl (Nat.le_of_ble_eq_true rfl) d_S_firstOfStretch_24 ⟨Nat.le_of_ble_eq_true rfl, Nat.le_of_ble_eq_true rfl⟩ rfl (fun r4 σ3 h => ?_)
        refine jv_icmp_ne (tgt := 36) B d_S_firstOfStretch_27 (by decide) (fun hc => ?_) (fun hc => ?_)
        · replace h := h.1 hc
          refine jv_iload_n B d_S_firstOfStretch_36 rfl 3 rfl ?_
          exact jv_iret B hr rfl hlk hK _ rfl h d_S_firstOfStretch_37
        · replace h := h.2 hc
          refine jv_iinc (n9 := 3) (v := v3 + (-1)) (lv' := [(3, .int (v3 + (-1))), (0, .ref (ad 6)), (1, .int v1), (2, .int v2)]) B d_S_firstOfStretch_30 rfl rfl (by decide) rfl ?_
          refine jv_goto (tgt := 2) B d_S_firstOfStretch_33 (by decide) ?_
          refine jv_sub [1, 2, 3, 0] rfl ?_
          exact ih _ _ h
set_option maxRecDepth 100000 in
theorem w_S_firstOfStretch_0 (X : jv_C p s m args meth c b_S_firstOfStretch 4 (some .int) y_S_firstOfStretch wb D jClasses (jTy cI cA cL) A) {post : Int32 → jS → Prop} {σ : jS} {v1 v2 : Int32} (h : p_S_firstOfStretch σ v1 v2 post) : jv_V p l e (rmk 2 0 0) s m args below meth c D jClasses A 4 0 0 (MQ below (va_Qi post (jv_End D jClasses (jTy cI cA cL) A (fun σ => cw ad cI cA σ F)) A) args s 0 0 A) (cw ad cI cA σ F) [(0, .ref (ad 6)), (1, .int v1), (2, .int v2)] 0 [] := by
  obtain ⟨B, hml, hown, hts, hK, hA, hr, hlk, hnm⟩ := id X
  unfold p_S_firstOfStretch at h
  refine jv_iload_n B d_S_firstOfStretch_0 rfl 1 rfl ?_
  refine jv_istore_n (lv' := [(3, .int v1), (0, .ref (ad 6)), (1, .int v1), (2, .int v2)]) B d_S_firstOfStretch_1 rfl (by decide) rfl ?_
  refine jv_sub [1, 2, 3, 0] rfl ?_
  obtain ⟨n9, h⟩ := h
  exact w_S_firstOfStretch_2 X n9 _ _ h
theorem c_S_firstOfStretch {l : Launch} {D : va_G} {A : Nat → Prop} {ad : Nat → Nat} {cI cA cL : ClassId} {F : va_W} {σ : jS} {v1 v2 : Int32} {post : Int32 → jS → Prop} (h : p_S_firstOfStretch σ v1 v2 post) : Met l y_S_firstOfStretch (Cond.code y_S_firstOfStretch b_S_firstOfStretch 4 (some .int) :: wb) (rmk 2 0 0) (jv_Pre D jClasses (jTy cI cA cL) A (cw ad cI cA σ F) [.ref (ad 6), .int v1, .int v2]) (va_Qi post (jv_End D jClasses (jTy cI cA cL) A (fun σ => cw ad cI cA σ F)) A) 0 0 A :=
  jv_ofB (by decide) (Nat.le_of_ble_eq_true rfl) (fun p e s m below meth c X => w_S_firstOfStretch_0 X h)
set_option maxRecDepth 100000 in
theorem w_K_readBackward_0 (X : jv_C p s m args meth c b_K_readBackward 4 (some .boolean) y_K_readBackward wb D jClasses (jTy cI cA cL) A) {post : Int32 → jS → Prop} {σ : jS} (h : p_K_readBackward σ post) : jv_V p l e (rmk 4 0 0) s m args below meth c D jClasses A 4 0 0 (MQ below (va_Qi post (jv_End D jClasses (jTy cI cA cL) A (fun σ => cw ad cI cA σ F)) A) args s 0 0 A) (cw ad cI cA σ F) [(0, .ref (ad 8))] 0 [] := by
  obtain ⟨B, hml, hown, hts, hK, hA, hr, hlk, hnm⟩ := id X
  unfold p_K_readBackward at h
  refine jv_aload_n B d_K_readBackward_0 rfl 0 rfl ?_
  refine fg_K_map B hts hown hK d_K_readBackward_1 ?_
  refine jv_iconst (v := 0) B d_K_readBackward_4 (by decide) ?_
  refine jv_aload_n B d_K_readBackward_5 rfl 0 rfl ?_
  refine fg_K_position B hts hown hK d_K_readBackward_6 ?_
  refine jv_civ (As := [.int 0, .int (σ 8 3)]) B hml hown hts hK hA (c_S_lastBelow (ad := ad) (cI := cI) (cA := cA) (cL := cL) (F := F) h) (cwV 2 hts g_K_85 rfl rfl rfl hd_S_lastBelow ⟨Nat.le_of_ble_eq_true rfl, Nat.le_of_ble_eq_true rfl⟩) 6 3 rfl rfl rfl rfl (Nat.le_of_ble_eq_true rfl) d_K_readBackward_9 ⟨Nat.le_of_ble_eq_true rfl, Nat.le_of_ble_eq_true rfl⟩ rfl (fun r2 σ1 h => ?_)
  refine jv_istore_n (lv' := [(1, .int r2), (0, .ref (ad 8))]) B d_K_readBackward_12 rfl (by decide) rfl ?_
  refine jv_iload_n B d_K_readBackward_13 rfl 0 rfl ?_
  refine jv_iconst (v := (-1)) B d_K_readBackward_14 (by decide) ?_
  refine jv_icmp_ne (tgt := 20) B d_K_readBackward_15 (by decide) (fun hc => ?_) (fun hc => ?_)
  · replace h := h.1 hc
    refine jv_aload_n B d_K_readBackward_20 rfl 1 rfl ?_
    refine fg_K_map B hts hown hK d_K_readBackward_21 ?_
    refine jv_iload_n B d_K_readBackward_24 rfl 0 rfl ?_
    refine jv_bipush (v := 8) B d_K_readBackward_25 (by decide) ?_
    refine jv_civ (As := [.int r2, .int 8]) B hml hown hts hK hA (c_S_firstOfStretch (ad := ad) (cI := cI) (cA := cA) (cL := cL) (F := F) h) (cwV 2 hts g_K_88 rfl rfl rfl hd_S_firstOfStretch ⟨Nat.le_of_ble_eq_true rfl, Nat.le_of_ble_eq_true rfl⟩) 6 3 rfl rfl rfl rfl (Nat.le_of_ble_eq_true rfl) d_K_readBackward_27 ⟨Nat.le_of_ble_eq_true rfl, Nat.le_of_ble_eq_true rfl⟩ rfl (fun r4 σ3 h => ?_)
    refine jv_istore_n (lv' := [(2, .int r4), (1, .int r2), (0, .ref (ad 8))]) B d_K_readBackward_30 rfl (by decide) rfl ?_
    refine jv_aload_n B d_K_readBackward_31 rfl 2 rfl ?_
    refine jv_iload_n B d_K_readBackward_32 rfl 0 rfl ?_
    refine jv_iload_n B d_K_readBackward_33 rfl 1 rfl ?_
    refine jv_iconst (v := 1) B d_K_readBackward_34 (by decide) ?_
    refine jv_iadd B d_K_readBackward_35 ?_
    refine jv_iconst (v := 1) B d_K_readBackward_36 (by decide) ?_
    refine jv_civ (As := [.int r4, .int (r2 + 1), .int 1]) B hml hown hts hK hA (c_K_rescue (ad := ad) (cI := cI) (cA := cA) (cL := cL) (F := F) h) (cwV 3 hts g_K_77 rfl rfl rfl hd_K_rescue ⟨Nat.le_of_ble_eq_true rfl, Nat.le_of_ble_eq_true rfl⟩) 8 0 rfl rfl rfl rfl (Nat.le_of_ble_eq_true rfl) d_K_readBackward_37 ⟨Nat.le_of_ble_eq_true rfl, Nat.le_of_ble_eq_true rfl⟩ rfl (fun r6 σ5 h => ?_)
    refine jv_istore_n (lv' := [(3, .int r6), (2, .int r4), (1, .int r2), (0, .ref (ad 8))]) B d_K_readBackward_40 rfl (by decide) rfl ?_
    refine jv_aload_n B d_K_readBackward_41 rfl 3 rfl ?_
    refine jv_iload_n B d_K_readBackward_42 rfl 1 rfl ?_
    refine jv_aload_n B d_K_readBackward_43 rfl 3 rfl ?_
    refine jv_iload_n B d_K_readBackward_44 rfl 0 rfl ?_
    refine jv_civ (As := [.int r6]) B hml hown hts hK hA (c_K_takeLeap (ad := ad) (cI := cI) (cA := cA) (cL := cL) (F := F) h) (cwV 1 hts g_K_81 rfl rfl rfl hd_K_takeLeap ⟨Nat.le_of_ble_eq_true rfl, Nat.le_of_ble_eq_true rfl⟩) 8 0 rfl rfl rfl rfl (Nat.le_of_ble_eq_true rfl) d_K_readBackward_45 ⟨Nat.le_of_ble_eq_true rfl, Nat.le_of_ble_eq_true rfl⟩ rfl (fun r8 σ7 h => ?_)
    refine jv_isub B d_K_readBackward_48 ?_
    refine fs_K_position B hts hown hK d_K_readBackward_49 ?_
    refine jv_iconst (v := 1) B d_K_readBackward_52 (by decide) ?_
    exact jv_iret B hr (nz h.1) hlk hK _ rfl h.2 d_K_readBackward_53
  · replace h := h.2 hc
    refine jv_iconst (v := 0) B d_K_readBackward_18 (by decide) ?_
    exact jv_iret B hr (nz h.1) hlk hK _ rfl h.2 d_K_readBackward_19
theorem c_K_readBackward {l : Launch} {D : va_G} {A : Nat → Prop} {ad : Nat → Nat} {cI cA cL : ClassId} {F : va_W} {σ : jS} {post : Int32 → jS → Prop} (h : p_K_readBackward σ post) : Met l y_K_readBackward (Cond.code y_K_readBackward b_K_readBackward 4 (some .boolean) :: wb) (rmk 4 0 0) (jv_Pre D jClasses (jTy cI cA cL) A (cw ad cI cA σ F) [.ref (ad 8)]) (va_Qi post (jv_End D jClasses (jTy cI cA cL) A (fun σ => cw ad cI cA σ F)) A) 0 0 A :=
  jv_ofB (by decide) (Nat.le_of_ble_eq_true rfl) (fun p e s m below meth c X => w_K_readBackward_0 X h)
set_option maxRecDepth 100000 in
theorem w_K_trim_76 (X : jv_C p s m args meth c b_K_trim 5 (some .boolean) y_K_trim wb D jClasses (jTy cI cA cL) A) {post : Int32 → jS → Prop} {σ : jS} {v1 v2 v4 : Int32} (h : p_K_trim_76 post σ v1 v2 v4) : jv_V p l e (rmk 4 0 0) s m args below meth c D jClasses A 5 0 0 (MQ below (va_Qi post (jv_End D jClasses (jTy cI cA cL) A (fun σ => cw ad cI cA σ F)) A) args s 0 0 A) (cw ad cI cA σ F) [(0, .ref (ad 8)), (1, .int v1), (2, .int v2), (4, .int v4)] 76 [] := by
  obtain ⟨B, hml, hown, hts, hK, hA, hr, hlk, hnm⟩ := id X
  unfold p_K_trim_76 at h
  refine jv_iload_n B d_K_trim_76 rfl 1 rfl ?_
  refine jv_iload_n B d_K_trim_77 rfl 2 rfl ?_
  refine jv_icmp_ne (tgt := 89) B d_K_trim_78 (by decide) (fun hc => ?_) (fun hc => ?_)
  · replace h := h.1 hc
    refine jv_iload B d_K_trim_89 3 rfl ?_
    refine jv_if_ne (tgt := 110) B d_K_trim_91 (by decide) (fun hc => ?_) (fun hc => ?_)
    · replace h := h.1 hc
      refine jv_iconst (v := 1) B d_K_trim_110 (by decide) ?_
      exact jv_iret B hr (nz h.1) hlk hK _ rfl h.2 d_K_trim_111
    · replace h := h.2 hc
      refine jv_aload_n B d_K_trim_94 rfl 0 rfl ?_
      refine jv_aload_n B d_K_trim_95 rfl 0 rfl ?_
      refine fg_K_trimsLast B hts hown hK d_K_trim_96 ?_
      refine jv_if_ne (tgt := 106) B d_K_trim_99 (by decide) (fun hc => ?_) (fun hc => ?_)
      · replace h := h.1 hc
        refine jv_iconst (v := 0) B d_K_trim_106 (by decide) ?_
        refine fs_K_trimsLast B hts hown hK h.1 d_K_trim_107 ?_
        replace h := h.2
        refine jv_iconst (v := 1) B d_K_trim_110 (by decide) ?_
        exact jv_iret B hr (nz h.1) hlk hK _ rfl h.2 d_K_trim_111
      · replace h := h.2 hc
        refine jv_iconst (v := 1) B d_K_trim_102 (by decide) ?_
        refine jv_goto (tgt := 107) B d_K_trim_103 (by decide) ?_
        refine fs_K_trimsLast B hts hown hK h.1 d_K_trim_107 ?_
        replace h := h.2
        refine jv_iconst (v := 1) B d_K_trim_110 (by decide) ?_
        exact jv_iret B hr (nz h.1) hlk hK _ rfl h.2 d_K_trim_111
  · replace h := h.2 hc
    refine jv_aload_n B d_K_trim_81 rfl 0 rfl ?_
    refine jv_iconst (v := 0) B d_K_trim_82 (by decide) ?_
    refine fs_K_trimsLast B hts hown hK h.1 d_K_trim_83 ?_
    replace h := h.2
    refine jv_goto (tgt := 110) B d_K_trim_86 (by decide) ?_
    refine jv_iconst (v := 1) B d_K_trim_110 (by decide) ?_
    exact jv_iret B hr (nz h.1) hlk hK _ rfl h.2 d_K_trim_111
set_option maxRecDepth 100000 in
theorem w_K_trim_42 (X : jv_C p s m args meth c b_K_trim 5 (some .boolean) y_K_trim wb D jClasses (jTy cI cA cL) A) {post : Int32 → jS → Prop} {σ : jS} {v1 v2 y0 : Int32} (h : p_K_trim_42 post σ v1 v2 y0) : jv_V p l e (rmk 4 0 0) s m args below meth c D jClasses A 5 0 0 (MQ below (va_Qi post (jv_End D jClasses (jTy cI cA cL) A (fun σ => cw ad cI cA σ F)) A) args s 0 0 A) (cw ad cI cA σ F) [(0, .ref (ad 8)), (1, .int v1), (2, .int v2)] 42 [.int y0] := by
  obtain ⟨B, hml, hown, hts, hK, hA, hr, hlk, hnm⟩ := id X
  unfold p_K_trim_42 at h
  refine jv_istore_n (lv' := [(3, .int y0), (0, .ref (ad 8)), (1, .int v1), (2, .int v2)]) B d_K_trim_42 rfl (by decide) rfl ?_
  refine jv_aload_n B d_K_trim_43 rfl 1 rfl ?_
  refine jv_iload_n B d_K_trim_44 rfl 0 rfl ?_
  refine jv_iload_n B d_K_trim_45 rfl 0 rfl ?_
  refine jv_iconst (v := 1) B d_K_trim_46 (by decide) ?_
  refine jv_iadd B d_K_trim_47 ?_
  refine jv_iconst (v := 3) B d_K_trim_48 (by decide) ?_
  refine jv_civ (As := [.int y0, .int (y0 + 1), .int 3]) B hml hown hts hK hA (c_K_rescue (ad := ad) (cI := cI) (cA := cA) (cL := cL) (F := F) h) (cwV 3 hts g_K_77 rfl rfl rfl hd_K_rescue ⟨Nat.le_of_ble_eq_true rfl, Nat.le_of_ble_eq_true rfl⟩) 8 0 rfl rfl rfl rfl (Nat.le_of_ble_eq_true rfl) d_K_trim_49 ⟨Nat.le_of_ble_eq_true rfl, Nat.le_of_ble_eq_true rfl⟩ rfl (fun r6 σ5 h => ?_)
  refine jv_istore (lv' := [(4, .int r6), (3, .int y0), (0, .ref (ad 8)), (1, .int v1), (2, .int v2)]) B d_K_trim_52 (by decide) rfl ?_
  refine jv_iload B d_K_trim_54 0 rfl ?_
  refine jv_if_ne (tgt := 76) B d_K_trim_56 (by decide) (fun hc => ?_) (fun hc => ?_)
  · replace h := h.1 hc
    refine jv_sub [2, 3, 4, 0] rfl ?_
    exact w_K_trim_76 X h
  · replace h := h.2 hc
    refine jv_aload_n B d_K_trim_59 rfl 2 rfl ?_
    refine fg_K_trimsLast B hts hown hK d_K_trim_60 ?_
    refine jv_if_eq (tgt := 76) B d_K_trim_63 (by decide) (fun hc => ?_) (fun hc => ?_)
    · replace h := h.1 hc
      refine jv_sub [2, 3, 4, 0] rfl ?_
      exact w_K_trim_76 X h
    · replace h := h.2 hc
      refine jv_aload_n B d_K_trim_66 rfl 2 rfl ?_
      refine fg_K_map B hts hown hK d_K_trim_67 ?_
      refine jv_iload_n B d_K_trim_70 rfl 3 rfl ?_
      refine jv_iload_n B d_K_trim_71 rfl 4 rfl ?_
      refine jv_iconst (v := 2) B d_K_trim_72 (by decide) ?_
      refine jv_cvv (As := [.int v1, .int v2, .int 2]) B hml hown hts hK hA (c_S_mark (ad := ad) (cI := cI) (cA := cA) (cL := cL) (F := F) h) (cwV 3 hts g_K_96 rfl rfl rfl hd_S_mark ⟨Nat.le_of_ble_eq_true rfl, Nat.le_of_ble_eq_true rfl⟩) 6 3 rfl rfl rfl rfl (Nat.le_of_ble_eq_true rfl) d_K_trim_73 ⟨Nat.le_of_ble_eq_true rfl, Nat.le_of_ble_eq_true rfl⟩ rfl (fun σ7 h => ?_)
      refine jv_sub [2, 3, 4, 0] rfl ?_
      exact w_K_trim_76 X h
set_option maxRecDepth 100000 in
theorem w_K_trim_0 (X : jv_C p s m args meth c b_K_trim 5 (some .boolean) y_K_trim wb D jClasses (jTy cI cA cL) A) {post : Int32 → jS → Prop} {σ : jS} (h : p_K_trim σ post) : jv_V p l e (rmk 4 0 0) s m args below meth c D jClasses A 5 0 0 (MQ below (va_Qi post (jv_End D jClasses (jTy cI cA cL) A (fun σ => cw ad cI cA σ F)) A) args s 0 0 A) (cw ad cI cA σ F) [(0, .ref (ad 8))] 0 [] := by
  obtain ⟨B, hml, hown, hts, hK, hA, hr, hlk, hnm⟩ := id X
  unfold p_K_trim at h
  refine jv_aload_n B d_K_trim_0 rfl 0 rfl ?_
  refine fg_K_map B hts hown hK d_K_trim_1 ?_
  refine jv_iconst (v := 1) B d_K_trim_4 (by decide) ?_
  refine jv_iconst (v := 0) B d_K_trim_5 (by decide) ?_
  refine jv_civ (As := [.int 1, .int 0]) B hml hown hts hK hA (c_S_firstFrom (ad := ad) (cI := cI) (cA := cA) (cL := cL) (F := F) h) (cwV 2 hts g_K_70 rfl rfl rfl hd_S_firstFrom ⟨Nat.le_of_ble_eq_true rfl, Nat.le_of_ble_eq_true rfl⟩) 6 3 rfl rfl rfl rfl (Nat.le_of_ble_eq_true rfl) d_K_trim_6 ⟨Nat.le_of_ble_eq_true rfl, Nat.le_of_ble_eq_true rfl⟩ rfl (fun r2 σ1 h => ?_)
  refine jv_istore_n (lv' := [(1, .int r2), (0, .ref (ad 8))]) B d_K_trim_9 rfl (by decide) rfl ?_
  refine jv_iload_n B d_K_trim_10 rfl 0 rfl ?_
  refine jv_iconst (v := (-1)) B d_K_trim_11 (by decide) ?_
  refine jv_icmp_ne (tgt := 17) B d_K_trim_12 (by decide) (fun hc => ?_) (fun hc => ?_)
  · replace h := h.1 hc
    refine jv_aload_n B d_K_trim_17 rfl 1 rfl ?_
    refine fg_K_map B hts hown hK d_K_trim_18 ?_
    refine jv_iload_n B d_K_trim_21 rfl 0 rfl ?_
    refine jv_bipush (v := 64) B d_K_trim_22 (by decide) ?_
    refine jv_civ (As := [.int r2, .int 64]) B hml hown hts hK hA (c_S_behindStretch (ad := ad) (cI := cI) (cA := cA) (cL := cL) (F := F) h) (cwV 2 hts g_K_74 rfl rfl rfl hd_S_behindStretch ⟨Nat.le_of_ble_eq_true rfl, Nat.le_of_ble_eq_true rfl⟩) 6 3 rfl rfl rfl rfl (Nat.le_of_ble_eq_true rfl) d_K_trim_24 ⟨Nat.le_of_ble_eq_true rfl, Nat.le_of_ble_eq_true rfl⟩ rfl (fun r4 σ3 h => ?_)
    refine jv_iconst (v := 1) B d_K_trim_27 (by decide) ?_
    refine jv_isub B d_K_trim_28 ?_
    refine jv_istore_n (lv' := [(2, .int (r4 - 1)), (1, .int r2), (0, .ref (ad 8))]) B d_K_trim_29 rfl (by decide) rfl ?_
    refine jv_aload_n B d_K_trim_30 rfl 2 rfl ?_
    refine fg_K_trimsLast B hts hown hK d_K_trim_31 ?_
    refine jv_if_eq (tgt := 41) B d_K_trim_34 (by decide) (fun hc => ?_) (fun hc => ?_)
    · replace h := h.1 hc
      refine jv_iload_n B d_K_trim_41 rfl 1 rfl ?_
      refine jv_sub [2, 1, 0] rfl ?_
      exact w_K_trim_42 X h
    · replace h := h.2 hc
      refine jv_iload_n B d_K_trim_37 rfl 0 rfl ?_
      refine jv_goto (tgt := 42) B d_K_trim_38 (by decide) ?_
      refine jv_sub [2, 1, 0] rfl ?_
      exact w_K_trim_42 X h
  · replace h := h.2 hc
    refine jv_iconst (v := 0) B d_K_trim_15 (by decide) ?_
    exact jv_iret B hr (nz h.1) hlk hK _ rfl h.2 d_K_trim_16
theorem c_K_trim {l : Launch} {D : va_G} {A : Nat → Prop} {ad : Nat → Nat} {cI cA cL : ClassId} {F : va_W} {σ : jS} {post : Int32 → jS → Prop} (h : p_K_trim σ post) : Met l y_K_trim (Cond.code y_K_trim b_K_trim 5 (some .boolean) :: wb) (rmk 4 0 0) (jv_Pre D jClasses (jTy cI cA cL) A (cw ad cI cA σ F) [.ref (ad 8)]) (va_Qi post (jv_End D jClasses (jTy cI cA cL) A (fun σ => cw ad cI cA σ F)) A) 0 0 A :=
  jv_ofB (by decide) (Nat.le_of_ble_eq_true rfl) (fun p e s m below meth c X => w_K_trim_0 X h)
end JM
end
section
section JM
variable {p : Program} {l : Launch} {e : Env} {s : State} {m : MethodId} {args : Array Value} {below : List Frame} {meth : Method} {c : Code} {D : va_G} {A : Nat → Prop} {ad : Nat → Nat} {cI cA cL : ClassId} {F : va_W}
set_option maxRecDepth 100000 in
theorem w_K_scrape_0 (X : jv_C p s m args meth c b_K_scrape 2 (some .boolean) y_K_scrape wb D jClasses (jTy cI cA cL) A) {post : Int32 → jS → Prop} {σ : jS} (h : p_K_scrape σ post) : jv_V p l e (rmk 4 0 0) s m args below meth c D jClasses A 2 0 0 (MQ below (va_Qi post (jv_End D jClasses (jTy cI cA cL) A (fun σ => cw ad cI cA σ F)) A) args s 0 0 A) (cw ad cI cA σ F) [(0, .ref (ad 8))] 0 [] := by
  obtain ⟨B, hml, hown, hts, hK, hA, hr, hlk, hnm⟩ := id X
  unfold p_K_scrape at h
  refine jv_aload_n B d_K_scrape_0 rfl 0 rfl ?_
  refine fg_K_map B hts hown hK d_K_scrape_1 ?_
  refine jv_iconst (v := 2) B d_K_scrape_4 (by decide) ?_
  refine jv_iconst (v := 0) B d_K_scrape_5 (by decide) ?_
  refine jv_civ (As := [.int 2, .int 0]) B hml hown hts hK hA (c_S_firstFrom (ad := ad) (cI := cI) (cA := cA) (cL := cL) (F := F) h) (cwV 2 hts g_K_70 rfl rfl rfl hd_S_firstFrom ⟨Nat.le_of_ble_eq_true rfl, Nat.le_of_ble_eq_true rfl⟩) 6 3 rfl rfl rfl rfl (Nat.le_of_ble_eq_true rfl) d_K_scrape_6 ⟨Nat.le_of_ble_eq_true rfl, Nat.le_of_ble_eq_true rfl⟩ rfl (fun r2 σ1 h => ?_)
  refine jv_istore_n (lv' := [(1, .int r2), (0, .ref (ad 8))]) B d_K_scrape_9 rfl (by decide) rfl ?_
  refine jv_iload_n B d_K_scrape_10 rfl 0 rfl ?_
  refine jv_iconst (v := (-1)) B d_K_scrape_11 (by decide) ?_
  refine jv_icmp_ne (tgt := 17) B d_K_scrape_12 (by decide) (fun hc => ?_) (fun hc => ?_)
  · replace h := h.1 hc
    refine jv_aload_n B d_K_scrape_17 rfl 1 rfl ?_
    refine jv_iload_n B d_K_scrape_18 rfl 0 rfl ?_
    refine jv_iload_n B d_K_scrape_19 rfl 0 rfl ?_
    refine jv_iconst (v := 1) B d_K_scrape_20 (by decide) ?_
    refine jv_iadd B d_K_scrape_21 ?_
    refine jv_iconst (v := 3) B d_K_scrape_22 (by decide) ?_
    refine jv_civ (As := [.int r2, .int (r2 + 1), .int 3]) B hml hown hts hK hA (c_K_rescue (ad := ad) (cI := cI) (cA := cA) (cL := cL) (F := F) h) (cwV 3 hts g_K_77 rfl rfl rfl hd_K_rescue ⟨Nat.le_of_ble_eq_true rfl, Nat.le_of_ble_eq_true rfl⟩) 8 0 rfl rfl rfl rfl (Nat.le_of_ble_eq_true rfl) d_K_scrape_23 ⟨Nat.le_of_ble_eq_true rfl, Nat.le_of_ble_eq_true rfl⟩ rfl (fun r4 σ3 h => ?_)
    refine jv_pop B d_K_scrape_26 rfl ?_
    refine jv_iconst (v := 1) B d_K_scrape_27 (by decide) ?_
    exact jv_iret B hr (nz h.1) hlk hK _ rfl h.2 d_K_scrape_28
  · replace h := h.2 hc
    refine jv_iconst (v := 0) B d_K_scrape_15 (by decide) ?_
    exact jv_iret B hr (nz h.1) hlk hK _ rfl h.2 d_K_scrape_16
theorem c_K_scrape {l : Launch} {D : va_G} {A : Nat → Prop} {ad : Nat → Nat} {cI cA cL : ClassId} {F : va_W} {σ : jS} {post : Int32 → jS → Prop} (h : p_K_scrape σ post) : Met l y_K_scrape (Cond.code y_K_scrape b_K_scrape 2 (some .boolean) :: wb) (rmk 4 0 0) (jv_Pre D jClasses (jTy cI cA cL) A (cw ad cI cA σ F) [.ref (ad 8)]) (va_Qi post (jv_End D jClasses (jTy cI cA cL) A (fun σ => cw ad cI cA σ F)) A) 0 0 A :=
  jv_ofB (by decide) (Nat.le_of_ble_eq_true rfl) (fun p e s m below meth c X => w_K_scrape_0 X h)
set_option maxRecDepth 100000 in
theorem w_K_goesUp_0 (X : jv_C p s m args meth c b_K_goesUp 2 (some .boolean) y_K_goesUp wb D jClasses (jTy cI cA cL) A) {post : Int32 → jS → Prop} {σ : jS} {v1 : Int32} (h : p_K_goesUp σ v1 post) : jv_V p l e (rmk 1 0 0) s m args below meth c D jClasses A 2 0 0 (MQ below (va_Qi post (jv_End D jClasses (jTy cI cA cL) A (fun σ => cw ad cI cA σ F)) A) args s 0 0 A) (cw ad cI cA σ F) [(0, .ref (ad 8)), (1, .int v1)] 0 [] := by
  obtain ⟨B, hml, hown, hts, hK, hA, hr, hlk, hnm⟩ := id X
  unfold p_K_goesUp at h
  refine jv_sub [1] rfl ?_
  refine jv_iload_n B d_K_goesUp_0 rfl 0 rfl ?_
  refine jv_iconst (v := 2) B d_K_goesUp_1 (by decide) ?_
  refine jv_irem B d_K_goesUp_2 (by decide) ?_
  refine jv_if_ne (tgt := 10) B d_K_goesUp_3 (by decide) (fun hc => ?_) (fun hc => ?_)
  · replace h := h.1 hc
    refine jv_iconst (v := 0) B d_K_goesUp_10 (by decide) ?_
    exact jv_iret B hr (nz h.1) hlk hK _ rfl h.2 d_K_goesUp_11
  · replace h := h.2 hc
    refine jv_iconst (v := 1) B d_K_goesUp_6 (by decide) ?_
    refine jv_goto (tgt := 11) B d_K_goesUp_7 (by decide) ?_
    exact jv_iret B hr (nz h.1) hlk hK _ rfl h.2 d_K_goesUp_11
theorem c_K_goesUp {l : Launch} {D : va_G} {A : Nat → Prop} {ad : Nat → Nat} {cI cA cL : ClassId} {F : va_W} {σ : jS} {v1 : Int32} {post : Int32 → jS → Prop} (h : p_K_goesUp σ v1 post) : Met l y_K_goesUp (Cond.code y_K_goesUp b_K_goesUp 2 (some .boolean) :: wb) (rmk 1 0 0) (jv_Pre D jClasses (jTy cI cA cL) A (cw ad cI cA σ F) [.ref (ad 8), .int v1]) (va_Qi post (jv_End D jClasses (jTy cI cA cL) A (fun σ => cw ad cI cA σ F)) A) 0 0 A :=
  jv_ofB (by decide) (Nat.le_of_ble_eq_true rfl) (fun p e s m below meth c X => w_K_goesUp_0 X h)
set_option maxRecDepth 100000 in
theorem w_K_enterRound_0 (X : jv_C p s m args meth c b_K_enterRound 2 none y_K_enterRound wb D jClasses (jTy cI cA cL) A) {post : jS → Prop} {σ : jS} {v1 : Int32} (h : p_K_enterRound σ v1 post) : jv_V p l e (rmk 2 0 0) s m args below meth c D jClasses A 2 0 0 (MQ below (va_Qv post (jv_End D jClasses (jTy cI cA cL) A (fun σ => cw ad cI cA σ F)) A) args s 0 0 A) (cw ad cI cA σ F) [(0, .ref (ad 8)), (1, .int v1)] 0 [] := by
  obtain ⟨B, hml, hown, hts, hK, hA, hr, hlk, hnm⟩ := id X
  unfold p_K_enterRound at h
  refine jv_aload_n B d_K_enterRound_0 rfl 0 rfl ?_
  refine jv_iload_n B d_K_enterRound_1 rfl 1 rfl ?_
  refine fs_K_round B hts hown hK d_K_enterRound_2 ?_
  refine jv_aload_n B d_K_enterRound_5 rfl 0 rfl ?_
  refine jv_aload_n B d_K_enterRound_6 rfl 0 rfl ?_
  refine jv_iload_n B d_K_enterRound_7 rfl 1 rfl ?_
  refine jv_civ (As := [.int v1]) B hml hown hts hK hA (c_K_goesUp (ad := ad) (cI := cI) (cA := cA) (cL := cL) (F := F) h) (cwV 1 hts g_K_103 rfl rfl rfl hd_K_goesUp ⟨Nat.le_of_ble_eq_true rfl, Nat.le_of_ble_eq_true rfl⟩) 8 0 rfl rfl rfl rfl (Nat.le_of_ble_eq_true rfl) d_K_enterRound_8 ⟨Nat.le_of_ble_eq_true rfl, Nat.le_of_ble_eq_true rfl⟩ rfl (fun r2 σ1 h => ?_)
  refine jv_if_eq (tgt := 18) B d_K_enterRound_11 (by decide) (fun hc => ?_) (fun hc => ?_)
  · replace h := h.1 hc
    refine jv_aload_n B d_K_enterRound_18 rfl 0 rfl ?_
    refine fg_K_map B hts hown hK d_K_enterRound_19 ?_
    refine jv_civ (As := []) B hml hown hts hK hA (c_S_size (ad := ad) (cI := cI) (cA := cA) (cL := cL) (F := F) h) (cwV 0 hts g_K_33 rfl rfl rfl hd_S_size ⟨Nat.le_of_ble_eq_true rfl, Nat.le_of_ble_eq_true rfl⟩) 6 3 rfl rfl rfl rfl (Nat.le_of_ble_eq_true rfl) d_K_enterRound_22 ⟨Nat.le_of_ble_eq_true rfl, Nat.le_of_ble_eq_true rfl⟩ rfl (fun r4 σ3 h => ?_)
    refine fs_K_position B hts hown hK d_K_enterRound_25 ?_
    exact jv_vret B hr hlk hK _ rfl h d_K_enterRound_28
  · replace h := h.2 hc
    refine jv_iconst (v := 0) B d_K_enterRound_14 (by decide) ?_
    refine jv_goto (tgt := 25) B d_K_enterRound_15 (by decide) ?_
    refine fs_K_position B hts hown hK d_K_enterRound_25 ?_
    exact jv_vret B hr hlk hK _ rfl h d_K_enterRound_28
theorem c_K_enterRound {l : Launch} {D : va_G} {A : Nat → Prop} {ad : Nat → Nat} {cI cA cL : ClassId} {F : va_W} {σ : jS} {v1 : Int32} {post : jS → Prop} (h : p_K_enterRound σ v1 post) : Met l y_K_enterRound (Cond.code y_K_enterRound b_K_enterRound 2 none :: wb) (rmk 2 0 0) (jv_Pre D jClasses (jTy cI cA cL) A (cw ad cI cA σ F) [.ref (ad 8), .int v1]) (va_Qv post (jv_End D jClasses (jTy cI cA cL) A (fun σ => cw ad cI cA σ F)) A) 0 0 A :=
  jv_ofB (by decide) (Nat.le_of_ble_eq_true rfl) (fun p e s m below meth c X => w_K_enterRound_0 X h)
set_option maxRecDepth 100000 in
theorem w_K_nextBad_48 (X : jv_C p s m args meth c b_K_nextBad 3 (some .int) y_K_nextBad wb D jClasses (jTy cI cA cL) A) {post : Int32 → jS → Prop} {σ : jS} {v1 y0 : Int32} {k5 : jS → Int32 → Prop} (H5 : ∀ (σ : jS) (v1 : Int32), k5 σ v1 → jv_V p l e (rmk 3 0 0) s m args below meth c D jClasses A 3 0 0 (MQ below (va_Qi post (jv_End D jClasses (jTy cI cA cL) A (fun σ => cw ad cI cA σ F)) A) args s 0 0 A) (cw ad cI cA σ F) [(0, .ref (ad 8)), (1, .int v1)] 5 []) (h : p_K_nextBad_48 post k5 σ v1 y0) : jv_V p l e (rmk 3 0 0) s m args below meth c D jClasses A 3 0 0 (MQ below (va_Qi post (jv_End D jClasses (jTy cI cA cL) A (fun σ => cw ad cI cA σ F)) A) args s 0 0 A) (cw ad cI cA σ F) [(0, .ref (ad 8)), (1, .int v1)] 48 [.int y0] := by
  obtain ⟨B, hml, hown, hts, hK, hA, hr, hlk, hnm⟩ := id X
  unfold p_K_nextBad_48 at h
  refine jv_istore_n (lv' := [(2, .int y0), (0, .ref (ad 8)), (1, .int v1)]) B d_K_nextBad_48 rfl (by decide) rfl ?_
  refine jv_iload_n B d_K_nextBad_49 rfl 0 rfl ?_
  refine jv_iconst (v := (-1)) B d_K_nextBad_50 (by decide) ?_
  refine jv_icmp_eq (tgt := 56) B d_K_nextBad_51 (by decide) (fun hc => ?_) (fun hc => ?_)
  · replace h := h.1 hc
    refine jv_aload_n B d_K_nextBad_56 rfl 1 rfl ?_
    refine jv_iload_n B d_K_nextBad_57 rfl 2 rfl ?_
    refine jv_iconst (v := 1) B d_K_nextBad_58 (by decide) ?_
    refine jv_iadd B d_K_nextBad_59 ?_
    refine jv_cvv (As := [.int (v1 + 1)]) B hml hown hts hK hA (c_K_enterRound (ad := ad) (cI := cI) (cA := cA) (cL := cL) (F := F) h) (cwV 1 hts g_K_106 rfl rfl rfl hd_K_enterRound ⟨Nat.le_of_ble_eq_true rfl, Nat.le_of_ble_eq_true rfl⟩) 8 0 rfl rfl rfl rfl (Nat.le_of_ble_eq_true rfl) d_K_nextBad_60 ⟨Nat.le_of_ble_eq_true rfl, Nat.le_of_ble_eq_true rfl⟩ rfl (fun σ5 h => ?_)
    refine jv_iinc (n9 := 2) (v := v1 + 1) (lv' := [(1, .int (v1 + 1)), (2, .int y0), (0, .ref (ad 8))]) B d_K_nextBad_63 rfl rfl (by decide) rfl ?_
    refine jv_goto (tgt := 5) B d_K_nextBad_66 (by decide) ?_
    refine jv_sub [2, 0] rfl ?_
    exact H5 _ _ h
  · replace h := h.2 hc
    refine jv_iload_n B d_K_nextBad_54 rfl 0 rfl ?_
    exact jv_iret B hr rfl hlk hK _ rfl h d_K_nextBad_55
set_option maxRecDepth 100000 in
theorem w_K_nextBad_5 (X : jv_C p s m args meth c b_K_nextBad 3 (some .int) y_K_nextBad wb D jClasses (jTy cI cA cL) A) {post : Int32 → jS → Prop} : ∀ (n : Nat), ∀ (σ : jS) (v1 : Int32), p_K_nextBad_5 post n σ v1 → jv_V p l e (rmk 3 0 0) s m args below meth c D jClasses A 3 0 0 (MQ below (va_Qi post (jv_End D jClasses (jTy cI cA cL) A (fun σ => cw ad cI cA σ F)) A) args s 0 0 A) (cw ad cI cA σ F) [(0, .ref (ad 8)), (1, .int v1)] 5 [] := by
  obtain ⟨B, hml, hown, hts, hK, hA, hr, hlk, hnm⟩ := id X
  intro n
  induction n with
  | zero => intro σ v1 h; exact h.elim
  | succ n ih =>
    intro σ v1 h
    rw [p_K_nextBad_5] at h
    refine jv_iload_n B d_K_nextBad_5 rfl 1 rfl ?_
    refine jv_aload_n B d_K_nextBad_6 rfl 0 rfl ?_
    refine fg_K_retryRounds B hts hown hK d_K_nextBad_7 ?_
    refine jv_icmp_ge (tgt := 69) B d_K_nextBad_10 (by decide) (fun hc => ?_) (fun hc => ?_)
    · replace h := h.1 hc
      refine jv_iconst (v := (-1)) B d_K_nextBad_69 (by decide) ?_
      exact jv_iret B hr rfl hlk hK _ rfl h d_K_nextBad_70
    · replace h := h.2 hc
      refine jv_aload_n B d_K_nextBad_13 rfl 0 rfl ?_
      refine jv_iload_n B d_K_nextBad_14 rfl 1 rfl ?_
      refine jv_civ (As := [.int v1]) B hml hown hts hK hA (c_K_goesUp (ad := ad) (cI := cI) (cA := cA) (cL := cL) (F := F) h) (cwV 1 hts g_K_103 rfl rfl rfl hd_K_goesUp ⟨Nat.le_of_ble_eq_true rfl, Nat.le_of_ble_eq_true rfl⟩) 8 0 rfl rfl rfl rfl (Nat.le_of_ble_eq_true rfl) d_K_nextBad_15 ⟨Nat.le_of_ble_eq_true rfl, Nat.le_of_ble_eq_true rfl⟩ rfl (fun r2 σ1 h => ?_)
      refine jv_if_eq (tgt := 36) B d_K_nextBad_18 (by decide) (fun hc => ?_) (fun hc => ?_)
      · replace h := h.1 hc
        refine jv_aload_n B d_K_nextBad_36 rfl 0 rfl ?_
        refine fg_K_map B hts hown hK d_K_nextBad_37 ?_
        refine jv_iconst (v := 3) B d_K_nextBad_40 (by decide) ?_
        refine jv_aload_n B d_K_nextBad_41 rfl 0 rfl ?_
        refine fg_K_position B hts hown hK d_K_nextBad_42 ?_
        refine jv_civ (As := [.int 3, .int (σ1 8 3)]) B hml hown hts hK hA (c_S_lastBelow (ad := ad) (cI := cI) (cA := cA) (cL := cL) (F := F) h) (cwV 2 hts g_K_85 rfl rfl rfl hd_S_lastBelow ⟨Nat.le_of_ble_eq_true rfl, Nat.le_of_ble_eq_true rfl⟩) 6 3 rfl rfl rfl rfl (Nat.le_of_ble_eq_true rfl) d_K_nextBad_45 ⟨Nat.le_of_ble_eq_true rfl, Nat.le_of_ble_eq_true rfl⟩ rfl (fun r4 σ3 h => ?_)
        exact w_K_nextBad_48 X ih h
      · replace h := h.2 hc
        refine jv_aload_n B d_K_nextBad_21 rfl 0 rfl ?_
        refine fg_K_map B hts hown hK d_K_nextBad_22 ?_
        refine jv_iconst (v := 3) B d_K_nextBad_25 (by decide) ?_
        refine jv_aload_n B d_K_nextBad_26 rfl 0 rfl ?_
        refine fg_K_position B hts hown hK d_K_nextBad_27 ?_
        refine jv_civ (As := [.int 3, .int (σ1 8 3)]) B hml hown hts hK hA (c_S_firstFrom (ad := ad) (cI := cI) (cA := cA) (cL := cL) (F := F) h) (cwV 2 hts g_K_70 rfl rfl rfl hd_S_firstFrom ⟨Nat.le_of_ble_eq_true rfl, Nat.le_of_ble_eq_true rfl⟩) 6 3 rfl rfl rfl rfl (Nat.le_of_ble_eq_true rfl) d_K_nextBad_30 ⟨Nat.le_of_ble_eq_true rfl, Nat.le_of_ble_eq_true rfl⟩ rfl (fun r7 σ6 h => ?_)
        refine jv_goto (tgt := 48) B d_K_nextBad_33 (by decide) ?_
        exact w_K_nextBad_48 X ih h
set_option maxRecDepth 100000 in
theorem w_K_nextBad_0 (X : jv_C p s m args meth c b_K_nextBad 3 (some .int) y_K_nextBad wb D jClasses (jTy cI cA cL) A) {post : Int32 → jS → Prop} {σ : jS} (h : p_K_nextBad σ post) : jv_V p l e (rmk 3 0 0) s m args below meth c D jClasses A 3 0 0 (MQ below (va_Qi post (jv_End D jClasses (jTy cI cA cL) A (fun σ => cw ad cI cA σ F)) A) args s 0 0 A) (cw ad cI cA σ F) [(0, .ref (ad 8))] 0 [] := by
  obtain ⟨B, hml, hown, hts, hK, hA, hr, hlk, hnm⟩ := id X
  unfold p_K_nextBad at h
  refine jv_aload_n B d_K_nextBad_0 rfl 0 rfl ?_
  refine fg_K_round B hts hown hK d_K_nextBad_1 ?_
  refine jv_istore_n (lv' := [(1, .int (σ 8 5)), (0, .ref (ad 8))]) B d_K_nextBad_4 rfl (by decide) rfl ?_
  refine jv_sub [1, 0] rfl ?_
  obtain ⟨n9, h⟩ := h
  exact w_K_nextBad_5 X n9 _ _ h
theorem c_K_nextBad {l : Launch} {D : va_G} {A : Nat → Prop} {ad : Nat → Nat} {cI cA cL : ClassId} {F : va_W} {σ : jS} {post : Int32 → jS → Prop} (h : p_K_nextBad σ post) : Met l y_K_nextBad (Cond.code y_K_nextBad b_K_nextBad 3 (some .int) :: wb) (rmk 3 0 0) (jv_Pre D jClasses (jTy cI cA cL) A (cw ad cI cA σ F) [.ref (ad 8)]) (va_Qi post (jv_End D jClasses (jTy cI cA cL) A (fun σ => cw ad cI cA σ F)) A) 0 0 A :=
  jv_ofB (by decide) (Nat.le_of_ble_eq_true rfl) (fun p e s m below meth c X => w_K_nextBad_0 X h)
set_option maxRecDepth 100000 in
theorem w_K_retry_0 (X : jv_C p s m args meth c b_K_retry 2 (some .boolean) y_K_retry wb D jClasses (jTy cI cA cL) A) {post : Int32 → jS → Prop} {σ : jS} (h : p_K_retry σ post) : jv_V p l e (rmk 4 0 0) s m args below meth c D jClasses A 2 0 0 (MQ below (va_Qi post (jv_End D jClasses (jTy cI cA cL) A (fun σ => cw ad cI cA σ F)) A) args s 0 0 A) (cw ad cI cA σ F) [(0, .ref (ad 8))] 0 [] := by
  obtain ⟨B, hml, hown, hts, hK, hA, hr, hlk, hnm⟩ := id X
  unfold p_K_retry at h
  refine jv_aload_n B d_K_retry_0 rfl 0 rfl ?_
  refine jv_civ (As := []) B hml hown hts hK hA (c_K_nextBad (ad := ad) (cI := cI) (cA := cA) (cL := cL) (F := F) h) (cwV 0 hts g_K_100 rfl rfl rfl hd_K_nextBad ⟨Nat.le_of_ble_eq_true rfl, Nat.le_of_ble_eq_true rfl⟩) 8 0 rfl rfl rfl rfl (Nat.le_of_ble_eq_true rfl) d_K_retry_1 ⟨Nat.le_of_ble_eq_true rfl, Nat.le_of_ble_eq_true rfl⟩ rfl (fun r2 σ1 h => ?_)
  refine jv_istore_n (lv' := [(1, .int r2), (0, .ref (ad 8))]) B d_K_retry_4 rfl (by decide) rfl ?_
  refine jv_iload_n B d_K_retry_5 rfl 0 rfl ?_
  refine jv_iconst (v := (-1)) B d_K_retry_6 (by decide) ?_
  refine jv_icmp_ne (tgt := 12) B d_K_retry_7 (by decide) (fun hc => ?_) (fun hc => ?_)
  · replace h := h.1 hc
    refine jv_aload_n B d_K_retry_12 rfl 1 rfl ?_
    refine jv_iload_n B d_K_retry_13 rfl 0 rfl ?_
    refine jv_iload_n B d_K_retry_14 rfl 0 rfl ?_
    refine jv_iconst (v := 1) B d_K_retry_15 (by decide) ?_
    refine jv_iadd B d_K_retry_16 ?_
    refine jv_iconst (v := 3) B d_K_retry_17 (by decide) ?_
    refine jv_civ (As := [.int r2, .int (r2 + 1), .int 3]) B hml hown hts hK hA (c_K_rescue (ad := ad) (cI := cI) (cA := cA) (cL := cL) (F := F) h) (cwV 3 hts g_K_77 rfl rfl rfl hd_K_rescue ⟨Nat.le_of_ble_eq_true rfl, Nat.le_of_ble_eq_true rfl⟩) 8 0 rfl rfl rfl rfl (Nat.le_of_ble_eq_true rfl) d_K_retry_18 ⟨Nat.le_of_ble_eq_true rfl, Nat.le_of_ble_eq_true rfl⟩ rfl (fun r4 σ3 h => ?_)
    refine jv_pop B d_K_retry_21 rfl ?_
    refine jv_aload_n B d_K_retry_22 rfl 1 rfl ?_
    refine jv_aload_n B d_K_retry_23 rfl 1 rfl ?_
    refine jv_aload_n B d_K_retry_24 rfl 1 rfl ?_
    refine fg_K_round B hts hown hK d_K_retry_25 ?_
    refine jv_civ (As := [.int (σ3 8 5)]) B hml hown hts hK hA (c_K_goesUp (ad := ad) (cI := cI) (cA := cA) (cL := cL) (F := F) h) (cwV 1 hts g_K_103 rfl rfl rfl hd_K_goesUp ⟨Nat.le_of_ble_eq_true rfl, Nat.le_of_ble_eq_true rfl⟩) 8 0 rfl rfl rfl rfl (Nat.le_of_ble_eq_true rfl) d_K_retry_28 ⟨Nat.le_of_ble_eq_true rfl, Nat.le_of_ble_eq_true rfl⟩ rfl (fun r6 σ5 h => ?_)
    refine jv_if_eq (tgt := 40) B d_K_retry_31 (by decide) (fun hc => ?_) (fun hc => ?_)
    · replace h := h.1 hc
      refine jv_iload_n B d_K_retry_40 rfl 0 rfl ?_
      refine fs_K_position B hts hown hK d_K_retry_41 ?_
      refine jv_iconst (v := 1) B d_K_retry_44 (by decide) ?_
      exact jv_iret B hr (nz h.1) hlk hK _ rfl h.2 d_K_retry_45
    · replace h := h.2 hc
      refine jv_iload_n B d_K_retry_34 rfl 0 rfl ?_
      refine jv_iconst (v := 1) B d_K_retry_35 (by decide) ?_
      refine jv_iadd B d_K_retry_36 ?_
      refine jv_goto (tgt := 41) B d_K_retry_37 (by decide) ?_
      refine fs_K_position B hts hown hK d_K_retry_41 ?_
      refine jv_iconst (v := 1) B d_K_retry_44 (by decide) ?_
      exact jv_iret B hr (nz h.1) hlk hK _ rfl h.2 d_K_retry_45
  · replace h := h.2 hc
    refine jv_iconst (v := 0) B d_K_retry_10 (by decide) ?_
    exact jv_iret B hr (nz h.1) hlk hK _ rfl h.2 d_K_retry_11
theorem c_K_retry {l : Launch} {D : va_G} {A : Nat → Prop} {ad : Nat → Nat} {cI cA cL : ClassId} {F : va_W} {σ : jS} {post : Int32 → jS → Prop} (h : p_K_retry σ post) : Met l y_K_retry (Cond.code y_K_retry b_K_retry 2 (some .boolean) :: wb) (rmk 4 0 0) (jv_Pre D jClasses (jTy cI cA cL) A (cw ad cI cA σ F) [.ref (ad 8)]) (va_Qi post (jv_End D jClasses (jTy cI cA cL) A (fun σ => cw ad cI cA σ F)) A) 0 0 A :=
  jv_ofB (by decide) (Nat.le_of_ble_eq_true rfl) (fun p e s m below meth c X => w_K_retry_0 X h)
set_option maxRecDepth 100000 in
theorem w_K_readIn_0 (X : jv_C p s m args meth c b_K_readIn 2 (some .boolean) y_K_readIn wb D jClasses (jTy cI cA cL) A) {post : Int32 → jS → Prop} {σ : jS} {v1 : Int32} (h : p_K_readIn σ v1 post) : jv_V p l e (rmk 5 0 0) s m args below meth c D jClasses A 2 0 0 (MQ below (va_Qi post (jv_End D jClasses (jTy cI cA cL) A (fun σ => cw ad cI cA σ F)) A) args s 0 0 A) (cw ad cI cA σ F) [(0, .ref (ad 8)), (1, .int v1)] 0 [] := by
  obtain ⟨B, hml, hown, hts, hK, hA, hr, hlk, hnm⟩ := id X
  unfold p_K_readIn at h
  refine jv_iload_n B d_K_readIn_0 rfl 1 rfl ?_
  refine jv_tsw (n := 6) (tg := fun j => match j with | 0 => 40 | 1 => 46 | 2 => 51 | 3 => 57 | 4 => 62 | 5 => 67 | _ => 72) (tgd := 72) B d_K_readIn_1 (by decide) (by decide) (by decide) (fun j hj hc => ?_) (fun hc => ?_)
  · match j, hj with
    | 0, _ =>
      replace h := h.1 hc
      refine jv_aload_n B d_K_readIn_40 rfl 0 rfl ?_
      refine jv_iconst (v := 1) B d_K_readIn_41 (by decide) ?_
      refine jv_civ (As := [.int 1]) B hml hown hts hK hA (c_K_readForward (ad := ad) (cI := cI) (cA := cA) (cL := cL) (F := F) h) (cwV 1 hts g_K_53 rfl rfl rfl hd_K_readForward ⟨Nat.le_of_ble_eq_true rfl, Nat.le_of_ble_eq_true rfl⟩) 8 0 rfl rfl rfl rfl (Nat.le_of_ble_eq_true rfl) d_K_readIn_42 ⟨Nat.le_of_ble_eq_true rfl, Nat.le_of_ble_eq_true rfl⟩ rfl (fun r2 σ1 h => ?_)
      exact jv_iret B hr (nz h.1) hlk hK _ rfl h.2 d_K_readIn_45
    | 1, _ =>
      replace h := h.2.1 hc
      refine jv_aload_n B d_K_readIn_46 rfl 0 rfl ?_
      refine jv_civ (As := []) B hml hown hts hK hA (c_K_readBackward (ad := ad) (cI := cI) (cA := cA) (cL := cL) (F := F) h) (cwV 0 hts g_K_57 rfl rfl rfl hd_K_readBackward ⟨Nat.le_of_ble_eq_true rfl, Nat.le_of_ble_eq_true rfl⟩) 8 0 rfl rfl rfl rfl (Nat.le_of_ble_eq_true rfl) d_K_readIn_47 ⟨Nat.le_of_ble_eq_true rfl, Nat.le_of_ble_eq_true rfl⟩ rfl (fun r4 σ3 h => ?_)
      exact jv_iret B hr (nz h.1) hlk hK _ rfl h.2 d_K_readIn_50
    | 2, _ =>
      replace h := h.2.2.1 hc
      refine jv_aload_n B d_K_readIn_51 rfl 0 rfl ?_
      refine jv_iconst (v := 0) B d_K_readIn_52 (by decide) ?_
      refine jv_civ (As := [.int 0]) B hml hown hts hK hA (c_K_readForward (ad := ad) (cI := cI) (cA := cA) (cL := cL) (F := F) h) (cwV 1 hts g_K_53 rfl rfl rfl hd_K_readForward ⟨Nat.le_of_ble_eq_true rfl, Nat.le_of_ble_eq_true rfl⟩) 8 0 rfl rfl rfl rfl (Nat.le_of_ble_eq_true rfl) d_K_readIn_53 ⟨Nat.le_of_ble_eq_true rfl, Nat.le_of_ble_eq_true rfl⟩ rfl (fun r6 σ5 h => ?_)
      exact jv_iret B hr (nz h.1) hlk hK _ rfl h.2 d_K_readIn_56
    | 3, _ =>
      replace h := h.2.2.2.1 hc
      refine jv_aload_n B d_K_readIn_57 rfl 0 rfl ?_
      refine jv_civ (As := []) B hml hown hts hK hA (c_K_trim (ad := ad) (cI := cI) (cA := cA) (cL := cL) (F := F) h) (cwV 0 hts g_K_61 rfl rfl rfl hd_K_trim ⟨Nat.le_of_ble_eq_true rfl, Nat.le_of_ble_eq_true rfl⟩) 8 0 rfl rfl rfl rfl (Nat.le_of_ble_eq_true rfl) d_K_readIn_58 ⟨Nat.le_of_ble_eq_true rfl, Nat.le_of_ble_eq_true rfl⟩ rfl (fun r8 σ7 h => ?_)
      exact jv_iret B hr (nz h.1) hlk hK _ rfl h.2 d_K_readIn_61
    | 4, _ =>
      replace h := h.2.2.2.2.1 hc
      refine jv_aload_n B d_K_readIn_62 rfl 0 rfl ?_
      refine jv_civ (As := []) B hml hown hts hK hA (c_K_scrape (ad := ad) (cI := cI) (cA := cA) (cL := cL) (F := F) h) (cwV 0 hts g_K_64 rfl rfl rfl hd_K_scrape ⟨Nat.le_of_ble_eq_true rfl, Nat.le_of_ble_eq_true rfl⟩) 8 0 rfl rfl rfl rfl (Nat.le_of_ble_eq_true rfl) d_K_readIn_63 ⟨Nat.le_of_ble_eq_true rfl, Nat.le_of_ble_eq_true rfl⟩ rfl (fun r10 σ9 h => ?_)
      exact jv_iret B hr (nz h.1) hlk hK _ rfl h.2 d_K_readIn_66
    | 5, _ =>
      replace h := h.2.2.2.2.2.1 hc
      refine jv_aload_n B d_K_readIn_67 rfl 0 rfl ?_
      refine jv_civ (As := []) B hml hown hts hK hA (c_K_retry (ad := ad) (cI := cI) (cA := cA) (cL := cL) (F := F) h) (cwV 0 hts g_K_67 rfl rfl rfl hd_K_retry ⟨Nat.le_of_ble_eq_true rfl, Nat.le_of_ble_eq_true rfl⟩) 8 0 rfl rfl rfl rfl (Nat.le_of_ble_eq_true rfl) d_K_readIn_68 ⟨Nat.le_of_ble_eq_true rfl, Nat.le_of_ble_eq_true rfl⟩ rfl (fun r12 σ11 h => ?_)
      exact jv_iret B hr (nz h.1) hlk hK _ rfl h.2 d_K_readIn_71
    | j + 6, hj => exact absurd hj (by omega)
  · replace h := h.2.2.2.2.2.2 hc
    refine jv_iconst (v := 0) B d_K_readIn_72 (by decide) ?_
    exact jv_iret B hr (nz h.1) hlk hK _ rfl h.2 d_K_readIn_73
theorem c_K_readIn {l : Launch} {D : va_G} {A : Nat → Prop} {ad : Nat → Nat} {cI cA cL : ClassId} {F : va_W} {σ : jS} {v1 : Int32} {post : Int32 → jS → Prop} (h : p_K_readIn σ v1 post) : Met l y_K_readIn (Cond.code y_K_readIn b_K_readIn 2 (some .boolean) :: wb) (rmk 5 0 0) (jv_Pre D jClasses (jTy cI cA cL) A (cw ad cI cA σ F) [.ref (ad 8), .int v1]) (va_Qi post (jv_End D jClasses (jTy cI cA cL) A (fun σ => cw ad cI cA σ F)) A) 0 0 A :=
  jv_ofB (by decide) (Nat.le_of_ble_eq_true rfl) (fun p e s m below meth c X => w_K_readIn_0 X h)
set_option maxRecDepth 100000 in
theorem w_K_makeStep_5 (X : jv_C p s m args meth c b_K_makeStep 2 (some .int) y_K_makeStep wb D jClasses (jTy cI cA cL) A) {post : Int32 → jS → Prop} : ∀ (n : Nat), ∀ (σ : jS) (v1 : Int32), p_K_makeStep_5 post n σ v1 → jv_V p l e (rmk 6 0 0) s m args below meth c D jClasses A 2 0 0 (MQ below (va_Qi post (jv_End D jClasses (jTy cI cA cL) A (fun σ => cw ad cI cA σ F)) A) args s 0 0 A) (cw ad cI cA σ F) [(0, .ref (ad 8)), (1, .int v1)] 5 [] := by
  obtain ⟨B, hml, hown, hts, hK, hA, hr, hlk, hnm⟩ := id X
  intro n
  induction n with
  | zero => intro σ v1 h; exact h.elim
  | succ n ih =>
    intro σ v1 h
    rw [p_K_makeStep_5] at h
    refine jv_iload_n B d_K_makeStep_5 rfl 1 rfl ?_
    refine jv_bipush (v := 6) B d_K_makeStep_6 (by decide) ?_
    refine jv_icmp_ge (tgt := 34) B d_K_makeStep_8 (by decide) (fun hc => ?_) (fun hc => ?_)
    · replace h := h.1 hc
      refine jv_bipush (v := 6) B d_K_makeStep_34 (by decide) ?_
      exact jv_iret B hr rfl hlk hK _ rfl h d_K_makeStep_36
    · replace h := h.2 hc
      refine jv_aload_n B d_K_makeStep_11 rfl 0 rfl ?_
      refine jv_iload_n B d_K_makeStep_12 rfl 1 rfl ?_
      refine jv_civ (As := [.int v1]) B hml hown hts hK hA (c_K_readIn (ad := ad) (cI := cI) (cA := cA) (cL := cL) (F := F) h) (cwV 1 hts g_K_49 rfl rfl rfl hd_K_readIn ⟨Nat.le_of_ble_eq_true rfl, Nat.le_of_ble_eq_true rfl⟩) 8 0 rfl rfl rfl rfl (Nat.le_of_ble_eq_true rfl) d_K_makeStep_13 ⟨Nat.le_of_ble_eq_true rfl, Nat.le_of_ble_eq_true rfl⟩ rfl (fun r2 σ1 h => ?_)
      refine jv_if_eq (tgt := 21) B d_K_makeStep_16 (by decide) (fun hc => ?_) (fun hc => ?_)
      · replace h := h.1 hc
        refine jv_aload_n B d_K_makeStep_21 rfl 0 rfl ?_
        refine jv_iload_n B d_K_makeStep_22 rfl 1 rfl ?_
        refine jv_iconst (v := 1) B d_K_makeStep_23 (by decide) ?_
        refine jv_iadd B d_K_makeStep_24 ?_
        refine jv_cvv (As := [.int (v1 + 1)]) B hml hown hts hK hA (c_K_enter (ad := ad) (cI := cI) (cA := cA) (cL := cL) (F := F) h) (cwV 1 hts g_K_26 rfl rfl rfl hd_K_enter ⟨Nat.le_of_ble_eq_true rfl, Nat.le_of_ble_eq_true rfl⟩) 8 0 rfl rfl rfl rfl (Nat.le_of_ble_eq_true rfl) d_K_makeStep_25 ⟨Nat.le_of_ble_eq_true rfl, Nat.le_of_ble_eq_true rfl⟩ rfl (fun σ3 h => ?_)
        refine jv_iinc (n9 := 1) (v := v1 + 1) (lv' := [(1, .int (v1 + 1)), (0, .ref (ad 8))]) B d_K_makeStep_28 rfl rfl (by decide) rfl ?_
        refine jv_goto (tgt := 5) B d_K_makeStep_31 (by decide) ?_
        refine jv_sub [1, 0] rfl ?_
        exact ih _ _ h
      · replace h := h.2 hc
        refine jv_iload_n B d_K_makeStep_19 rfl 1 rfl ?_
        exact jv_iret B hr rfl hlk hK _ rfl h d_K_makeStep_20
set_option maxRecDepth 100000 in
theorem w_K_makeStep_0 (X : jv_C p s m args meth c b_K_makeStep 2 (some .int) y_K_makeStep wb D jClasses (jTy cI cA cL) A) {post : Int32 → jS → Prop} {σ : jS} (h : p_K_makeStep σ post) : jv_V p l e (rmk 6 0 0) s m args below meth c D jClasses A 2 0 0 (MQ below (va_Qi post (jv_End D jClasses (jTy cI cA cL) A (fun σ => cw ad cI cA σ F)) A) args s 0 0 A) (cw ad cI cA σ F) [(0, .ref (ad 8))] 0 [] := by
  obtain ⟨B, hml, hown, hts, hK, hA, hr, hlk, hnm⟩ := id X
  unfold p_K_makeStep at h
  refine jv_aload_n B d_K_makeStep_0 rfl 0 rfl ?_
  refine fg_K_phaseNow B hts hown hK d_K_makeStep_1 ?_
  refine jv_istore_n (lv' := [(1, .int (σ 8 2)), (0, .ref (ad 8))]) B d_K_makeStep_4 rfl (by decide) rfl ?_
  refine jv_sub [1, 0] rfl ?_
  obtain ⟨n9, h⟩ := h
  exact w_K_makeStep_5 X n9 _ _ h
theorem c_K_makeStep {l : Launch} {D : va_G} {A : Nat → Prop} {ad : Nat → Nat} {cI cA cL : ClassId} {F : va_W} {σ : jS} {post : Int32 → jS → Prop} (h : p_K_makeStep σ post) : Met l y_K_makeStep (Cond.code y_K_makeStep b_K_makeStep 2 (some .int) :: wb) (rmk 6 0 0) (jv_Pre D jClasses (jTy cI cA cL) A (cw ad cI cA σ F) [.ref (ad 8)]) (va_Qi post (jv_End D jClasses (jTy cI cA cL) A (fun σ => cw ad cI cA σ F)) A) 0 0 A :=
  jv_ofB (by decide) (Nat.le_of_ble_eq_true rfl) (fun p e s m below meth c X => w_K_makeStep_0 X h)
set_option maxRecDepth 100000 in
theorem w_D_lay_0 (X : jv_C p s m args meth c b_D_lay 2 none y_D_lay wb D jClasses (jTy cI cA cL) A) {post : jS → Prop} {σ : jS} {v1 : Int32} (h : p_D_lay σ v1 post) : jv_V p l e (rmk 2 0 0) s m args below meth c D jClasses A 2 0 0 (MQ below (va_Qv post (jv_End D jClasses (jTy cI cA cL) A (fun σ => cw ad cI cA σ F)) A) args s 0 0 A) (cw ad cI cA σ F) [(0, .ref (ad 1)), (1, .int v1)] 0 [] := by
  obtain ⟨B, hml, hown, hts, hK, hA, hr, hlk, hnm⟩ := id X
  unfold p_D_lay at h
  refine jv_aload_n B d_D_lay_0 rfl 0 rfl ?_
  refine jv_iload_n B d_D_lay_1 rfl 1 rfl ?_
  refine fs_D_sectors B hts hown hK d_D_lay_2 ?_
  refine jv_aload_n B d_D_lay_5 rfl 0 rfl ?_
  refine jv_iconst (v := 0) B d_D_lay_6 (by decide) ?_
  refine fs_D_stretches B hts hown hK d_D_lay_7 ?_
  refine jv_aload_n B d_D_lay_10 rfl 0 rfl ?_
  refine jv_iconst (v := 0) B d_D_lay_11 (by decide) ?_
  refine fs_D_failedStretches B hts hown hK d_D_lay_12 ?_
  refine jv_aload_n B d_D_lay_15 rfl 0 rfl ?_
  refine fg_D_words B hts hown hK d_D_lay_16 ?_
  refine jv_iconst (v := 0) B d_D_lay_19 (by decide) ?_
  refine jv_fill (ws' := cw ad cI cA (upA (up2 (up2 (up2 σ 1 4 v1) 1 5 0) 1 6 0) 2 64 0) F) B hml hown hts hK hA kw_291 2 rfl rfl (by decide) rfl (Nat.le_of_ble_eq_true rfl) (Nat.le_of_ble_eq_true rfl) ⟨Nat.le_of_ble_eq_true rfl, Nat.le_of_ble_eq_true rfl⟩ (Nat.le_of_ble_eq_true rfl) d_D_lay_20 ?_
  refine jv_aload_n B d_D_lay_23 rfl 0 rfl ?_
  refine fg_D_failuresLeft B hts hown hK d_D_lay_24 ?_
  refine jv_iconst (v := 0) B d_D_lay_27 (by decide) ?_
  refine jv_fill (ws' := cw ad cI cA (upA (upA (up2 (up2 (up2 σ 1 4 v1) 1 5 0) 1 6 0) 2 64 0) 3 64 0) F) B hml hown hts hK hA kw_291 3 rfl rfl (by decide) rfl (Nat.le_of_ble_eq_true rfl) (Nat.le_of_ble_eq_true rfl) ⟨Nat.le_of_ble_eq_true rfl, Nat.le_of_ble_eq_true rfl⟩ (Nat.le_of_ble_eq_true rfl) d_D_lay_28 ?_
  refine jv_aload_n B d_D_lay_31 rfl 0 rfl ?_
  refine fg_D_readCounts B hts hown hK d_D_lay_32 ?_
  refine jv_iconst (v := 0) B d_D_lay_35 (by decide) ?_
  refine jv_fill (ws' := cw ad cI cA (upA (upA (upA (up2 (up2 (up2 σ 1 4 v1) 1 5 0) 1 6 0) 2 64 0) 3 64 0) 4 64 0) F) B hml hown hts hK hA kw_291 4 rfl rfl (by decide) rfl (Nat.le_of_ble_eq_true rfl) (Nat.le_of_ble_eq_true rfl) ⟨Nat.le_of_ble_eq_true rfl, Nat.le_of_ble_eq_true rfl⟩ (Nat.le_of_ble_eq_true rfl) d_D_lay_36 ?_
  refine jv_aload_n B d_D_lay_39 rfl 0 rfl ?_
  refine fg_D_target B hts hown hK d_D_lay_40 ?_
  refine jv_iconst (v := 0) B d_D_lay_43 (by decide) ?_
  refine jv_fill (ws' := cw ad cI cA (upA (upA (upA (upA (up2 (up2 (up2 σ 1 4 v1) 1 5 0) 1 6 0) 2 64 0) 3 64 0) 4 64 0) 5 64 0) F) B hml hown hts hK hA kw_291 5 rfl rfl (by decide) rfl (Nat.le_of_ble_eq_true rfl) (Nat.le_of_ble_eq_true rfl) ⟨Nat.le_of_ble_eq_true rfl, Nat.le_of_ble_eq_true rfl⟩ (Nat.le_of_ble_eq_true rfl) d_D_lay_44 ?_
  exact jv_vret B hr hlk hK _ rfl h d_D_lay_47
theorem c_D_lay {l : Launch} {D : va_G} {A : Nat → Prop} {ad : Nat → Nat} {cI cA cL : ClassId} {F : va_W} {σ : jS} {v1 : Int32} {post : jS → Prop} (h : p_D_lay σ v1 post) : Met l y_D_lay (Cond.code y_D_lay b_D_lay 2 none :: wb) (rmk 2 0 0) (jv_Pre D jClasses (jTy cI cA cL) A (cw ad cI cA σ F) [.ref (ad 1), .int v1]) (va_Qv post (jv_End D jClasses (jTy cI cA cL) A (fun σ => cw ad cI cA σ F)) A) 0 0 A :=
  jv_ofB (by decide) (Nat.le_of_ble_eq_true rfl) (fun p e s m below meth c X => w_D_lay_0 X h)
set_option maxRecDepth 100000 in
theorem w_D_size_0 (X : jv_C p s m args meth c b_D_size 1 (some .int) y_D_size wb D jClasses (jTy cI cA cL) A) {post : Int32 → jS → Prop} {σ : jS} (h : p_D_size σ post) : jv_V p l e (rmk 1 0 0) s m args below meth c D jClasses A 1 0 0 (MQ below (va_Qi post (jv_End D jClasses (jTy cI cA cL) A (fun σ => cw ad cI cA σ F)) A) args s 0 0 A) (cw ad cI cA σ F) [(0, .ref (ad 1))] 0 [] := by
  obtain ⟨B, hml, hown, hts, hK, hA, hr, hlk, hnm⟩ := id X
  unfold p_D_size at h
  refine jv_aload_n B d_D_size_0 rfl 0 rfl ?_
  refine fg_D_sectors B hts hown hK d_D_size_1 ?_
  exact jv_iret B hr rfl hlk hK _ rfl h d_D_size_4
theorem c_D_size {l : Launch} {D : va_G} {A : Nat → Prop} {ad : Nat → Nat} {cI cA cL : ClassId} {F : va_W} {σ : jS} {post : Int32 → jS → Prop} (h : p_D_size σ post) : Met l y_D_size (Cond.code y_D_size b_D_size 1 (some .int) :: wb) (rmk 1 0 0) (jv_Pre D jClasses (jTy cI cA cL) A (cw ad cI cA σ F) [.ref (ad 1)]) (va_Qi post (jv_End D jClasses (jTy cI cA cL) A (fun σ => cw ad cI cA σ F)) A) 0 0 A :=
  jv_ofB (by decide) (Nat.le_of_ble_eq_true rfl) (fun p e s m below meth c X => w_D_size_0 X h)
set_option maxRecDepth 100000 in
theorem w_D_has_0 (X : jv_C p s m args meth c b_D_has 2 (some .boolean) y_D_has wb D jClasses (jTy cI cA cL) A) {post : Int32 → jS → Prop} {σ : jS} {v1 : Int32} (h : p_D_has σ v1 post) : jv_V p l e (rmk 1 0 0) s m args below meth c D jClasses A 2 0 0 (MQ below (va_Qi post (jv_End D jClasses (jTy cI cA cL) A (fun σ => cw ad cI cA σ F)) A) args s 0 0 A) (cw ad cI cA σ F) [(0, .ref (ad 1)), (1, .int v1)] 0 [] := by
  obtain ⟨B, hml, hown, hts, hK, hA, hr, hlk, hnm⟩ := id X
  unfold p_D_has at h
  refine jv_iload_n B d_D_has_0 rfl 1 rfl ?_
  refine jv_if_lt (tgt := 16) B d_D_has_1 (by decide) (fun hc => ?_) (fun hc => ?_)
  · replace h := h.1 hc
    refine jv_iconst (v := 0) B d_D_has_16 (by decide) ?_
    exact jv_iret B hr (nz h.1) hlk hK _ rfl h.2 d_D_has_17
  · replace h := h.2 hc
    refine jv_iload_n B d_D_has_4 rfl 1 rfl ?_
    refine jv_aload_n B d_D_has_5 rfl 0 rfl ?_
    refine fg_D_sectors B hts hown hK d_D_has_6 ?_
    refine jv_icmp_ge (tgt := 16) B d_D_has_9 (by decide) (fun hc => ?_) (fun hc => ?_)
    · replace h := h.1 hc
      refine jv_iconst (v := 0) B d_D_has_16 (by decide) ?_
      exact jv_iret B hr (nz h.1) hlk hK _ rfl h.2 d_D_has_17
    · replace h := h.2 hc
      refine jv_iconst (v := 1) B d_D_has_12 (by decide) ?_
      refine jv_goto (tgt := 17) B d_D_has_13 (by decide) ?_
      exact jv_iret B hr (nz h.1) hlk hK _ rfl h.2 d_D_has_17
theorem c_D_has {l : Launch} {D : va_G} {A : Nat → Prop} {ad : Nat → Nat} {cI cA cL : ClassId} {F : va_W} {σ : jS} {v1 : Int32} {post : Int32 → jS → Prop} (h : p_D_has σ v1 post) : Met l y_D_has (Cond.code y_D_has b_D_has 2 (some .boolean) :: wb) (rmk 1 0 0) (jv_Pre D jClasses (jTy cI cA cL) A (cw ad cI cA σ F) [.ref (ad 1), .int v1]) (va_Qi post (jv_End D jClasses (jTy cI cA cL) A (fun σ => cw ad cI cA σ F)) A) 0 0 A :=
  jv_ofB (by decide) (Nat.le_of_ble_eq_true rfl) (fun p e s m below meth c X => w_D_has_0 X h)
set_option maxRecDepth 100000 in
theorem w_D_put_0 (X : jv_C p s m args meth c b_D_put 4 none y_D_put wb D jClasses (jTy cI cA cL) A) {post : jS → Prop} {σ : jS} {v1 v2 v3 : Int32} (h : p_D_put σ v1 v2 v3 post) : jv_V p l e (rmk 2 0 0) s m args below meth c D jClasses A 4 0 0 (MQ below (va_Qv post (jv_End D jClasses (jTy cI cA cL) A (fun σ => cw ad cI cA σ F)) A) args s 0 0 A) (cw ad cI cA σ F) [(0, .ref (ad 1)), (1, .int v1), (2, .int v2), (3, .int v3)] 0 [] := by
  obtain ⟨B, hml, hown, hts, hK, hA, hr, hlk, hnm⟩ := id X
  unfold p_D_put at h
  refine jv_aload_n B d_D_put_0 rfl 0 rfl ?_
  refine jv_iload_n B d_D_put_1 rfl 1 rfl ?_
  refine jv_civ (As := [.int v1]) B hml hown hts hK hA (c_D_has (ad := ad) (cI := cI) (cA := cA) (cL := cL) (F := F) h) (cwV 1 hts g_D_40 rfl rfl rfl hd_D_has ⟨Nat.le_of_ble_eq_true rfl, Nat.le_of_ble_eq_true rfl⟩) 1 1 rfl rfl rfl rfl (Nat.le_of_ble_eq_true rfl) d_D_put_2 ⟨Nat.le_of_ble_eq_true rfl, Nat.le_of_ble_eq_true rfl⟩ rfl (fun r2 σ1 h => ?_)
  refine jv_if_eq (tgt := 22) B d_D_put_5 (by decide) (fun hc => ?_) (fun hc => ?_)
  · replace h := h.1 hc
    exact jv_vret B hr hlk hK _ rfl h d_D_put_22
  · replace h := h.2 hc
    refine jv_aload_n B d_D_put_8 rfl 0 rfl ?_
    refine fg_D_words B hts hown hK d_D_put_9 ?_
    refine jv_iload_n B d_D_put_12 rfl 1 rfl ?_
    refine jv_iload_n B d_D_put_13 rfl 2 rfl ?_
    refine sd_c_2 B hK h.1 d_D_put_14 ?_
    replace h := h.2
    refine jv_aload_n B d_D_put_15 rfl 0 rfl ?_
    refine fg_D_failuresLeft B hts hown hK d_D_put_16 ?_
    refine jv_iload_n B d_D_put_19 rfl 1 rfl ?_
    refine jv_iload_n B d_D_put_20 rfl 3 rfl ?_
    refine sd_c_3 B hK h.1 d_D_put_21 ?_
    replace h := h.2
    exact jv_vret B hr hlk hK _ rfl h d_D_put_22
theorem c_D_put {l : Launch} {D : va_G} {A : Nat → Prop} {ad : Nat → Nat} {cI cA cL : ClassId} {F : va_W} {σ : jS} {v1 v2 v3 : Int32} {post : jS → Prop} (h : p_D_put σ v1 v2 v3 post) : Met l y_D_put (Cond.code y_D_put b_D_put 4 none :: wb) (rmk 2 0 0) (jv_Pre D jClasses (jTy cI cA cL) A (cw ad cI cA σ F) [.ref (ad 1), .int v1, .int v2, .int v3]) (va_Qv post (jv_End D jClasses (jTy cI cA cL) A (fun σ => cw ad cI cA σ F)) A) 0 0 A :=
  jv_ofB (by decide) (Nat.le_of_ble_eq_true rfl) (fun p e s m below meth c X => w_D_put_0 X h)
set_option maxRecDepth 100000 in
theorem w_D_deliver_0 (X : jv_C p s m args meth c b_D_deliver 3 none y_D_deliver wb D jClasses (jTy cI cA cL) A) {post : jS → Prop} {σ : jS} {v1 v2 : Int32} (h : p_D_deliver σ v1 v2 post) : jv_V p l e (rmk 2 0 0) s m args below meth c D jClasses A 3 0 0 (MQ below (va_Qv post (jv_End D jClasses (jTy cI cA cL) A (fun σ => cw ad cI cA σ F)) A) args s 0 0 A) (cw ad cI cA σ F) [(0, .ref (ad 1)), (1, .int v1), (2, .int v2)] 0 [] := by
  obtain ⟨B, hml, hown, hts, hK, hA, hr, hlk, hnm⟩ := id X
  unfold p_D_deliver at h
  refine jv_aload_n B d_D_deliver_0 rfl 0 rfl ?_
  refine jv_iload_n B d_D_deliver_1 rfl 1 rfl ?_
  refine jv_civ (As := [.int v1]) B hml hown hts hK hA (c_D_has (ad := ad) (cI := cI) (cA := cA) (cL := cL) (F := F) h) (cwV 1 hts g_D_40 rfl rfl rfl hd_D_has ⟨Nat.le_of_ble_eq_true rfl, Nat.le_of_ble_eq_true rfl⟩) 1 1 rfl rfl rfl rfl (Nat.le_of_ble_eq_true rfl) d_D_deliver_2 ⟨Nat.le_of_ble_eq_true rfl, Nat.le_of_ble_eq_true rfl⟩ rfl (fun r2 σ1 h => ?_)
  refine jv_if_eq (tgt := 15) B d_D_deliver_5 (by decide) (fun hc => ?_) (fun hc => ?_)
  · replace h := h.1 hc
    exact jv_vret B hr hlk hK _ rfl h d_D_deliver_15
  · replace h := h.2 hc
    refine jv_aload_n B d_D_deliver_8 rfl 0 rfl ?_
    refine fg_D_target B hts hown hK d_D_deliver_9 ?_
    refine jv_iload_n B d_D_deliver_12 rfl 1 rfl ?_
    refine jv_iload_n B d_D_deliver_13 rfl 2 rfl ?_
    refine sd_c_5 B hK h.1 d_D_deliver_14 ?_
    replace h := h.2
    exact jv_vret B hr hlk hK _ rfl h d_D_deliver_15
theorem c_D_deliver {l : Launch} {D : va_G} {A : Nat → Prop} {ad : Nat → Nat} {cI cA cL : ClassId} {F : va_W} {σ : jS} {v1 v2 : Int32} {post : jS → Prop} (h : p_D_deliver σ v1 v2 post) : Met l y_D_deliver (Cond.code y_D_deliver b_D_deliver 3 none :: wb) (rmk 2 0 0) (jv_Pre D jClasses (jTy cI cA cL) A (cw ad cI cA σ F) [.ref (ad 1), .int v1, .int v2]) (va_Qv post (jv_End D jClasses (jTy cI cA cL) A (fun σ => cw ad cI cA σ F)) A) 0 0 A :=
  jv_ofB (by decide) (Nat.le_of_ble_eq_true rfl) (fun p e s m below meth c X => w_D_deliver_0 X h)
set_option maxRecDepth 100000 in
theorem w_D_wordOut_0 (X : jv_C p s m args meth c b_D_wordOut 2 (some .int) y_D_wordOut wb D jClasses (jTy cI cA cL) A) {post : Int32 → jS → Prop} {σ : jS} {v1 : Int32} (h : p_D_wordOut σ v1 post) : jv_V p l e (rmk 2 0 0) s m args below meth c D jClasses A 2 0 0 (MQ below (va_Qi post (jv_End D jClasses (jTy cI cA cL) A (fun σ => cw ad cI cA σ F)) A) args s 0 0 A) (cw ad cI cA σ F) [(0, .ref (ad 1)), (1, .int v1)] 0 [] := by
  obtain ⟨B, hml, hown, hts, hK, hA, hr, hlk, hnm⟩ := id X
  unfold p_D_wordOut at h
  refine jv_aload_n B d_D_wordOut_0 rfl 0 rfl ?_
  refine jv_iload_n B d_D_wordOut_1 rfl 1 rfl ?_
  refine jv_civ (As := [.int v1]) B hml hown hts hK hA (c_D_has (ad := ad) (cI := cI) (cA := cA) (cL := cL) (F := F) h) (cwV 1 hts g_D_40 rfl rfl rfl hd_D_has ⟨Nat.le_of_ble_eq_true rfl, Nat.le_of_ble_eq_true rfl⟩) 1 1 rfl rfl rfl rfl (Nat.le_of_ble_eq_true rfl) d_D_wordOut_2 ⟨Nat.le_of_ble_eq_true rfl, Nat.le_of_ble_eq_true rfl⟩ rfl (fun r2 σ1 h => ?_)
  refine jv_if_eq (tgt := 17) B d_D_wordOut_5 (by decide) (fun hc => ?_) (fun hc => ?_)
  · replace h := h.1 hc
    refine jv_iconst (v := 0) B d_D_wordOut_17 (by decide) ?_
    exact jv_iret B hr rfl hlk hK _ rfl h d_D_wordOut_18
  · replace h := h.2 hc
    refine jv_aload_n B d_D_wordOut_8 rfl 0 rfl ?_
    refine fg_D_target B hts hown hK d_D_wordOut_9 ?_
    refine jv_iload_n B d_D_wordOut_12 rfl 1 rfl ?_
    refine ld_c_5 B hK h.1 d_D_wordOut_13 ?_
    replace h := h.2
    refine jv_goto (tgt := 18) B d_D_wordOut_14 (by decide) ?_
    exact jv_iret B hr rfl hlk hK _ rfl h d_D_wordOut_18
theorem c_D_wordOut {l : Launch} {D : va_G} {A : Nat → Prop} {ad : Nat → Nat} {cI cA cL : ClassId} {F : va_W} {σ : jS} {v1 : Int32} {post : Int32 → jS → Prop} (h : p_D_wordOut σ v1 post) : Met l y_D_wordOut (Cond.code y_D_wordOut b_D_wordOut 2 (some .int) :: wb) (rmk 2 0 0) (jv_Pre D jClasses (jTy cI cA cL) A (cw ad cI cA σ F) [.ref (ad 1), .int v1]) (va_Qi post (jv_End D jClasses (jTy cI cA cL) A (fun σ => cw ad cI cA σ F)) A) 0 0 A :=
  jv_ofB (by decide) (Nat.le_of_ble_eq_true rfl) (fun p e s m below meth c X => w_D_wordOut_0 X h)
set_option maxRecDepth 100000 in
theorem w_D_readsOf_0 (X : jv_C p s m args meth c b_D_readsOf 2 (some .int) y_D_readsOf wb D jClasses (jTy cI cA cL) A) {post : Int32 → jS → Prop} {σ : jS} {v1 : Int32} (h : p_D_readsOf σ v1 post) : jv_V p l e (rmk 2 0 0) s m args below meth c D jClasses A 2 0 0 (MQ below (va_Qi post (jv_End D jClasses (jTy cI cA cL) A (fun σ => cw ad cI cA σ F)) A) args s 0 0 A) (cw ad cI cA σ F) [(0, .ref (ad 1)), (1, .int v1)] 0 [] := by
  obtain ⟨B, hml, hown, hts, hK, hA, hr, hlk, hnm⟩ := id X
  unfold p_D_readsOf at h
  refine jv_aload_n B d_D_readsOf_0 rfl 0 rfl ?_
  refine jv_iload_n B d_D_readsOf_1 rfl 1 rfl ?_
  refine jv_civ (As := [.int v1]) B hml hown hts hK hA (c_D_has (ad := ad) (cI := cI) (cA := cA) (cL := cL) (F := F) h) (cwV 1 hts g_D_40 rfl rfl rfl hd_D_has ⟨Nat.le_of_ble_eq_true rfl, Nat.le_of_ble_eq_true rfl⟩) 1 1 rfl rfl rfl rfl (Nat.le_of_ble_eq_true rfl) d_D_readsOf_2 ⟨Nat.le_of_ble_eq_true rfl, Nat.le_of_ble_eq_true rfl⟩ rfl (fun r2 σ1 h => ?_)
  refine jv_if_eq (tgt := 17) B d_D_readsOf_5 (by decide) (fun hc => ?_) (fun hc => ?_)
  · replace h := h.1 hc
    refine jv_iconst (v := 0) B d_D_readsOf_17 (by decide) ?_
    exact jv_iret B hr rfl hlk hK _ rfl h d_D_readsOf_18
  · replace h := h.2 hc
    refine jv_aload_n B d_D_readsOf_8 rfl 0 rfl ?_
    refine fg_D_readCounts B hts hown hK d_D_readsOf_9 ?_
    refine jv_iload_n B d_D_readsOf_12 rfl 1 rfl ?_
    refine ld_c_4 B hK h.1 d_D_readsOf_13 ?_
    replace h := h.2
    refine jv_goto (tgt := 18) B d_D_readsOf_14 (by decide) ?_
    exact jv_iret B hr rfl hlk hK _ rfl h d_D_readsOf_18
theorem c_D_readsOf {l : Launch} {D : va_G} {A : Nat → Prop} {ad : Nat → Nat} {cI cA cL : ClassId} {F : va_W} {σ : jS} {v1 : Int32} {post : Int32 → jS → Prop} (h : p_D_readsOf σ v1 post) : Met l y_D_readsOf (Cond.code y_D_readsOf b_D_readsOf 2 (some .int) :: wb) (rmk 2 0 0) (jv_Pre D jClasses (jTy cI cA cL) A (cw ad cI cA σ F) [.ref (ad 1), .int v1]) (va_Qi post (jv_End D jClasses (jTy cI cA cL) A (fun σ => cw ad cI cA σ F)) A) 0 0 A :=
  jv_ofB (by decide) (Nat.le_of_ble_eq_true rfl) (fun p e s m below meth c X => w_D_readsOf_0 X h)
set_option maxRecDepth 100000 in
theorem w_D_stretchesRead_0 (X : jv_C p s m args meth c b_D_stretchesRead 2 (some .int) y_D_stretchesRead wb D jClasses (jTy cI cA cL) A) {post : Int32 → jS → Prop} {σ : jS} {v1 : Int32} (h : p_D_stretchesRead σ v1 post) : jv_V p l e (rmk 1 0 0) s m args below meth c D jClasses A 2 0 0 (MQ below (va_Qi post (jv_End D jClasses (jTy cI cA cL) A (fun σ => cw ad cI cA σ F)) A) args s 0 0 A) (cw ad cI cA σ F) [(0, .ref (ad 1)), (1, .int v1)] 0 [] := by
  obtain ⟨B, hml, hown, hts, hK, hA, hr, hlk, hnm⟩ := id X
  unfold p_D_stretchesRead at h
  refine jv_iload_n B d_D_stretchesRead_0 rfl 1 rfl ?_
  refine jv_if_eq (tgt := 11) B d_D_stretchesRead_1 (by decide) (fun hc => ?_) (fun hc => ?_)
  · replace h := h.1 hc
    refine jv_aload_n B d_D_stretchesRead_11 rfl 0 rfl ?_
    refine fg_D_stretches B hts hown hK d_D_stretchesRead_12 ?_
    exact jv_iret B hr rfl hlk hK _ rfl h d_D_stretchesRead_15
  · replace h := h.2 hc
    refine jv_aload_n B d_D_stretchesRead_4 rfl 0 rfl ?_
    refine fg_D_failedStretches B hts hown hK d_D_stretchesRead_5 ?_
    refine jv_goto (tgt := 15) B d_D_stretchesRead_8 (by decide) ?_
    exact jv_iret B hr rfl hlk hK _ rfl h d_D_stretchesRead_15
theorem c_D_stretchesRead {l : Launch} {D : va_G} {A : Nat → Prop} {ad : Nat → Nat} {cI cA cL : ClassId} {F : va_W} {σ : jS} {v1 : Int32} {post : Int32 → jS → Prop} (h : p_D_stretchesRead σ v1 post) : Met l y_D_stretchesRead (Cond.code y_D_stretchesRead b_D_stretchesRead 2 (some .int) :: wb) (rmk 1 0 0) (jv_Pre D jClasses (jTy cI cA cL) A (cw ad cI cA σ F) [.ref (ad 1), .int v1]) (va_Qi post (jv_End D jClasses (jTy cI cA cL) A (fun σ => cw ad cI cA σ F)) A) 0 0 A :=
  jv_ofB (by decide) (Nat.le_of_ble_eq_true rfl) (fun p e s m below meth c X => w_D_stretchesRead_0 X h)
set_option maxRecDepth 100000 in
theorem w_V_wipe_7 (X : jv_C p s m args meth c b_V_wipe 2 none y_V_wipe wb D jClasses (jTy cI cA cL) A) {post : jS → Prop} : ∀ (n : Nat), ∀ (σ : jS) (v1 : Int32), p_V_wipe_7 post n σ v1 → jv_V p l e (rmk 2 0 0) s m args below meth c D jClasses A 2 0 0 (MQ below (va_Qv post (jv_End D jClasses (jTy cI cA cL) A (fun σ => cw ad cI cA σ F)) A) args s 0 0 A) (cw ad cI cA σ F) [(0, .ref (ad 9)), (1, .int v1)] 7 [] := by
  obtain ⟨B, hml, hown, hts, hK, hA, hr, hlk, hnm⟩ := id X
  intro n
  induction n with
  | zero => intro σ v1 h; exact h.elim
  | succ n ih =>
    intro σ v1 h
    rw [p_V_wipe_7] at h
    refine jv_iload_n B d_V_wipe_7 rfl 1 rfl ?_
    refine jv_iconst (v := 2) B d_V_wipe_8 (by decide) ?_
    refine jv_icmp_ge (tgt := 28) B d_V_wipe_9 (by decide) (fun hc => ?_) (fun hc => ?_)
    · replace h := h.1 hc
      exact jv_vret B hr hlk hK _ rfl h d_V_wipe_28
    · replace h := h.2 hc
      refine jv_aload_n B d_V_wipe_12 rfl 0 rfl ?_
      refine fg_V_slots B hts hown hK d_V_wipe_13 ?_
      refine jv_iload_n B d_V_wipe_16 rfl 1 rfl ?_
      refine aa_c B hK h.1 d_V_wipe_17 (fun hc => ?_) (fun hc => ?_)
      · replace h := h.2.1 hc
        refine jv_iconst (v := 0) B d_V_wipe_18 (by decide) ?_
        refine jv_fill (ws' := cw ad cI cA (upA σ 11 140 0) F) B hml hown hts hK hA kw_298 11 rfl rfl (by decide) rfl (Nat.le_of_ble_eq_true rfl) (Nat.le_of_ble_eq_true rfl) ⟨Nat.le_of_ble_eq_true rfl, Nat.le_of_ble_eq_true rfl⟩ (Nat.le_of_ble_eq_true rfl) d_V_wipe_19 ?_
        refine jv_iinc (n9 := 1) (v := v1 + 1) (lv' := [(1, .int (v1 + 1)), (0, .ref (ad 9))]) B d_V_wipe_22 rfl rfl (by decide) rfl ?_
        refine jv_goto (tgt := 7) B d_V_wipe_25 (by decide) ?_
        refine jv_sub [1, 0] rfl ?_
        exact ih _ _ h
      · replace h := h.2.2 hc
        refine jv_iconst (v := 0) B d_V_wipe_18 (by decide) ?_
        refine jv_fill (ws' := cw ad cI cA (upA σ 12 140 0) F) B hml hown hts hK hA kw_298 12 rfl rfl (by decide) rfl (Nat.le_of_ble_eq_true rfl) (Nat.le_of_ble_eq_true rfl) ⟨Nat.le_of_ble_eq_true rfl, Nat.le_of_ble_eq_true rfl⟩ (Nat.le_of_ble_eq_true rfl) d_V_wipe_19 ?_
        refine jv_iinc (n9 := 1) (v := v1 + 1) (lv' := [(1, .int (v1 + 1)), (0, .ref (ad 9))]) B d_V_wipe_22 rfl rfl (by decide) rfl ?_
        refine jv_goto (tgt := 7) B d_V_wipe_25 (by decide) ?_
        refine jv_sub [1, 0] rfl ?_
        exact ih _ _ h
set_option maxRecDepth 100000 in
theorem w_V_wipe_0 (X : jv_C p s m args meth c b_V_wipe 2 none y_V_wipe wb D jClasses (jTy cI cA cL) A) {post : jS → Prop} {σ : jS} (h : p_V_wipe σ post) : jv_V p l e (rmk 2 0 0) s m args below meth c D jClasses A 2 0 0 (MQ below (va_Qv post (jv_End D jClasses (jTy cI cA cL) A (fun σ => cw ad cI cA σ F)) A) args s 0 0 A) (cw ad cI cA σ F) [(0, .ref (ad 9))] 0 [] := by
  obtain ⟨B, hml, hown, hts, hK, hA, hr, hlk, hnm⟩ := id X
  unfold p_V_wipe at h
  refine jv_aload_n B d_V_wipe_0 rfl 0 rfl ?_
  refine jv_iconst (v := 0) B d_V_wipe_1 (by decide) ?_
  refine fs_V_lastNumber B hts hown hK d_V_wipe_2 ?_
  refine jv_iconst (v := 0) B d_V_wipe_5 (by decide) ?_
  refine jv_istore_n (lv' := [(1, .int 0), (0, .ref (ad 9))]) B d_V_wipe_6 rfl (by decide) rfl ?_
  refine jv_sub [1, 0] rfl ?_
  obtain ⟨n9, h⟩ := h
  exact w_V_wipe_7 X n9 _ _ h
theorem c_V_wipe {l : Launch} {D : va_G} {A : Nat → Prop} {ad : Nat → Nat} {cI cA cL : ClassId} {F : va_W} {σ : jS} {post : jS → Prop} (h : p_V_wipe σ post) : Met l y_V_wipe (Cond.code y_V_wipe b_V_wipe 2 none :: wb) (rmk 2 0 0) (jv_Pre D jClasses (jTy cI cA cL) A (cw ad cI cA σ F) [.ref (ad 9)]) (va_Qv post (jv_End D jClasses (jTy cI cA cL) A (fun σ => cw ad cI cA σ F)) A) 0 0 A :=
  jv_ofB (by decide) (Nat.le_of_ble_eq_true rfl) (fun p e s m below meth c X => w_V_wipe_0 X h)
set_option maxRecDepth 100000 in
theorem w_V_has_0 (X : jv_C p s m args meth c b_V_has 3 (some .boolean) y_V_has wb D jClasses (jTy cI cA cL) A) {post : Int32 → jS → Prop} {σ : jS} {v1 v2 : Int32} (h : p_V_has σ v1 v2 post) : jv_V p l e (rmk 1 0 0) s m args below meth c D jClasses A 3 0 0 (MQ below (va_Qi post (jv_End D jClasses (jTy cI cA cL) A (fun σ => cw ad cI cA σ F)) A) args s 0 0 A) (cw ad cI cA σ F) [(0, .ref (ad 9)), (1, .int v1), (2, .int v2)] 0 [] := by
  obtain ⟨B, hml, hown, hts, hK, hA, hr, hlk, hnm⟩ := id X
  unfold p_V_has at h
  refine jv_sub [1, 2] rfl ?_
  refine jv_iload_n B d_V_has_0 rfl 0 rfl ?_
  refine jv_if_lt (tgt := 24) B d_V_has_1 (by decide) (fun hc => ?_) (fun hc => ?_)
  · replace h := h.1 hc
    refine jv_iconst (v := 0) B d_V_has_24 (by decide) ?_
    exact jv_iret B hr (nz h.1) hlk hK _ rfl h.2 d_V_has_25
  · replace h := h.2 hc
    refine jv_iload_n B d_V_has_4 rfl 0 rfl ?_
    refine jv_iconst (v := 2) B d_V_has_5 (by decide) ?_
    refine jv_icmp_ge (tgt := 24) B d_V_has_6 (by decide) (fun hc => ?_) (fun hc => ?_)
    · replace h := h.1 hc
      refine jv_iconst (v := 0) B d_V_has_24 (by decide) ?_
      exact jv_iret B hr (nz h.1) hlk hK _ rfl h.2 d_V_has_25
    · replace h := h.2 hc
      refine jv_iload_n B d_V_has_9 rfl 1 rfl ?_
      refine jv_if_lt (tgt := 24) B d_V_has_10 (by decide) (fun hc => ?_) (fun hc => ?_)
      · replace h := h.1 hc
        refine jv_iconst (v := 0) B d_V_has_24 (by decide) ?_
        exact jv_iret B hr (nz h.1) hlk hK _ rfl h.2 d_V_has_25
      · replace h := h.2 hc
        refine jv_iload_n B d_V_has_13 rfl 1 rfl ?_
        refine jv_sipush (v := 140) B d_V_has_14 (by decide) ?_
        refine jv_icmp_ge (tgt := 24) B d_V_has_17 (by decide) (fun hc => ?_) (fun hc => ?_)
        · replace h := h.1 hc
          refine jv_iconst (v := 0) B d_V_has_24 (by decide) ?_
          exact jv_iret B hr (nz h.1) hlk hK _ rfl h.2 d_V_has_25
        · replace h := h.2 hc
          refine jv_iconst (v := 1) B d_V_has_20 (by decide) ?_
          refine jv_goto (tgt := 25) B d_V_has_21 (by decide) ?_
          exact jv_iret B hr (nz h.1) hlk hK _ rfl h.2 d_V_has_25
theorem c_V_has {l : Launch} {D : va_G} {A : Nat → Prop} {ad : Nat → Nat} {cI cA cL : ClassId} {F : va_W} {σ : jS} {v1 v2 : Int32} {post : Int32 → jS → Prop} (h : p_V_has σ v1 v2 post) : Met l y_V_has (Cond.code y_V_has b_V_has 3 (some .boolean) :: wb) (rmk 1 0 0) (jv_Pre D jClasses (jTy cI cA cL) A (cw ad cI cA σ F) [.ref (ad 9), .int v1, .int v2]) (va_Qi post (jv_End D jClasses (jTy cI cA cL) A (fun σ => cw ad cI cA σ F)) A) 0 0 A :=
  jv_ofB (by decide) (Nat.le_of_ble_eq_true rfl) (fun p e s m below meth c X => w_V_has_0 X h)
set_option maxRecDepth 100000 in
theorem w_V_byteAt_0 (X : jv_C p s m args meth c b_V_byteAt 3 (some .int) y_V_byteAt wb D jClasses (jTy cI cA cL) A) {post : Int32 → jS → Prop} {σ : jS} {v1 v2 : Int32} (h : p_V_byteAt σ v1 v2 post) : jv_V p l e (rmk 2 0 0) s m args below meth c D jClasses A 3 0 0 (MQ below (va_Qi post (jv_End D jClasses (jTy cI cA cL) A (fun σ => cw ad cI cA σ F)) A) args s 0 0 A) (cw ad cI cA σ F) [(0, .ref (ad 9)), (1, .int v1), (2, .int v2)] 0 [] := by
  obtain ⟨B, hml, hown, hts, hK, hA, hr, hlk, hnm⟩ := id X
  unfold p_V_byteAt at h
  refine jv_aload_n B d_V_byteAt_0 rfl 0 rfl ?_
  refine jv_iload_n B d_V_byteAt_1 rfl 1 rfl ?_
  refine jv_iload_n B d_V_byteAt_2 rfl 2 rfl ?_
  refine jv_civ (As := [.int v1, .int v2]) B hml hown hts hK hA (c_V_has (ad := ad) (cI := cI) (cA := cA) (cL := cL) (F := F) h) (cwV 2 hts g_V_30 rfl rfl rfl hd_V_has ⟨Nat.le_of_ble_eq_true rfl, Nat.le_of_ble_eq_true rfl⟩) 9 2 rfl rfl rfl rfl (Nat.le_of_ble_eq_true rfl) d_V_byteAt_3 ⟨Nat.le_of_ble_eq_true rfl, Nat.le_of_ble_eq_true rfl⟩ rfl (fun r2 σ1 h => ?_)
  refine jv_if_eq (tgt := 20) B d_V_byteAt_6 (by decide) (fun hc => ?_) (fun hc => ?_)
  · replace h := h.1 hc
    refine jv_iconst (v := (-1)) B d_V_byteAt_20 (by decide) ?_
    exact jv_iret B hr rfl hlk hK _ rfl h d_V_byteAt_21
  · replace h := h.2 hc
    refine jv_aload_n B d_V_byteAt_9 rfl 0 rfl ?_
    refine fg_V_slots B hts hown hK d_V_byteAt_10 ?_
    refine jv_iload_n B d_V_byteAt_13 rfl 1 rfl ?_
    refine aa_c B hK h.1 d_V_byteAt_14 (fun hc => ?_) (fun hc => ?_)
    · replace h := h.2.1 hc
      refine jv_iload_n B d_V_byteAt_15 rfl 2 rfl ?_
      refine ld_c_11 B hK h.1 d_V_byteAt_16 ?_
      replace h := h.2
      refine jv_goto (tgt := 21) B d_V_byteAt_17 (by decide) ?_
      exact jv_iret B hr rfl hlk hK _ rfl h d_V_byteAt_21
    · replace h := h.2.2 hc
      refine jv_iload_n B d_V_byteAt_15 rfl 2 rfl ?_
      refine ld_c_12 B hK h.1 d_V_byteAt_16 ?_
      replace h := h.2
      refine jv_goto (tgt := 21) B d_V_byteAt_17 (by decide) ?_
      exact jv_iret B hr rfl hlk hK _ rfl h d_V_byteAt_21
theorem c_V_byteAt {l : Launch} {D : va_G} {A : Nat → Prop} {ad : Nat → Nat} {cI cA cL : ClassId} {F : va_W} {σ : jS} {v1 v2 : Int32} {post : Int32 → jS → Prop} (h : p_V_byteAt σ v1 v2 post) : Met l y_V_byteAt (Cond.code y_V_byteAt b_V_byteAt 3 (some .int) :: wb) (rmk 2 0 0) (jv_Pre D jClasses (jTy cI cA cL) A (cw ad cI cA σ F) [.ref (ad 9), .int v1, .int v2]) (va_Qi post (jv_End D jClasses (jTy cI cA cL) A (fun σ => cw ad cI cA σ F)) A) 0 0 A :=
  jv_ofB (by decide) (Nat.le_of_ble_eq_true rfl) (fun p e s m below meth c X => w_V_byteAt_0 X h)
set_option maxRecDepth 100000 in
theorem w_V_put_0 (X : jv_C p s m args meth c b_V_put 4 none y_V_put wb D jClasses (jTy cI cA cL) A) {post : jS → Prop} {σ : jS} {v1 v2 v3 : Int32} (h : p_V_put σ v1 v2 v3 post) : jv_V p l e (rmk 2 0 0) s m args below meth c D jClasses A 4 0 0 (MQ below (va_Qv post (jv_End D jClasses (jTy cI cA cL) A (fun σ => cw ad cI cA σ F)) A) args s 0 0 A) (cw ad cI cA σ F) [(0, .ref (ad 9)), (1, .int v1), (2, .int v2), (3, .int v3)] 0 [] := by
  obtain ⟨B, hml, hown, hts, hK, hA, hr, hlk, hnm⟩ := id X
  unfold p_V_put at h
  refine jv_aload_n B d_V_put_0 rfl 0 rfl ?_
  refine jv_iload_n B d_V_put_1 rfl 1 rfl ?_
  refine jv_iload_n B d_V_put_2 rfl 2 rfl ?_
  refine jv_civ (As := [.int v1, .int v2]) B hml hown hts hK hA (c_V_has (ad := ad) (cI := cI) (cA := cA) (cL := cL) (F := F) h) (cwV 2 hts g_V_30 rfl rfl rfl hd_V_has ⟨Nat.le_of_ble_eq_true rfl, Nat.le_of_ble_eq_true rfl⟩) 9 2 rfl rfl rfl rfl (Nat.le_of_ble_eq_true rfl) d_V_put_3 ⟨Nat.le_of_ble_eq_true rfl, Nat.le_of_ble_eq_true rfl⟩ rfl (fun r2 σ1 h => ?_)
  refine jv_if_eq (tgt := 18) B d_V_put_6 (by decide) (fun hc => ?_) (fun hc => ?_)
  · replace h := h.1 hc
    exact jv_vret B hr hlk hK _ rfl h d_V_put_18
  · replace h := h.2 hc
    refine jv_aload_n B d_V_put_9 rfl 0 rfl ?_
    refine fg_V_slots B hts hown hK d_V_put_10 ?_
    refine jv_iload_n B d_V_put_13 rfl 1 rfl ?_
    refine aa_c B hK h.1 d_V_put_14 (fun hc => ?_) (fun hc => ?_)
    · replace h := h.2.1 hc
      refine jv_iload_n B d_V_put_15 rfl 2 rfl ?_
      refine jv_iload_n B d_V_put_16 rfl 3 rfl ?_
      refine sd_c_11 B hK h.1 d_V_put_17 ?_
      replace h := h.2
      exact jv_vret B hr hlk hK _ rfl h d_V_put_18
    · replace h := h.2.2 hc
      refine jv_iload_n B d_V_put_15 rfl 2 rfl ?_
      refine jv_iload_n B d_V_put_16 rfl 3 rfl ?_
      refine sd_c_12 B hK h.1 d_V_put_17 ?_
      replace h := h.2
      exact jv_vret B hr hlk hK _ rfl h d_V_put_18
theorem c_V_put {l : Launch} {D : va_G} {A : Nat → Prop} {ad : Nat → Nat} {cI cA cL : ClassId} {F : va_W} {σ : jS} {v1 v2 v3 : Int32} {post : jS → Prop} (h : p_V_put σ v1 v2 v3 post) : Met l y_V_put (Cond.code y_V_put b_V_put 4 none :: wb) (rmk 2 0 0) (jv_Pre D jClasses (jTy cI cA cL) A (cw ad cI cA σ F) [.ref (ad 9), .int v1, .int v2, .int v3]) (va_Qv post (jv_End D jClasses (jTy cI cA cL) A (fun σ => cw ad cI cA σ F)) A) 0 0 A :=
  jv_ofB (by decide) (Nat.le_of_ble_eq_true rfl) (fun p e s m below meth c X => w_V_put_0 X h)
set_option maxRecDepth 100000 in
theorem w_V_behindNumber_0 (X : jv_C p s m args meth c b_V_behindNumber 2 (some .int) y_V_behindNumber wb D jClasses (jTy cI cA cL) A) {post : Int32 → jS → Prop} {σ : jS} {v1 : Int32} (h : p_V_behindNumber σ v1 post) : jv_V p l e (rmk 1 0 0) s m args below meth c D jClasses A 2 0 0 (MQ below (va_Qi post (jv_End D jClasses (jTy cI cA cL) A (fun σ => cw ad cI cA σ F)) A) args s 0 0 A) (cw ad cI cA σ F) [(0, .ref (ad 9)), (1, .int v1)] 0 [] := by
  obtain ⟨B, hml, hown, hts, hK, hA, hr, hlk, hnm⟩ := id X
  unfold p_V_behindNumber at h
  refine jv_sub [1] rfl ?_
  refine jv_iload_n B d_V_behindNumber_0 rfl 0 rfl ?_
  refine jv_iconst (v := 1) B d_V_behindNumber_1 (by decide) ?_
  refine jv_iadd B d_V_behindNumber_2 ?_
  refine jv_sipush (v := 200) B d_V_behindNumber_3 (by decide) ?_
  refine jv_irem B d_V_behindNumber_6 (by decide) ?_
  exact jv_iret B hr rfl hlk hK _ rfl h d_V_behindNumber_7
theorem c_V_behindNumber {l : Launch} {D : va_G} {A : Nat → Prop} {ad : Nat → Nat} {cI cA cL : ClassId} {F : va_W} {σ : jS} {v1 : Int32} {post : Int32 → jS → Prop} (h : p_V_behindNumber σ v1 post) : Met l y_V_behindNumber (Cond.code y_V_behindNumber b_V_behindNumber 2 (some .int) :: wb) (rmk 1 0 0) (jv_Pre D jClasses (jTy cI cA cL) A (cw ad cI cA σ F) [.ref (ad 9), .int v1]) (va_Qi post (jv_End D jClasses (jTy cI cA cL) A (fun σ => cw ad cI cA σ F)) A) 0 0 A :=
  jv_ofB (by decide) (Nat.le_of_ble_eq_true rfl) (fun p e s m below meth c X => w_V_behindNumber_0 X h)
set_option maxRecDepth 100000 in
theorem w_S_startsRun_0 (X : jv_C p s m args meth c b_S_startsRun 2 (some .boolean) y_S_startsRun wb D jClasses (jTy cI cA cL) A) {post : Int32 → jS → Prop} {σ : jS} {v1 : Int32} (h : p_S_startsRun σ v1 post) : jv_V p l e (rmk 2 0 0) s m args below meth c D jClasses A 2 0 0 (MQ below (va_Qi post (jv_End D jClasses (jTy cI cA cL) A (fun σ => cw ad cI cA σ F)) A) args s 0 0 A) (cw ad cI cA σ F) [(0, .ref (ad 6)), (1, .int v1)] 0 [] := by
  obtain ⟨B, hml, hown, hts, hK, hA, hr, hlk, hnm⟩ := id X
  unfold p_S_startsRun at h
  refine jv_iload_n B d_S_startsRun_0 rfl 1 rfl ?_
  refine jv_if_eq (tgt := 19) B d_S_startsRun_1 (by decide) (fun hc => ?_) (fun hc => ?_)
  · replace h := h.1 hc
    refine jv_iconst (v := 1) B d_S_startsRun_19 (by decide) ?_
    refine jv_goto (tgt := 24) B d_S_startsRun_20 (by decide) ?_
    exact jv_iret B hr (nz h.1) hlk hK _ rfl h.2 d_S_startsRun_24
  · replace h := h.2 hc
    refine jv_aload_n B d_S_startsRun_4 rfl 0 rfl ?_
    refine jv_iload_n B d_S_startsRun_5 rfl 1 rfl ?_
    refine jv_civ (As := [.int v1]) B hml hown hts hK hA (c_S_stateOf (ad := ad) (cI := cI) (cA := cA) (cL := cL) (F := F) h) (cwV 1 hts g_S_34 rfl rfl rfl hd_S_stateOf ⟨Nat.le_of_ble_eq_true rfl, Nat.le_of_ble_eq_true rfl⟩) 6 3 rfl rfl rfl rfl (Nat.le_of_ble_eq_true rfl) d_S_startsRun_6 ⟨Nat.le_of_ble_eq_true rfl, Nat.le_of_ble_eq_true rfl⟩ rfl (fun r2 σ1 h => ?_)
    refine jv_aload_n B d_S_startsRun_9 rfl 0 rfl ?_
    refine jv_iload_n B d_S_startsRun_10 rfl 1 rfl ?_
    refine jv_iconst (v := 1) B d_S_startsRun_11 (by decide) ?_
    refine jv_isub B d_S_startsRun_12 ?_
    refine jv_civ (As := [.int (v1 - 1)]) B hml hown hts hK hA (c_S_stateOf (ad := ad) (cI := cI) (cA := cA) (cL := cL) (F := F) h) (cwV 1 hts g_S_34 rfl rfl rfl hd_S_stateOf ⟨Nat.le_of_ble_eq_true rfl, Nat.le_of_ble_eq_true rfl⟩) 6 3 rfl rfl rfl rfl (Nat.le_of_ble_eq_true rfl) d_S_startsRun_13 ⟨Nat.le_of_ble_eq_true rfl, Nat.le_of_ble_eq_true rfl⟩ rfl (fun r4 σ3 h => ?_)
    refine jv_icmp_eq (tgt := 23) B d_S_startsRun_16 (by decide) (fun hc => ?_) (fun hc => ?_)
    · replace h := h.1 hc
      refine jv_iconst (v := 0) B d_S_startsRun_23 (by decide) ?_
      exact jv_iret B hr (nz h.1) hlk hK _ rfl h.2 d_S_startsRun_24
    · replace h := h.2 hc
      refine jv_iconst (v := 1) B d_S_startsRun_19 (by decide) ?_
      refine jv_goto (tgt := 24) B d_S_startsRun_20 (by decide) ?_
      exact jv_iret B hr (nz h.1) hlk hK _ rfl h.2 d_S_startsRun_24
theorem c_S_startsRun {l : Launch} {D : va_G} {A : Nat → Prop} {ad : Nat → Nat} {cI cA cL : ClassId} {F : va_W} {σ : jS} {v1 : Int32} {post : Int32 → jS → Prop} (h : p_S_startsRun σ v1 post) : Met l y_S_startsRun (Cond.code y_S_startsRun b_S_startsRun 2 (some .boolean) :: wb) (rmk 2 0 0) (jv_Pre D jClasses (jTy cI cA cL) A (cw ad cI cA σ F) [.ref (ad 6), .int v1]) (va_Qi post (jv_End D jClasses (jTy cI cA cL) A (fun σ => cw ad cI cA σ F)) A) 0 0 A :=
  jv_ofB (by decide) (Nat.le_of_ble_eq_true rfl) (fun p e s m below meth c X => w_S_startsRun_0 X h)
set_option maxRecDepth 100000 in
theorem w_V_placeOfRun_0 (X : jv_C p s m args meth c b_V_placeOfRun 2 (some .int) y_V_placeOfRun wb D jClasses (jTy cI cA cL) A) {post : Int32 → jS → Prop} {σ : jS} {v1 : Int32} (h : p_V_placeOfRun σ v1 post) : jv_V p l e (rmk 1 0 0) s m args below meth c D jClasses A 2 0 0 (MQ below (va_Qi post (jv_End D jClasses (jTy cI cA cL) A (fun σ => cw ad cI cA σ F)) A) args s 0 0 A) (cw ad cI cA σ F) [(0, .ref (ad 9)), (1, .int v1)] 0 [] := by
  obtain ⟨B, hml, hown, hts, hK, hA, hr, hlk, hnm⟩ := id X
  unfold p_V_placeOfRun at h
  refine jv_sub [1] rfl ?_
  refine jv_iconst (v := 2) B d_V_placeOfRun_0 (by decide) ?_
  refine jv_iconst (v := 2) B d_V_placeOfRun_1 (by decide) ?_
  refine jv_iload_n B d_V_placeOfRun_2 rfl 0 rfl ?_
  refine jv_imul B d_V_placeOfRun_3 ?_
  refine jv_iadd B d_V_placeOfRun_4 ?_
  exact jv_iret B hr rfl hlk hK _ rfl h d_V_placeOfRun_5
theorem c_V_placeOfRun {l : Launch} {D : va_G} {A : Nat → Prop} {ad : Nat → Nat} {cI cA cL : ClassId} {F : va_W} {σ : jS} {v1 : Int32} {post : Int32 → jS → Prop} (h : p_V_placeOfRun σ v1 post) : Met l y_V_placeOfRun (Cond.code y_V_placeOfRun b_V_placeOfRun 2 (some .int) :: wb) (rmk 1 0 0) (jv_Pre D jClasses (jTy cI cA cL) A (cw ad cI cA σ F) [.ref (ad 9), .int v1]) (va_Qi post (jv_End D jClasses (jTy cI cA cL) A (fun σ => cw ad cI cA σ F)) A) 0 0 A :=
  jv_ofB (by decide) (Nat.le_of_ble_eq_true rfl) (fun p e s m below meth c X => w_V_placeOfRun_0 X h)
set_option maxRecDepth 100000 in
theorem w_V_sumBefore_5 (X : jv_C p s m args meth c b_V_sumBefore 5 (some .int) y_V_sumBefore wb D jClasses (jTy cI cA cL) A) {post : Int32 → jS → Prop} {fa : Nat → Int32} {qa ga : Nat} {v2 : Int32} {σ0 : jS} (hga : (cw ad cI cA σ0 F)[qa]? = some (ga, .inl (cI, 140, .inl fa))) : ∀ (n : Nat), ∀ (σ : jS) (v3 v4 : Int32), σ = σ0 → p_V_sumBefore_5 post fa v2 n σ v3 v4 → jv_V p l e (rmk 1 0 0) s m args below meth c D jClasses A 5 0 0 (MQ below (va_Qi post (jv_End D jClasses (jTy cI cA cL) A (fun σ => cw ad cI cA σ F)) A) args s 0 0 A) (cw ad cI cA σ F) [(1, .ref ga), (2, .int v2), (3, .int v3), (4, .int v4)] 5 [] := by
  obtain ⟨B, hml, hown, hts, hK, hA, hr, hlk, hnm⟩ := id X
  intro n
  induction n with
  | zero => intro σ v3 v4 h0 h; exact h.elim
  | succ n ih =>
    intro σ v3 v4 h0 h
    subst h0
    rw [p_V_sumBefore_5] at h
    refine jv_iload B d_V_sumBefore_5 3 rfl ?_
    refine jv_iload_n B d_V_sumBefore_7 rfl 1 rfl ?_
    refine jv_icmp_ge (tgt := 36) B d_V_sumBefore_8 (by decide) (fun hc => ?_) (fun hc => ?_)
    · replace h := h.1 hc
      refine jv_iload_n B d_V_sumBefore_36 rfl 2 rfl ?_
      refine jv_sipush (v := 251) B d_V_sumBefore_37 (by decide) ?_
      refine jv_irem B d_V_sumBefore_40 (by decide) ?_
      exact jv_iret B hr rfl hlk hK _ rfl h d_V_sumBefore_41
    · replace h := h.2 hc
      refine jv_iload B d_V_sumBefore_11 3 rfl ?_
      refine jv_aload_n B d_V_sumBefore_13 rfl 0 rfl ?_
      refine jv_alen (v := 140) B hK qa 0 hga rfl rfl d_V_sumBefore_14 ?_
      refine jv_icmp_ge (tgt := 36) B d_V_sumBefore_15 (by decide) (fun hc => ?_) (fun hc => ?_)
      · replace h := h.1 hc
        refine jv_iload_n B d_V_sumBefore_36 rfl 2 rfl ?_
        refine jv_sipush (v := 251) B d_V_sumBefore_37 (by decide) ?_
        refine jv_irem B d_V_sumBefore_40 (by decide) ?_
        exact jv_iret B hr rfl hlk hK _ rfl h d_V_sumBefore_41
      · replace h := h.2 hc
        refine jv_iload_n B d_V_sumBefore_18 rfl 2 rfl ?_
        refine jv_aload_n B d_V_sumBefore_19 rfl 0 rfl ?_
        refine jv_iload B d_V_sumBefore_20 3 rfl ?_
        refine jv_iald B hK qa 0 hga rfl h.1 d_V_sumBefore_22 ?_
        replace h := h.2
        refine jv_iload B d_V_sumBefore_23 3 rfl ?_
        refine jv_iconst (v := 1) B d_V_sumBefore_25 (by decide) ?_
        refine jv_iadd B d_V_sumBefore_26 ?_
        refine jv_imul B d_V_sumBefore_27 ?_
        refine jv_iadd B d_V_sumBefore_28 ?_
        refine jv_istore_n (lv' := [(3, .int (v3 + ((fa v4.toNatClampNeg) * (v4 + 1)))), (1, .ref ga), (2, .int v2), (4, .int v4)]) B d_V_sumBefore_29 rfl (by decide) rfl ?_
        refine jv_iinc (n9 := 3) (v := v4 + 1) (lv' := [(4, .int (v4 + 1)), (3, .int (v3 + ((fa v4.toNatClampNeg) * (v4 + 1)))), (1, .ref ga), (2, .int v2)]) B d_V_sumBefore_30 rfl rfl (by decide) rfl ?_
        refine jv_goto (tgt := 5) B d_V_sumBefore_33 (by decide) ?_
        refine jv_sub [2, 3, 1, 0] rfl ?_
        exact ih _ _ _ rfl h
set_option maxRecDepth 100000 in
theorem w_V_sumBefore_0 (X : jv_C p s m args meth c b_V_sumBefore 5 (some .int) y_V_sumBefore wb D jClasses (jTy cI cA cL) A) {post : Int32 → jS → Prop} {fa : Nat → Int32} {qa ga : Nat} {σ : jS} {v2 : Int32} (hga : (cw ad cI cA σ F)[qa]? = some (ga, .inl (cI, 140, .inl fa))) (h : p_V_sumBefore fa σ v2 post) : jv_V p l e (rmk 1 0 0) s m args below meth c D jClasses A 5 0 0 (MQ below (va_Qi post (jv_End D jClasses (jTy cI cA cL) A (fun σ => cw ad cI cA σ F)) A) args s 0 0 A) (cw ad cI cA σ F) [(0, .ref (ad 9)), (1, .ref ga), (2, .int v2)] 0 [] := by
  obtain ⟨B, hml, hown, hts, hK, hA, hr, hlk, hnm⟩ := id X
  unfold p_V_sumBefore at h
  refine jv_sub [1, 2] rfl ?_
  refine jv_iconst (v := 0) B d_V_sumBefore_0 (by decide) ?_
  refine jv_istore_n (lv' := [(3, .int 0), (1, .ref ga), (2, .int v2)]) B d_V_sumBefore_1 rfl (by decide) rfl ?_
  refine jv_iconst (v := 0) B d_V_sumBefore_2 (by decide) ?_
  refine jv_istore (lv' := [(4, .int 0), (3, .int 0), (1, .ref ga), (2, .int v2)]) B d_V_sumBefore_3 (by decide) rfl ?_
  refine jv_sub [2, 3, 1, 0] rfl ?_
  obtain ⟨n9, h⟩ := h
  exact w_V_sumBefore_5 X hga n9 _ _ _ rfl h
theorem c_V_sumBefore {l : Launch} {D : va_G} {A : Nat → Prop} {ad : Nat → Nat} {cI cA cL : ClassId} {F : va_W} {σ : jS} {fa : Nat → Int32} {qa ga : Nat} (hga : (cw ad cI cA σ F)[qa]? = some (ga, .inl (cI, 140, .inl fa))) {v2 : Int32} {post : Int32 → jS → Prop} (h : p_V_sumBefore fa σ v2 post) : Met l y_V_sumBefore (Cond.code y_V_sumBefore b_V_sumBefore 5 (some .int) :: wb) (rmk 1 0 0) (jv_Pre D jClasses (jTy cI cA cL) A (cw ad cI cA σ F) [.ref (ad 9), .ref ga, .int v2]) (va_Qi post (jv_End D jClasses (jTy cI cA cL) A (fun σ => cw ad cI cA σ F)) A) 0 0 A :=
  jv_ofB (by decide) (Nat.le_of_ble_eq_true rfl) (fun p e s m below meth c X => w_V_sumBefore_0 X hga h)
set_option maxRecDepth 100000 in
theorem w_V_draw_60 (X : jv_C p s m args meth c b_V_draw 5 (some .int) y_V_draw wb D jClasses (jTy cI cA cL) A) {post : Int32 → jS → Prop} {σ : jS} {v2 v3 : Int32} {k4 : jS → Int32 → Int32 → Prop} (H4 : ∀ (σ : jS) (v2 v3 : Int32), k4 σ v2 v3 → jv_V p l e (rmk 3 0 0) s m args below meth c D jClasses A 5 0 0 (MQ below (va_Qi post (jv_End D jClasses (jTy cI cA cL) A (fun σ => cw ad cI cA σ F)) A) args s 0 0 A) (cw ad cI cA σ F) [(0, .ref (ad 9)), (1, .ref (ad 6)), (2, .int v2), (3, .int v3)] 4 []) (h : p_V_draw_60 post k4 σ v2 v3) : jv_V p l e (rmk 3 0 0) s m args below meth c D jClasses A 5 0 0 (MQ below (va_Qi post (jv_End D jClasses (jTy cI cA cL) A (fun σ => cw ad cI cA σ F)) A) args s 0 0 A) (cw ad cI cA σ F) [(0, .ref (ad 9)), (1, .ref (ad 6)), (2, .int v2), (3, .int v3)] 60 [] := by
  obtain ⟨B, hml, hown, hts, hK, hA, hr, hlk, hnm⟩ := id X
  unfold p_V_draw_60 at h
  refine jv_iinc (n9 := 3) (v := v3 + 1) (lv' := [(3, .int (v3 + 1)), (0, .ref (ad 9)), (1, .ref (ad 6)), (2, .int v2)]) B d_V_draw_60 rfl rfl (by decide) rfl ?_
  refine jv_goto (tgt := 4) B d_V_draw_63 (by decide) ?_
  refine jv_sub [1, 2, 3, 0] rfl ?_
  exact H4 _ _ _ h
set_option maxRecDepth 100000 in
theorem w_V_draw_4 (X : jv_C p s m args meth c b_V_draw 5 (some .int) y_V_draw wb D jClasses (jTy cI cA cL) A) {post : Int32 → jS → Prop} : ∀ (n : Nat), ∀ (σ : jS) (v2 v3 : Int32), p_V_draw_4 post n σ v2 v3 → jv_V p l e (rmk 3 0 0) s m args below meth c D jClasses A 5 0 0 (MQ below (va_Qi post (jv_End D jClasses (jTy cI cA cL) A (fun σ => cw ad cI cA σ F)) A) args s 0 0 A) (cw ad cI cA σ F) [(0, .ref (ad 9)), (1, .ref (ad 6)), (2, .int v2), (3, .int v3)] 4 [] := by
  obtain ⟨B, hml, hown, hts, hK, hA, hr, hlk, hnm⟩ := id X
  intro n
  induction n with
  | zero => intro σ v2 v3 h; exact h.elim
  | succ n ih =>
    intro σ v2 v3 h
    rw [p_V_draw_4] at h
    refine jv_iload_n B d_V_draw_4 rfl 3 rfl ?_
    refine jv_aload_n B d_V_draw_5 rfl 1 rfl ?_
    refine jv_civ (As := []) B hml hown hts hK hA (c_S_size (ad := ad) (cI := cI) (cA := cA) (cL := cL) (F := F) h) (cwV 0 hts g_V_52 rfl rfl rfl hd_S_size ⟨Nat.le_of_ble_eq_true rfl, Nat.le_of_ble_eq_true rfl⟩) 6 3 rfl rfl rfl rfl (Nat.le_of_ble_eq_true rfl) d_V_draw_6 ⟨Nat.le_of_ble_eq_true rfl, Nat.le_of_ble_eq_true rfl⟩ rfl (fun r2 σ1 h => ?_)
    refine jv_icmp_ge (tgt := 66) B d_V_draw_9 (by decide) (fun hc => ?_) (fun hc => ?_)
    · replace h := h.1 hc
      refine jv_aload_n B d_V_draw_66 rfl 0 rfl ?_
      refine fg_V_drawn B hts hown hK d_V_draw_67 ?_
      refine jv_iconst (v := 0) B d_V_draw_70 (by decide) ?_
      refine jv_aload_n B d_V_draw_71 rfl 0 rfl ?_
      refine fg_V_lastNumber B hts hown hK d_V_draw_72 ?_
      refine sd_c_13 B hK h.1 d_V_draw_75 ?_
      replace h := h.2
      refine jv_aload_n B d_V_draw_76 rfl 0 rfl ?_
      refine fg_V_drawn B hts hown hK d_V_draw_77 ?_
      refine jv_iconst (v := 1) B d_V_draw_80 (by decide) ?_
      refine jv_iload_n B d_V_draw_81 rfl 2 rfl ?_
      refine sd_c_13 B hK h.1 d_V_draw_82 ?_
      replace h := h.2
      refine jv_aload_n B d_V_draw_83 rfl 0 rfl ?_
      refine jv_iload_n B d_V_draw_84 rfl 2 rfl ?_
      refine jv_civ (As := [.int v2]) B hml hown hts hK hA (c_V_placeOfRun (ad := ad) (cI := cI) (cA := cA) (cL := cL) (F := F) h) (cwV 1 hts g_V_62 rfl rfl rfl hd_V_placeOfRun ⟨Nat.le_of_ble_eq_true rfl, Nat.le_of_ble_eq_true rfl⟩) 9 2 rfl rfl rfl rfl (Nat.le_of_ble_eq_true rfl) d_V_draw_85 ⟨Nat.le_of_ble_eq_true rfl, Nat.le_of_ble_eq_true rfl⟩ rfl (fun r4 σ3 h => ?_)
      refine jv_istore_n (lv' := [(3, .int r4), (0, .ref (ad 9)), (1, .ref (ad 6)), (2, .int v2)]) B d_V_draw_88 rfl (by decide) rfl ?_
      refine jv_aload_n B d_V_draw_89 rfl 1 rfl ?_
      refine fg_V_drawn B hts hown hK d_V_draw_90 ?_
      refine jv_iload_n B d_V_draw_93 rfl 0 rfl ?_
      refine jv_aload_n B d_V_draw_94 rfl 1 rfl ?_
      refine jv_aload_n B d_V_draw_95 rfl 1 rfl ?_
      refine fg_V_drawn B hts hown hK d_V_draw_96 ?_
      refine jv_iload_n B d_V_draw_99 rfl 0 rfl ?_
      refine jv_civ (As := [.ref (ad 13), .int r4]) B hml hown hts hK hA (c_V_sumBefore (qa := 13) (hga := rfl) (ad := ad) (cI := cI) (cA := cA) (cL := cL) (F := F) h) (cwV 2 hts g_V_71 rfl rfl rfl hd_V_sumBefore ⟨Nat.le_of_ble_eq_true rfl, Nat.le_of_ble_eq_true rfl⟩) 9 2 rfl rfl rfl rfl (Nat.le_of_ble_eq_true rfl) d_V_draw_100 ⟨Nat.le_of_ble_eq_true rfl, Nat.le_of_ble_eq_true rfl⟩ rfl (fun r6 σ5 h => ?_)
      refine sd_c_13 B hK h.1 d_V_draw_103 ?_
      replace h := h.2
      refine jv_iload_n B d_V_draw_104 rfl 0 rfl ?_
      refine jv_iconst (v := 1) B d_V_draw_105 (by decide) ?_
      refine jv_iadd B d_V_draw_106 ?_
      exact jv_iret B hr rfl hlk hK _ rfl h d_V_draw_107
    · replace h := h.2 hc
      refine jv_aload_n B d_V_draw_12 rfl 1 rfl ?_
      refine jv_iload_n B d_V_draw_13 rfl 3 rfl ?_
      refine jv_civ (As := [.int v3]) B hml hown hts hK hA (c_S_startsRun (ad := ad) (cI := cI) (cA := cA) (cL := cL) (F := F) h) (cwV 1 hts g_V_58 rfl rfl rfl hd_S_startsRun ⟨Nat.le_of_ble_eq_true rfl, Nat.le_of_ble_eq_true rfl⟩) 6 3 rfl rfl rfl rfl (Nat.le_of_ble_eq_true rfl) d_V_draw_14 ⟨Nat.le_of_ble_eq_true rfl, Nat.le_of_ble_eq_true rfl⟩ rfl (fun r8 σ7 h => ?_)
      refine jv_if_eq (tgt := 60) B d_V_draw_17 (by decide) (fun hc => ?_) (fun hc => ?_)
      · replace h := h.1 hc
        exact w_V_draw_60 X ih h
      · replace h := h.2 hc
        refine jv_aload_n B d_V_draw_20 rfl 0 rfl ?_
        refine jv_iload_n B d_V_draw_21 rfl 2 rfl ?_
        refine jv_civ (As := [.int v2]) B hml hown hts hK hA (c_V_placeOfRun (ad := ad) (cI := cI) (cA := cA) (cL := cL) (F := F) h) (cwV 1 hts g_V_62 rfl rfl rfl hd_V_placeOfRun ⟨Nat.le_of_ble_eq_true rfl, Nat.le_of_ble_eq_true rfl⟩) 9 2 rfl rfl rfl rfl (Nat.le_of_ble_eq_true rfl) d_V_draw_22 ⟨Nat.le_of_ble_eq_true rfl, Nat.le_of_ble_eq_true rfl⟩ rfl (fun r10 σ9 h => ?_)
        refine jv_istore (lv' := [(4, .int r10), (0, .ref (ad 9)), (1, .ref (ad 6)), (2, .int v2), (3, .int v3)]) B d_V_draw_25 (by decide) rfl ?_
        refine jv_aload_n B d_V_draw_27 rfl 1 rfl ?_
        refine fg_V_drawn B hts hown hK d_V_draw_28 ?_
        refine jv_iload B d_V_draw_31 0 rfl ?_
        refine jv_aload_n B d_V_draw_33 rfl 2 rfl ?_
        refine jv_iload_n B d_V_draw_34 rfl 4 rfl ?_
        refine jv_bipush (v := 64) B d_V_draw_35 (by decide) ?_
        refine jv_civ (As := [.int v3, .int 64]) B hml hown hts hK hA (c_S_behindStretch (ad := ad) (cI := cI) (cA := cA) (cL := cL) (F := F) h) (cwV 2 hts g_V_65 rfl rfl rfl hd_S_behindStretch ⟨Nat.le_of_ble_eq_true rfl, Nat.le_of_ble_eq_true rfl⟩) 6 3 rfl rfl rfl rfl (Nat.le_of_ble_eq_true rfl) d_V_draw_37 ⟨Nat.le_of_ble_eq_true rfl, Nat.le_of_ble_eq_true rfl⟩ rfl (fun r12 σ11 h => ?_)
        refine jv_iload_n B d_V_draw_40 rfl 4 rfl ?_
        refine jv_isub B d_V_draw_41 ?_
        refine sd_c_13 B hK h.1 d_V_draw_42 ?_
        replace h := h.2
        refine jv_aload_n B d_V_draw_43 rfl 1 rfl ?_
        refine fg_V_drawn B hts hown hK d_V_draw_44 ?_
        refine jv_iload B d_V_draw_47 0 rfl ?_
        refine jv_iconst (v := 1) B d_V_draw_49 (by decide) ?_
        refine jv_iadd B d_V_draw_50 ?_
        refine jv_aload_n B d_V_draw_51 rfl 2 rfl ?_
        refine jv_iload_n B d_V_draw_52 rfl 4 rfl ?_
        refine jv_civ (As := [.int v3]) B hml hown hts hK hA (c_S_stateOf (ad := ad) (cI := cI) (cA := cA) (cL := cL) (F := F) h) (cwV 1 hts g_V_68 rfl rfl rfl hd_S_stateOf ⟨Nat.le_of_ble_eq_true rfl, Nat.le_of_ble_eq_true rfl⟩) 6 3 rfl rfl rfl rfl (Nat.le_of_ble_eq_true rfl) d_V_draw_53 ⟨Nat.le_of_ble_eq_true rfl, Nat.le_of_ble_eq_true rfl⟩ rfl (fun r14 σ13 h => ?_)
        refine sd_c_13 B hK h.1 d_V_draw_56 ?_
        replace h := h.2
        refine jv_iinc (n9 := 3) (v := v2 + 1) (lv' := [(2, .int (v2 + 1)), (4, .int r10), (0, .ref (ad 9)), (1, .ref (ad 6)), (3, .int v3)]) B d_V_draw_57 rfl rfl (by decide) rfl ?_
        refine jv_sub [2, 3, 0, 4] rfl ?_
        exact w_V_draw_60 X ih h
set_option maxRecDepth 100000 in
theorem w_V_draw_0 (X : jv_C p s m args meth c b_V_draw 5 (some .int) y_V_draw wb D jClasses (jTy cI cA cL) A) {post : Int32 → jS → Prop} {σ : jS} (h : p_V_draw σ post) : jv_V p l e (rmk 3 0 0) s m args below meth c D jClasses A 5 0 0 (MQ below (va_Qi post (jv_End D jClasses (jTy cI cA cL) A (fun σ => cw ad cI cA σ F)) A) args s 0 0 A) (cw ad cI cA σ F) [(0, .ref (ad 9)), (1, .ref (ad 6))] 0 [] := by
  obtain ⟨B, hml, hown, hts, hK, hA, hr, hlk, hnm⟩ := id X
  unfold p_V_draw at h
  refine jv_iconst (v := 0) B d_V_draw_0 (by decide) ?_
  refine jv_istore_n (lv' := [(2, .int 0), (0, .ref (ad 9)), (1, .ref (ad 6))]) B d_V_draw_1 rfl (by decide) rfl ?_
  refine jv_iconst (v := 0) B d_V_draw_2 (by decide) ?_
  refine jv_istore_n (lv' := [(3, .int 0), (2, .int 0), (0, .ref (ad 9)), (1, .ref (ad 6))]) B d_V_draw_3 rfl (by decide) rfl ?_
  refine jv_sub [2, 3, 1, 0] rfl ?_
  obtain ⟨n9, h⟩ := h
  exact w_V_draw_4 X n9 _ _ _ h
theorem c_V_draw {l : Launch} {D : va_G} {A : Nat → Prop} {ad : Nat → Nat} {cI cA cL : ClassId} {F : va_W} {σ : jS} {post : Int32 → jS → Prop} (h : p_V_draw σ post) : Met l y_V_draw (Cond.code y_V_draw b_V_draw 5 (some .int) :: wb) (rmk 3 0 0) (jv_Pre D jClasses (jTy cI cA cL) A (cw ad cI cA σ F) [.ref (ad 9), .ref (ad 6)]) (va_Qi post (jv_End D jClasses (jTy cI cA cL) A (fun σ => cw ad cI cA σ F)) A) 0 0 A :=
  jv_ofB (by decide) (Nat.le_of_ble_eq_true rfl) (fun p e s m below meth c X => w_V_draw_0 X h)
end JM
end
section
section JM
variable {p : Program} {l : Launch} {e : Env} {s : State} {m : MethodId} {args : Array Value} {below : List Frame} {meth : Method} {c : Code} {D : va_G} {A : Nat → Prop} {ad : Nat → Nat} {cI cA cL : ClassId} {F : va_W}
set_option maxRecDepth 100000 in
theorem w_V_write_25 (X : jv_C p s m args meth c b_V_write 5 (some .int) y_V_write wb D jClasses (jTy cI cA cL) A) {post : Int32 → jS → Prop} {v2 : Int32} : ∀ (n : Nat), ∀ (σ : jS) (v3 v4 : Int32), p_V_write_25 post v2 n σ v3 v4 → jv_V p l e (rmk 4 0 0) s m args below meth c D jClasses A 5 0 0 (MQ below (va_Qi post (jv_End D jClasses (jTy cI cA cL) A (fun σ => cw ad cI cA σ F)) A) args s 0 0 A) (cw ad cI cA σ F) [(0, .ref (ad 9)), (3, .int v3), (4, .int v4)] 25 [] := by
  obtain ⟨B, hml, hown, hts, hK, hA, hr, hlk, hnm⟩ := id X
  intro n
  induction n with
  | zero => intro σ v3 v4 h; exact h.elim
  | succ n ih =>
    intro σ v3 v4 h
    rw [p_V_write_25] at h
    refine jv_iload B d_V_write_25 2 rfl ?_
    refine jv_iload_n B d_V_write_27 rfl 1 rfl ?_
    refine jv_icmp_ge (tgt := 56) B d_V_write_28 (by decide) (fun hc => ?_) (fun hc => ?_)
    · replace h := h.1 hc
      refine jv_aload_n B d_V_write_56 rfl 0 rfl ?_
      refine fg_V_lastNumber B hts hown hK d_V_write_57 ?_
      exact jv_iret B hr rfl hlk hK _ rfl h d_V_write_60
    · replace h := h.2 hc
      refine jv_aload_n B d_V_write_31 rfl 0 rfl ?_
      refine jv_aload_n B d_V_write_32 rfl 0 rfl ?_
      refine fg_V_lastNumber B hts hown hK d_V_write_33 ?_
      refine jv_iconst (v := 2) B d_V_write_36 (by decide) ?_
      refine jv_irem B d_V_write_37 (by decide) ?_
      refine jv_iload B d_V_write_38 2 rfl ?_
      refine jv_aload_n B d_V_write_40 rfl 0 rfl ?_
      refine fg_V_drawn B hts hown hK d_V_write_41 ?_
      refine jv_iload B d_V_write_44 2 rfl ?_
      refine ld_c_13 B hK h.1 d_V_write_46 ?_
      replace h := h.2
      refine jv_cvv (As := [.int ((σ 9 2) - (σ 9 2) / 2 * 2), .int v4, .int (σ 13 v4.toNatClampNeg)]) B hml hown hts hK hA (c_V_put (ad := ad) (cI := cI) (cA := cA) (cL := cL) (F := F) h) (cwV 3 hts g_V_48 rfl rfl rfl hd_V_put ⟨Nat.le_of_ble_eq_true rfl, Nat.le_of_ble_eq_true rfl⟩) 9 2 rfl rfl rfl rfl (Nat.le_of_ble_eq_true rfl) d_V_write_47 ⟨Nat.le_of_ble_eq_true rfl, Nat.le_of_ble_eq_true rfl⟩ rfl (fun σ5 h => ?_)
      refine jv_iinc (n9 := 2) (v := v4 + 1) (lv' := [(4, .int (v4 + 1)), (0, .ref (ad 9)), (3, .int v3)]) B d_V_write_50 rfl rfl (by decide) rfl ?_
      refine jv_goto (tgt := 25) B d_V_write_53 (by decide) ?_
      refine jv_sub [1, 2, 0] rfl ?_
      exact ih _ _ _ h
set_option maxRecDepth 100000 in
theorem w_V_write_0 (X : jv_C p s m args meth c b_V_write 5 (some .int) y_V_write wb D jClasses (jTy cI cA cL) A) {post : Int32 → jS → Prop} {σ : jS} {v2 : Int32} (h : p_V_write σ v2 post) : jv_V p l e (rmk 4 0 0) s m args below meth c D jClasses A 5 0 0 (MQ below (va_Qi post (jv_End D jClasses (jTy cI cA cL) A (fun σ => cw ad cI cA σ F)) A) args s 0 0 A) (cw ad cI cA σ F) [(0, .ref (ad 9)), (1, .ref (ad 6)), (2, .int v2)] 0 [] := by
  obtain ⟨B, hml, hown, hts, hK, hA, hr, hlk, hnm⟩ := id X
  unfold p_V_write at h
  refine jv_aload_n B d_V_write_0 rfl 0 rfl ?_
  refine jv_aload_n B d_V_write_1 rfl 0 rfl ?_
  refine jv_aload_n B d_V_write_2 rfl 0 rfl ?_
  refine fg_V_lastNumber B hts hown hK d_V_write_3 ?_
  refine jv_civ (As := [.int (σ 9 2)]) B hml hown hts hK hA (c_V_behindNumber (ad := ad) (cI := cI) (cA := cA) (cL := cL) (F := F) h) (cwV 1 hts g_V_34 rfl rfl rfl hd_V_behindNumber ⟨Nat.le_of_ble_eq_true rfl, Nat.le_of_ble_eq_true rfl⟩) 9 2 rfl rfl rfl rfl (Nat.le_of_ble_eq_true rfl) d_V_write_6 ⟨Nat.le_of_ble_eq_true rfl, Nat.le_of_ble_eq_true rfl⟩ rfl (fun r2 σ1 h => ?_)
  refine fs_V_lastNumber B hts hown hK d_V_write_9 ?_
  refine jv_iload_n B d_V_write_12 rfl 2 rfl ?_
  refine jv_aload_n B d_V_write_13 rfl 0 rfl ?_
  refine jv_aload_n B d_V_write_14 rfl 1 rfl ?_
  refine jv_civ (As := [.ref (ad 6)]) B hml hown hts hK hA (c_V_draw (ad := ad) (cI := cI) (cA := cA) (cL := cL) (F := F) h) (cwV 1 hts g_V_38 rfl rfl rfl hd_V_draw ⟨Nat.le_of_ble_eq_true rfl, Nat.le_of_ble_eq_true rfl⟩) 9 2 rfl rfl rfl rfl (Nat.le_of_ble_eq_true rfl) d_V_write_15 ⟨Nat.le_of_ble_eq_true rfl, Nat.le_of_ble_eq_true rfl⟩ rfl (fun r4 σ3 h => ?_)
  refine jv_mmin B hml hown hts (hts _ kw_489) (Nat.le_of_ble_eq_true rfl) (Nat.le_of_ble_eq_true rfl) (Nat.le_of_ble_eq_true rfl) (Nat.le_of_ble_eq_true rfl) d_V_write_18 ?_
  refine jv_istore_n (lv' := [(3, .int (if r4 < v2 then r4 else v2)), (0, .ref (ad 9)), (1, .ref (ad 6)), (2, .int v2)]) B d_V_write_21 rfl (by decide) rfl ?_
  refine jv_iconst (v := 0) B d_V_write_22 (by decide) ?_
  refine jv_istore (lv' := [(4, .int 0), (3, .int (if r4 < v2 then r4 else v2)), (0, .ref (ad 9)), (1, .ref (ad 6)), (2, .int v2)]) B d_V_write_23 (by decide) rfl ?_
  refine jv_sub [2, 1, 0] rfl ?_
  obtain ⟨n9, h⟩ := h
  exact w_V_write_25 X n9 _ _ _ h
theorem c_V_write {l : Launch} {D : va_G} {A : Nat → Prop} {ad : Nat → Nat} {cI cA cL : ClassId} {F : va_W} {σ : jS} {v2 : Int32} {post : Int32 → jS → Prop} (h : p_V_write σ v2 post) : Met l y_V_write (Cond.code y_V_write b_V_write 5 (some .int) :: wb) (rmk 4 0 0) (jv_Pre D jClasses (jTy cI cA cL) A (cw ad cI cA σ F) [.ref (ad 9), .ref (ad 6), .int v2]) (va_Qi post (jv_End D jClasses (jTy cI cA cL) A (fun σ => cw ad cI cA σ F)) A) 0 0 A :=
  jv_ofB (by decide) (Nat.le_of_ble_eq_true rfl) (fun p e s m below meth c X => w_V_write_0 X h)
set_option maxRecDepth 100000 in
theorem w_V_hasRuns_9 (X : jv_C p s m args meth c b_V_hasRuns 9 (some .boolean) y_V_hasRuns wb D jClasses (jTy cI cA cL) A) {post : Int32 → jS → Prop} {v1 v2 v3 : Int32} : ∀ (n : Nat), ∀ (σ : jS) (v4 v5 v6 : Int32), p_V_hasRuns_9 post v1 v2 v3 n σ v4 v5 v6 → jv_V p l e (rmk 3 0 0) s m args below meth c D jClasses A 9 0 0 (MQ below (va_Qi post (jv_End D jClasses (jTy cI cA cL) A (fun σ => cw ad cI cA σ F)) A) args s 0 0 A) (cw ad cI cA σ F) [(0, .ref (ad 9)), (1, .int v1), (2, .int v2), (3, .int v3), (4, .int v4), (5, .int v5), (6, .int v6)] 9 [] := by
  obtain ⟨B, hml, hown, hts, hK, hA, hr, hlk, hnm⟩ := id X
  intro n
  induction n with
  | zero => intro σ v4 v5 v6 h; exact h.elim
  | succ n ih =>
    intro σ v4 v5 v6 h
    rw [p_V_hasRuns_9] at h
    refine jv_iload B d_V_hasRuns_9 6 rfl ?_
    refine jv_iload_n B d_V_hasRuns_11 rfl 2 rfl ?_
    refine jv_icmp_ge (tgt := 80) B d_V_hasRuns_12 (by decide) (fun hc => ?_) (fun hc => ?_)
    · replace h := h.1 hc
      refine jv_iload B d_V_hasRuns_80 4 rfl ?_
      refine jv_iload_n B d_V_hasRuns_82 rfl 3 rfl ?_
      refine jv_icmp_ne (tgt := 90) B d_V_hasRuns_83 (by decide) (fun hc => ?_) (fun hc => ?_)
      · replace h := h.1 hc
        refine jv_iconst (v := 0) B d_V_hasRuns_90 (by decide) ?_
        exact jv_iret B hr (nz h.1) hlk hK _ rfl h.2 d_V_hasRuns_91
      · replace h := h.2 hc
        refine jv_iconst (v := 1) B d_V_hasRuns_86 (by decide) ?_
        refine jv_goto (tgt := 91) B d_V_hasRuns_87 (by decide) ?_
        exact jv_iret B hr (nz h.1) hlk hK _ rfl h.2 d_V_hasRuns_91
    · replace h := h.2 hc
      refine jv_aload_n B d_V_hasRuns_15 rfl 0 rfl ?_
      refine jv_iload_n B d_V_hasRuns_16 rfl 1 rfl ?_
      refine jv_aload_n B d_V_hasRuns_17 rfl 0 rfl ?_
      refine jv_iload B d_V_hasRuns_18 6 rfl ?_
      refine jv_civ (As := [.int v6]) B hml hown hts hK hA (c_V_placeOfRun (ad := ad) (cI := cI) (cA := cA) (cL := cL) (F := F) h) (cwV 1 hts g_V_62 rfl rfl rfl hd_V_placeOfRun ⟨Nat.le_of_ble_eq_true rfl, Nat.le_of_ble_eq_true rfl⟩) 9 2 rfl rfl rfl rfl (Nat.le_of_ble_eq_true rfl) d_V_hasRuns_20 ⟨Nat.le_of_ble_eq_true rfl, Nat.le_of_ble_eq_true rfl⟩ rfl (fun r2 σ1 h => ?_)
      refine jv_civ (As := [.int v1, .int r2]) B hml hown hts hK hA (c_V_byteAt (ad := ad) (cI := cI) (cA := cA) (cL := cL) (F := F) h) (cwV 2 hts g_V_78 rfl rfl rfl hd_V_byteAt ⟨Nat.le_of_ble_eq_true rfl, Nat.le_of_ble_eq_true rfl⟩) 9 2 rfl rfl rfl rfl (Nat.le_of_ble_eq_true rfl) d_V_hasRuns_23 ⟨Nat.le_of_ble_eq_true rfl, Nat.le_of_ble_eq_true rfl⟩ rfl (fun r4 σ3 h => ?_)
      refine jv_istore (lv' := [(7, .int r4), (0, .ref (ad 9)), (1, .int v1), (2, .int v2), (3, .int v3), (4, .int v4), (5, .int v5), (6, .int v6)]) B d_V_hasRuns_26 (by decide) rfl ?_
      refine jv_aload_n B d_V_hasRuns_28 rfl 1 rfl ?_
      refine jv_iload_n B d_V_hasRuns_29 rfl 2 rfl ?_
      refine jv_aload_n B d_V_hasRuns_30 rfl 1 rfl ?_
      refine jv_iload B d_V_hasRuns_31 7 rfl ?_
      refine jv_civ (As := [.int v6]) B hml hown hts hK hA (c_V_placeOfRun (ad := ad) (cI := cI) (cA := cA) (cL := cL) (F := F) h) (cwV 1 hts g_V_62 rfl rfl rfl hd_V_placeOfRun ⟨Nat.le_of_ble_eq_true rfl, Nat.le_of_ble_eq_true rfl⟩) 9 2 rfl rfl rfl rfl (Nat.le_of_ble_eq_true rfl) d_V_hasRuns_33 ⟨Nat.le_of_ble_eq_true rfl, Nat.le_of_ble_eq_true rfl⟩ rfl (fun r6 σ5 h => ?_)
      refine jv_iconst (v := 1) B d_V_hasRuns_36 (by decide) ?_
      refine jv_iadd B d_V_hasRuns_37 ?_
      refine jv_civ (As := [.int v1, .int (r6 + 1)]) B hml hown hts hK hA (c_V_byteAt (ad := ad) (cI := cI) (cA := cA) (cL := cL) (F := F) h) (cwV 2 hts g_V_78 rfl rfl rfl hd_V_byteAt ⟨Nat.le_of_ble_eq_true rfl, Nat.le_of_ble_eq_true rfl⟩) 9 2 rfl rfl rfl rfl (Nat.le_of_ble_eq_true rfl) d_V_hasRuns_38 ⟨Nat.le_of_ble_eq_true rfl, Nat.le_of_ble_eq_true rfl⟩ rfl (fun r8 σ7 h => ?_)
      refine jv_istore (lv' := [(8, .int r8), (7, .int r4), (0, .ref (ad 9)), (1, .int v1), (2, .int v2), (3, .int v3), (4, .int v4), (5, .int v5), (6, .int v6)]) B d_V_hasRuns_41 (by decide) rfl ?_
      refine jv_iload B d_V_hasRuns_43 1 rfl ?_
      refine jv_if_eq (tgt := 61) B d_V_hasRuns_45 (by decide) (fun hc => ?_) (fun hc => ?_)
      · replace h := h.1 hc
        refine jv_iconst (v := 0) B d_V_hasRuns_61 (by decide) ?_
        exact jv_iret B hr (nz h.1) hlk hK _ rfl h.2 d_V_hasRuns_62
      · replace h := h.2 hc
        refine jv_iload B d_V_hasRuns_48 0 rfl ?_
        refine jv_iconst (v := 4) B d_V_hasRuns_50 (by decide) ?_
        refine jv_icmp_gt (tgt := 61) B d_V_hasRuns_51 (by decide) (fun hc => ?_) (fun hc => ?_)
        · replace h := h.1 hc
          refine jv_iconst (v := 0) B d_V_hasRuns_61 (by decide) ?_
          exact jv_iret B hr (nz h.1) hlk hK _ rfl h.2 d_V_hasRuns_62
        · replace h := h.2 hc
          refine jv_iload B d_V_hasRuns_54 0 rfl ?_
          refine jv_iload B d_V_hasRuns_56 7 rfl ?_
          refine jv_icmp_ne (tgt := 63) B d_V_hasRuns_58 (by decide) (fun hc => ?_) (fun hc => ?_)
          · replace h := h.1 hc
            refine jv_iload B d_V_hasRuns_63 6 rfl ?_
            refine jv_iload B d_V_hasRuns_65 1 rfl ?_
            refine jv_iadd B d_V_hasRuns_67 ?_
            refine jv_istore (lv' := [(4, .int (v4 + r4)), (8, .int r8), (7, .int r4), (0, .ref (ad 9)), (1, .int v1), (2, .int v2), (3, .int v3), (5, .int v5), (6, .int v6)]) B d_V_hasRuns_68 (by decide) rfl ?_
            refine jv_iload B d_V_hasRuns_70 1 rfl ?_
            refine jv_istore (lv' := [(5, .int r8), (4, .int (v4 + r4)), (8, .int r8), (7, .int r4), (0, .ref (ad 9)), (1, .int v1), (2, .int v2), (3, .int v3), (6, .int v6)]) B d_V_hasRuns_72 (by decide) rfl ?_
            refine jv_iinc (n9 := 8) (v := v6 + 1) (lv' := [(6, .int (v6 + 1)), (5, .int r8), (4, .int (v4 + r4)), (8, .int r8), (7, .int r4), (0, .ref (ad 9)), (1, .int v1), (2, .int v2), (3, .int v3)]) B d_V_hasRuns_74 rfl rfl (by decide) rfl ?_
            refine jv_goto (tgt := 9) B d_V_hasRuns_77 (by decide) ?_
            refine jv_sub [5, 6, 7, 8, 2, 1, 0] rfl ?_
            exact ih _ _ _ _ h
          · replace h := h.2 hc
            refine jv_iconst (v := 0) B d_V_hasRuns_61 (by decide) ?_
            exact jv_iret B hr (nz h.1) hlk hK _ rfl h.2 d_V_hasRuns_62
set_option maxRecDepth 100000 in
theorem w_V_hasRuns_0 (X : jv_C p s m args meth c b_V_hasRuns 9 (some .boolean) y_V_hasRuns wb D jClasses (jTy cI cA cL) A) {post : Int32 → jS → Prop} {σ : jS} {v1 v2 v3 : Int32} (h : p_V_hasRuns σ v1 v2 v3 post) : jv_V p l e (rmk 3 0 0) s m args below meth c D jClasses A 9 0 0 (MQ below (va_Qi post (jv_End D jClasses (jTy cI cA cL) A (fun σ => cw ad cI cA σ F)) A) args s 0 0 A) (cw ad cI cA σ F) [(0, .ref (ad 9)), (1, .int v1), (2, .int v2), (3, .int v3)] 0 [] := by
  obtain ⟨B, hml, hown, hts, hK, hA, hr, hlk, hnm⟩ := id X
  unfold p_V_hasRuns at h
  refine jv_iconst (v := 0) B d_V_hasRuns_0 (by decide) ?_
  refine jv_istore (lv' := [(4, .int 0), (0, .ref (ad 9)), (1, .int v1), (2, .int v2), (3, .int v3)]) B d_V_hasRuns_1 (by decide) rfl ?_
  refine jv_iconst (v := (-1)) B d_V_hasRuns_3 (by decide) ?_
  refine jv_istore (lv' := [(5, .int (-1)), (4, .int 0), (0, .ref (ad 9)), (1, .int v1), (2, .int v2), (3, .int v3)]) B d_V_hasRuns_4 (by decide) rfl ?_
  refine jv_iconst (v := 0) B d_V_hasRuns_6 (by decide) ?_
  refine jv_istore (lv' := [(6, .int 0), (5, .int (-1)), (4, .int 0), (0, .ref (ad 9)), (1, .int v1), (2, .int v2), (3, .int v3)]) B d_V_hasRuns_7 (by decide) rfl ?_
  refine jv_sub [3, 4, 5, 6, 2, 1, 0] rfl ?_
  obtain ⟨n9, h⟩ := h
  exact w_V_hasRuns_9 X n9 _ _ _ _ h
theorem c_V_hasRuns {l : Launch} {D : va_G} {A : Nat → Prop} {ad : Nat → Nat} {cI cA cL : ClassId} {F : va_W} {σ : jS} {v1 v2 v3 : Int32} {post : Int32 → jS → Prop} (h : p_V_hasRuns σ v1 v2 v3 post) : Met l y_V_hasRuns (Cond.code y_V_hasRuns b_V_hasRuns 9 (some .boolean) :: wb) (rmk 3 0 0) (jv_Pre D jClasses (jTy cI cA cL) A (cw ad cI cA σ F) [.ref (ad 9), .int v1, .int v2, .int v3]) (va_Qi post (jv_End D jClasses (jTy cI cA cL) A (fun σ => cw ad cI cA σ F)) A) 0 0 A :=
  jv_ofB (by decide) (Nat.le_of_ble_eq_true rfl) (fun p e s m below meth c X => w_V_hasRuns_0 X h)
set_option maxRecDepth 100000 in
theorem w_V_isWhole_0 (X : jv_C p s m args meth c b_V_isWhole 5 (some .boolean) y_V_isWhole wb D jClasses (jTy cI cA cL) A) {post : Int32 → jS → Prop} {σ : jS} {v1 v2 : Int32} (h : p_V_isWhole σ v1 v2 post) : jv_V p l e (rmk 4 0 0) s m args below meth c D jClasses A 5 0 0 (MQ below (va_Qi post (jv_End D jClasses (jTy cI cA cL) A (fun σ => cw ad cI cA σ F)) A) args s 0 0 A) (cw ad cI cA σ F) [(0, .ref (ad 9)), (1, .int v1), (2, .int v2)] 0 [] := by
  obtain ⟨B, hml, hown, hts, hK, hA, hr, hlk, hnm⟩ := id X
  unfold p_V_isWhole at h
  refine jv_aload_n B d_V_isWhole_0 rfl 0 rfl ?_
  refine jv_iload_n B d_V_isWhole_1 rfl 1 rfl ?_
  refine jv_iconst (v := 1) B d_V_isWhole_2 (by decide) ?_
  refine jv_civ (As := [.int v1, .int 1]) B hml hown hts hK hA (c_V_byteAt (ad := ad) (cI := cI) (cA := cA) (cL := cL) (F := F) h) (cwV 2 hts g_V_78 rfl rfl rfl hd_V_byteAt ⟨Nat.le_of_ble_eq_true rfl, Nat.le_of_ble_eq_true rfl⟩) 9 2 rfl rfl rfl rfl (Nat.le_of_ble_eq_true rfl) d_V_isWhole_3 ⟨Nat.le_of_ble_eq_true rfl, Nat.le_of_ble_eq_true rfl⟩ rfl (fun r2 σ1 h => ?_)
  refine jv_istore_n (lv' := [(3, .int r2), (0, .ref (ad 9)), (1, .int v1), (2, .int v2)]) B d_V_isWhole_6 rfl (by decide) rfl ?_
  refine jv_aload_n B d_V_isWhole_7 rfl 1 rfl ?_
  refine jv_iload_n B d_V_isWhole_8 rfl 2 rfl ?_
  refine jv_iconst (v := 0) B d_V_isWhole_9 (by decide) ?_
  refine jv_civ (As := [.int v1, .int 0]) B hml hown hts hK hA (c_V_byteAt (ad := ad) (cI := cI) (cA := cA) (cL := cL) (F := F) h) (cwV 2 hts g_V_78 rfl rfl rfl hd_V_byteAt ⟨Nat.le_of_ble_eq_true rfl, Nat.le_of_ble_eq_true rfl⟩) 9 2 rfl rfl rfl rfl (Nat.le_of_ble_eq_true rfl) d_V_isWhole_10 ⟨Nat.le_of_ble_eq_true rfl, Nat.le_of_ble_eq_true rfl⟩ rfl (fun r4 σ3 h => ?_)
  refine jv_sipush (v := 200) B d_V_isWhole_13 (by decide) ?_
  refine jv_icmp_ge (tgt := 24) B d_V_isWhole_16 (by decide) (fun hc => ?_) (fun hc => ?_)
  · replace h := h.1 hc
    refine jv_iconst (v := 0) B d_V_isWhole_24 (by decide) ?_
    exact jv_iret B hr (nz h.1) hlk hK _ rfl h.2 d_V_isWhole_25
  · replace h := h.2 hc
    refine jv_iload_n B d_V_isWhole_19 rfl 0 rfl ?_
    refine jv_iload_n B d_V_isWhole_20 rfl 3 rfl ?_
    refine jv_icmp_le (tgt := 26) B d_V_isWhole_21 (by decide) (fun hc => ?_) (fun hc => ?_)
    · replace h := h.1 hc
      refine jv_aload_n B d_V_isWhole_26 rfl 1 rfl ?_
      refine jv_iload_n B d_V_isWhole_27 rfl 0 rfl ?_
      refine jv_civ (As := [.int r2]) B hml hown hts hK hA (c_V_placeOfRun (ad := ad) (cI := cI) (cA := cA) (cL := cL) (F := F) h) (cwV 1 hts g_V_62 rfl rfl rfl hd_V_placeOfRun ⟨Nat.le_of_ble_eq_true rfl, Nat.le_of_ble_eq_true rfl⟩) 9 2 rfl rfl rfl rfl (Nat.le_of_ble_eq_true rfl) d_V_isWhole_28 ⟨Nat.le_of_ble_eq_true rfl, Nat.le_of_ble_eq_true rfl⟩ rfl (fun r6 σ5 h => ?_)
      refine jv_istore (lv' := [(4, .int r6), (3, .int r2), (0, .ref (ad 9)), (1, .int v1), (2, .int v2)]) B d_V_isWhole_31 (by decide) rfl ?_
      refine jv_aload_n B d_V_isWhole_33 rfl 2 rfl ?_
      refine jv_iload_n B d_V_isWhole_34 rfl 3 rfl ?_
      refine jv_iload_n B d_V_isWhole_35 rfl 1 rfl ?_
      refine jv_iload_n B d_V_isWhole_36 rfl 4 rfl ?_
      refine jv_civ (As := [.int v1, .int r2, .int v2]) B hml hown hts hK hA (c_V_hasRuns (ad := ad) (cI := cI) (cA := cA) (cL := cL) (F := F) h) (cwV 3 hts g_V_81 rfl rfl rfl hd_V_hasRuns ⟨Nat.le_of_ble_eq_true rfl, Nat.le_of_ble_eq_true rfl⟩) 9 2 rfl rfl rfl rfl (Nat.le_of_ble_eq_true rfl) d_V_isWhole_37 ⟨Nat.le_of_ble_eq_true rfl, Nat.le_of_ble_eq_true rfl⟩ rfl (fun r8 σ7 h => ?_)
      refine jv_if_eq (tgt := 69) B d_V_isWhole_40 (by decide) (fun hc => ?_) (fun hc => ?_)
      · replace h := h.1 hc
        refine jv_iconst (v := 0) B d_V_isWhole_69 (by decide) ?_
        exact jv_iret B hr (nz h.1) hlk hK _ rfl h.2 d_V_isWhole_70
      · replace h := h.2 hc
        refine jv_aload_n B d_V_isWhole_43 rfl 2 rfl ?_
        refine jv_iload_n B d_V_isWhole_44 rfl 3 rfl ?_
        refine jv_iload B d_V_isWhole_45 0 rfl ?_
        refine jv_civ (As := [.int v1, .int r6]) B hml hown hts hK hA (c_V_byteAt (ad := ad) (cI := cI) (cA := cA) (cL := cL) (F := F) h) (cwV 2 hts g_V_78 rfl rfl rfl hd_V_byteAt ⟨Nat.le_of_ble_eq_true rfl, Nat.le_of_ble_eq_true rfl⟩) 9 2 rfl rfl rfl rfl (Nat.le_of_ble_eq_true rfl) d_V_isWhole_47 ⟨Nat.le_of_ble_eq_true rfl, Nat.le_of_ble_eq_true rfl⟩ rfl (fun r10 σ9 h => ?_)
        refine jv_aload_n B d_V_isWhole_50 rfl 2 rfl ?_
        refine jv_aload_n B d_V_isWhole_51 rfl 2 rfl ?_
        refine fg_V_slots B hts hown hK d_V_isWhole_52 ?_
        refine jv_iload_n B d_V_isWhole_55 rfl 3 rfl ?_
        refine aa_c B hK h.1 d_V_isWhole_56 (fun hc => ?_) (fun hc => ?_)
        · replace h := h.2.1 hc
          refine jv_iload B d_V_isWhole_57 0 rfl ?_
          refine jv_civ (As := [.ref (ad 11), .int r6]) B hml hown hts hK hA (c_V_sumBefore (qa := 11) (hga := rfl) (ad := ad) (cI := cI) (cA := cA) (cL := cL) (F := F) h) (cwV 2 hts g_V_71 rfl rfl rfl hd_V_sumBefore ⟨Nat.le_of_ble_eq_true rfl, Nat.le_of_ble_eq_true rfl⟩) 9 2 rfl rfl rfl rfl (Nat.le_of_ble_eq_true rfl) d_V_isWhole_59 ⟨Nat.le_of_ble_eq_true rfl, Nat.le_of_ble_eq_true rfl⟩ rfl (fun r12 σ11 h => ?_)
          refine jv_icmp_ne (tgt := 69) B d_V_isWhole_62 (by decide) (fun hc => ?_) (fun hc => ?_)
          · replace h := h.1 hc
            refine jv_iconst (v := 0) B d_V_isWhole_69 (by decide) ?_
            exact jv_iret B hr (nz h.1) hlk hK _ rfl h.2 d_V_isWhole_70
          · replace h := h.2 hc
            refine jv_iconst (v := 1) B d_V_isWhole_65 (by decide) ?_
            refine jv_goto (tgt := 70) B d_V_isWhole_66 (by decide) ?_
            exact jv_iret B hr (nz h.1) hlk hK _ rfl h.2 d_V_isWhole_70
        · replace h := h.2.2 hc
          refine jv_iload B d_V_isWhole_57 0 rfl ?_
          refine jv_civ (As := [.ref (ad 12), .int r6]) B hml hown hts hK hA (c_V_sumBefore (qa := 12) (hga := rfl) (ad := ad) (cI := cI) (cA := cA) (cL := cL) (F := F) h) (cwV 2 hts g_V_71 rfl rfl rfl hd_V_sumBefore ⟨Nat.le_of_ble_eq_true rfl, Nat.le_of_ble_eq_true rfl⟩) 9 2 rfl rfl rfl rfl (Nat.le_of_ble_eq_true rfl) d_V_isWhole_59 ⟨Nat.le_of_ble_eq_true rfl, Nat.le_of_ble_eq_true rfl⟩ rfl (fun r14 σ13 h => ?_)
          refine jv_icmp_ne (tgt := 69) B d_V_isWhole_62 (by decide) (fun hc => ?_) (fun hc => ?_)
          · replace h := h.1 hc
            refine jv_iconst (v := 0) B d_V_isWhole_69 (by decide) ?_
            exact jv_iret B hr (nz h.1) hlk hK _ rfl h.2 d_V_isWhole_70
          · replace h := h.2 hc
            refine jv_iconst (v := 1) B d_V_isWhole_65 (by decide) ?_
            refine jv_goto (tgt := 70) B d_V_isWhole_66 (by decide) ?_
            exact jv_iret B hr (nz h.1) hlk hK _ rfl h.2 d_V_isWhole_70
    · replace h := h.2 hc
      refine jv_iconst (v := 0) B d_V_isWhole_24 (by decide) ?_
      exact jv_iret B hr (nz h.1) hlk hK _ rfl h.2 d_V_isWhole_25
theorem c_V_isWhole {l : Launch} {D : va_G} {A : Nat → Prop} {ad : Nat → Nat} {cI cA cL : ClassId} {F : va_W} {σ : jS} {v1 v2 : Int32} {post : Int32 → jS → Prop} (h : p_V_isWhole σ v1 v2 post) : Met l y_V_isWhole (Cond.code y_V_isWhole b_V_isWhole 5 (some .boolean) :: wb) (rmk 4 0 0) (jv_Pre D jClasses (jTy cI cA cL) A (cw ad cI cA σ F) [.ref (ad 9), .int v1, .int v2]) (va_Qi post (jv_End D jClasses (jTy cI cA cL) A (fun σ => cw ad cI cA σ F)) A) 0 0 A :=
  jv_ofB (by decide) (Nat.le_of_ble_eq_true rfl) (fun p e s m below meth c X => w_V_isWhole_0 X h)
set_option maxRecDepth 100000 in
theorem w_V_newestWhole_47 (X : jv_C p s m args meth c b_V_newestWhole 4 (some .int) y_V_newestWhole wb D jClasses (jTy cI cA cL) A) {post : Int32 → jS → Prop} {v1 : Int32} {σ : jS} {v2 v3 : Int32} (h : p_V_newestWhole_47 post v1 σ v2 v3) : jv_V p l e (rmk 5 0 0) s m args below meth c D jClasses A 4 0 0 (MQ below (va_Qi post (jv_End D jClasses (jTy cI cA cL) A (fun σ => cw ad cI cA σ F)) A) args s 0 0 A) (cw ad cI cA σ F) [(2, .int v2), (3, .int v3)] 47 [] := by
  obtain ⟨B, hml, hown, hts, hK, hA, hr, hlk, hnm⟩ := id X
  unfold p_V_newestWhole_47 at h
  refine jv_iload_n B d_V_newestWhole_47 rfl 0 rfl ?_
  refine jv_if_eq (tgt := 53) B d_V_newestWhole_48 (by decide) (fun hc => ?_) (fun hc => ?_)
  · replace h := h.1 hc
    refine jv_iload_n B d_V_newestWhole_53 rfl 1 rfl ?_
    refine jv_if_eq (tgt := 61) B d_V_newestWhole_54 (by decide) (fun hc => ?_) (fun hc => ?_)
    · replace h := h.1 hc
      refine jv_iconst (v := (-1)) B d_V_newestWhole_61 (by decide) ?_
      exact jv_iret B hr rfl hlk hK _ rfl h d_V_newestWhole_62
    · replace h := h.2 hc
      refine jv_iconst (v := 1) B d_V_newestWhole_57 (by decide) ?_
      refine jv_goto (tgt := 62) B d_V_newestWhole_58 (by decide) ?_
      exact jv_iret B hr rfl hlk hK _ rfl h d_V_newestWhole_62
  · replace h := h.2 hc
    refine jv_iconst (v := 0) B d_V_newestWhole_51 (by decide) ?_
    exact jv_iret B hr rfl hlk hK _ rfl h d_V_newestWhole_52
set_option maxRecDepth 100000 in
theorem w_V_newestWhole_0 (X : jv_C p s m args meth c b_V_newestWhole 4 (some .int) y_V_newestWhole wb D jClasses (jTy cI cA cL) A) {post : Int32 → jS → Prop} {σ : jS} {v1 : Int32} (h : p_V_newestWhole σ v1 post) : jv_V p l e (rmk 5 0 0) s m args below meth c D jClasses A 4 0 0 (MQ below (va_Qi post (jv_End D jClasses (jTy cI cA cL) A (fun σ => cw ad cI cA σ F)) A) args s 0 0 A) (cw ad cI cA σ F) [(0, .ref (ad 9)), (1, .int v1)] 0 [] := by
  obtain ⟨B, hml, hown, hts, hK, hA, hr, hlk, hnm⟩ := id X
  unfold p_V_newestWhole at h
  refine jv_aload_n B d_V_newestWhole_0 rfl 0 rfl ?_
  refine jv_iconst (v := 0) B d_V_newestWhole_1 (by decide) ?_
  refine jv_iload_n B d_V_newestWhole_2 rfl 1 rfl ?_
  refine jv_civ (As := [.int 0, .int v1]) B hml hown hts hK hA (c_V_isWhole (ad := ad) (cI := cI) (cA := cA) (cL := cL) (F := F) h) (cwV 2 hts g_V_75 rfl rfl rfl hd_V_isWhole ⟨Nat.le_of_ble_eq_true rfl, Nat.le_of_ble_eq_true rfl⟩) 9 2 rfl rfl rfl rfl (Nat.le_of_ble_eq_true rfl) d_V_newestWhole_3 ⟨Nat.le_of_ble_eq_true rfl, Nat.le_of_ble_eq_true rfl⟩ rfl (fun r2 σ1 h => ?_)
  refine jv_istore_n (lv' := [(2, .int r2), (0, .ref (ad 9)), (1, .int v1)]) B d_V_newestWhole_6 rfl (by decide) rfl ?_
  refine jv_aload_n B d_V_newestWhole_7 rfl 1 rfl ?_
  refine jv_iconst (v := 1) B d_V_newestWhole_8 (by decide) ?_
  refine jv_iload_n B d_V_newestWhole_9 rfl 2 rfl ?_
  refine jv_civ (As := [.int 1, .int v1]) B hml hown hts hK hA (c_V_isWhole (ad := ad) (cI := cI) (cA := cA) (cL := cL) (F := F) h) (cwV 2 hts g_V_75 rfl rfl rfl hd_V_isWhole ⟨Nat.le_of_ble_eq_true rfl, Nat.le_of_ble_eq_true rfl⟩) 9 2 rfl rfl rfl rfl (Nat.le_of_ble_eq_true rfl) d_V_newestWhole_10 ⟨Nat.le_of_ble_eq_true rfl, Nat.le_of_ble_eq_true rfl⟩ rfl (fun r4 σ3 h => ?_)
  refine jv_istore_n (lv' := [(3, .int r4), (2, .int r2), (0, .ref (ad 9)), (1, .int v1)]) B d_V_newestWhole_13 rfl (by decide) rfl ?_
  refine jv_iload_n B d_V_newestWhole_14 rfl 1 rfl ?_
  refine jv_if_eq (tgt := 47) B d_V_newestWhole_15 (by decide) (fun hc => ?_) (fun hc => ?_)
  · replace h := h.1 hc
    refine jv_sub [1, 0] rfl ?_
    exact w_V_newestWhole_47 X h
  · replace h := h.2 hc
    refine jv_iload_n B d_V_newestWhole_18 rfl 0 rfl ?_
    refine jv_if_eq (tgt := 47) B d_V_newestWhole_19 (by decide) (fun hc => ?_) (fun hc => ?_)
    · replace h := h.1 hc
      refine jv_sub [1, 0] rfl ?_
      exact w_V_newestWhole_47 X h
    · replace h := h.2 hc
      refine jv_aload_n B d_V_newestWhole_22 rfl 2 rfl ?_
      refine jv_iconst (v := 1) B d_V_newestWhole_23 (by decide) ?_
      refine jv_iconst (v := 0) B d_V_newestWhole_24 (by decide) ?_
      refine jv_civ (As := [.int 1, .int 0]) B hml hown hts hK hA (c_V_byteAt (ad := ad) (cI := cI) (cA := cA) (cL := cL) (F := F) h) (cwV 2 hts g_V_78 rfl rfl rfl hd_V_byteAt ⟨Nat.le_of_ble_eq_true rfl, Nat.le_of_ble_eq_true rfl⟩) 9 2 rfl rfl rfl rfl (Nat.le_of_ble_eq_true rfl) d_V_newestWhole_25 ⟨Nat.le_of_ble_eq_true rfl, Nat.le_of_ble_eq_true rfl⟩ rfl (fun r6 σ5 h => ?_)
      refine jv_aload_n B d_V_newestWhole_28 rfl 2 rfl ?_
      refine jv_aload_n B d_V_newestWhole_29 rfl 2 rfl ?_
      refine jv_iconst (v := 0) B d_V_newestWhole_30 (by decide) ?_
      refine jv_iconst (v := 0) B d_V_newestWhole_31 (by decide) ?_
      refine jv_civ (As := [.int 0, .int 0]) B hml hown hts hK hA (c_V_byteAt (ad := ad) (cI := cI) (cA := cA) (cL := cL) (F := F) h) (cwV 2 hts g_V_78 rfl rfl rfl hd_V_byteAt ⟨Nat.le_of_ble_eq_true rfl, Nat.le_of_ble_eq_true rfl⟩) 9 2 rfl rfl rfl rfl (Nat.le_of_ble_eq_true rfl) d_V_newestWhole_32 ⟨Nat.le_of_ble_eq_true rfl, Nat.le_of_ble_eq_true rfl⟩ rfl (fun r8 σ7 h => ?_)
      refine jv_civ (As := [.int r8]) B hml hown hts hK hA (c_V_behindNumber (ad := ad) (cI := cI) (cA := cA) (cL := cL) (F := F) h) (cwV 1 hts g_V_34 rfl rfl rfl hd_V_behindNumber ⟨Nat.le_of_ble_eq_true rfl, Nat.le_of_ble_eq_true rfl⟩) 9 2 rfl rfl rfl rfl (Nat.le_of_ble_eq_true rfl) d_V_newestWhole_35 ⟨Nat.le_of_ble_eq_true rfl, Nat.le_of_ble_eq_true rfl⟩ rfl (fun r10 σ9 h => ?_)
      refine jv_icmp_ne (tgt := 45) B d_V_newestWhole_38 (by decide) (fun hc => ?_) (fun hc => ?_)
      · replace h := h.1 hc
        refine jv_iconst (v := 0) B d_V_newestWhole_45 (by decide) ?_
        exact jv_iret B hr rfl hlk hK _ rfl h d_V_newestWhole_46
      · replace h := h.2 hc
        refine jv_iconst (v := 1) B d_V_newestWhole_41 (by decide) ?_
        refine jv_goto (tgt := 46) B d_V_newestWhole_42 (by decide) ?_
        exact jv_iret B hr rfl hlk hK _ rfl h d_V_newestWhole_46
theorem c_V_newestWhole {l : Launch} {D : va_G} {A : Nat → Prop} {ad : Nat → Nat} {cI cA cL : ClassId} {F : va_W} {σ : jS} {v1 : Int32} {post : Int32 → jS → Prop} (h : p_V_newestWhole σ v1 post) : Met l y_V_newestWhole (Cond.code y_V_newestWhole b_V_newestWhole 4 (some .int) :: wb) (rmk 5 0 0) (jv_Pre D jClasses (jTy cI cA cL) A (cw ad cI cA σ F) [.ref (ad 9), .int v1]) (va_Qi post (jv_End D jClasses (jTy cI cA cL) A (fun σ => cw ad cI cA σ F)) A) 0 0 A :=
  jv_ofB (by decide) (Nat.le_of_ble_eq_true rfl) (fun p e s m below meth c X => w_V_newestWhole_0 X h)
set_option maxRecDepth 100000 in
theorem w_V_load_26 (X : jv_C p s m args meth c b_V_load 6 none y_V_load wb D jClasses (jTy cI cA cL) A) {post : jS → Prop} {v1 : Int32} : ∀ (n : Nat), ∀ (σ : jS) (v3 v4 : Int32), p_V_load_26 post v1 n σ v3 v4 → jv_V p l e (rmk 3 0 0) s m args below meth c D jClasses A 6 0 0 (MQ below (va_Qv post (jv_End D jClasses (jTy cI cA cL) A (fun σ => cw ad cI cA σ F)) A) args s 0 0 A) (cw ad cI cA σ F) [(0, .ref (ad 9)), (1, .int v1), (2, .ref (ad 6)), (3, .int v3), (4, .int v4)] 26 [] := by
  obtain ⟨B, hml, hown, hts, hK, hA, hr, hlk, hnm⟩ := id X
  intro n
  induction n with
  | zero => intro σ v3 v4 h; exact h.elim
  | succ n ih =>
    intro σ v3 v4 h
    rw [p_V_load_26] at h
    refine jv_iload B d_V_load_26 4 rfl ?_
    refine jv_aload_n B d_V_load_28 rfl 0 rfl ?_
    refine jv_iload_n B d_V_load_29 rfl 1 rfl ?_
    refine jv_iconst (v := 1) B d_V_load_30 (by decide) ?_
    refine jv_civ (As := [.int v1, .int 1]) B hml hown hts hK hA (c_V_byteAt (ad := ad) (cI := cI) (cA := cA) (cL := cL) (F := F) h) (cwV 2 hts g_V_78 rfl rfl rfl hd_V_byteAt ⟨Nat.le_of_ble_eq_true rfl, Nat.le_of_ble_eq_true rfl⟩) 9 2 rfl rfl rfl rfl (Nat.le_of_ble_eq_true rfl) d_V_load_31 ⟨Nat.le_of_ble_eq_true rfl, Nat.le_of_ble_eq_true rfl⟩ rfl (fun r4 σ3 h => ?_)
    refine jv_icmp_ge (tgt := 81) B d_V_load_34 (by decide) (fun hc => ?_) (fun hc => ?_)
    · replace h := h.1 hc
      exact jv_vret B hr hlk hK _ rfl h d_V_load_81
    · replace h := h.2 hc
      refine jv_iload_n B d_V_load_37 rfl 3 rfl ?_
      refine jv_aload_n B d_V_load_38 rfl 0 rfl ?_
      refine jv_iload_n B d_V_load_39 rfl 1 rfl ?_
      refine jv_aload_n B d_V_load_40 rfl 0 rfl ?_
      refine jv_iload B d_V_load_41 4 rfl ?_
      refine jv_civ (As := [.int v4]) B hml hown hts hK hA (c_V_placeOfRun (ad := ad) (cI := cI) (cA := cA) (cL := cL) (F := F) h) (cwV 1 hts g_V_62 rfl rfl rfl hd_V_placeOfRun ⟨Nat.le_of_ble_eq_true rfl, Nat.le_of_ble_eq_true rfl⟩) 9 2 rfl rfl rfl rfl (Nat.le_of_ble_eq_true rfl) d_V_load_43 ⟨Nat.le_of_ble_eq_true rfl, Nat.le_of_ble_eq_true rfl⟩ rfl (fun r6 σ5 h => ?_)
      refine jv_civ (As := [.int v1, .int r6]) B hml hown hts hK hA (c_V_byteAt (ad := ad) (cI := cI) (cA := cA) (cL := cL) (F := F) h) (cwV 2 hts g_V_78 rfl rfl rfl hd_V_byteAt ⟨Nat.le_of_ble_eq_true rfl, Nat.le_of_ble_eq_true rfl⟩) 9 2 rfl rfl rfl rfl (Nat.le_of_ble_eq_true rfl) d_V_load_46 ⟨Nat.le_of_ble_eq_true rfl, Nat.le_of_ble_eq_true rfl⟩ rfl (fun r8 σ7 h => ?_)
      refine jv_iadd B d_V_load_49 ?_
      refine jv_istore (lv' := [(5, .int (v3 + r8)), (0, .ref (ad 9)), (1, .int v1), (2, .ref (ad 6)), (3, .int v3), (4, .int v4)]) B d_V_load_50 (by decide) rfl ?_
      refine jv_aload_n B d_V_load_52 rfl 3 rfl ?_
      refine jv_iload_n B d_V_load_53 rfl 4 rfl ?_
      refine jv_iload B d_V_load_54 0 rfl ?_
      refine jv_aload_n B d_V_load_56 rfl 1 rfl ?_
      refine jv_iload_n B d_V_load_57 rfl 2 rfl ?_
      refine jv_aload_n B d_V_load_58 rfl 1 rfl ?_
      refine jv_iload B d_V_load_59 5 rfl ?_
      refine jv_civ (As := [.int v4]) B hml hown hts hK hA (c_V_placeOfRun (ad := ad) (cI := cI) (cA := cA) (cL := cL) (F := F) h) (cwV 1 hts g_V_62 rfl rfl rfl hd_V_placeOfRun ⟨Nat.le_of_ble_eq_true rfl, Nat.le_of_ble_eq_true rfl⟩) 9 2 rfl rfl rfl rfl (Nat.le_of_ble_eq_true rfl) d_V_load_61 ⟨Nat.le_of_ble_eq_true rfl, Nat.le_of_ble_eq_true rfl⟩ rfl (fun r10 σ9 h => ?_)
      refine jv_iconst (v := 1) B d_V_load_64 (by decide) ?_
      refine jv_iadd B d_V_load_65 ?_
      refine jv_civ (As := [.int v1, .int (r10 + 1)]) B hml hown hts hK hA (c_V_byteAt (ad := ad) (cI := cI) (cA := cA) (cL := cL) (F := F) h) (cwV 2 hts g_V_78 rfl rfl rfl hd_V_byteAt ⟨Nat.le_of_ble_eq_true rfl, Nat.le_of_ble_eq_true rfl⟩) 9 2 rfl rfl rfl rfl (Nat.le_of_ble_eq_true rfl) d_V_load_66 ⟨Nat.le_of_ble_eq_true rfl, Nat.le_of_ble_eq_true rfl⟩ rfl (fun r12 σ11 h => ?_)
      refine jv_cvv (As := [.int v3, .int (v3 + r8), .int r12]) B hml hown hts hK hA (c_S_mark (ad := ad) (cI := cI) (cA := cA) (cL := cL) (F := F) h) (cwV 3 hts g_V_85 rfl rfl rfl hd_S_mark ⟨Nat.le_of_ble_eq_true rfl, Nat.le_of_ble_eq_true rfl⟩) 6 3 rfl rfl rfl rfl (Nat.le_of_ble_eq_true rfl) d_V_load_69 ⟨Nat.le_of_ble_eq_true rfl, Nat.le_of_ble_eq_true rfl⟩ rfl (fun σ13 h => ?_)
      refine jv_iload B d_V_load_72 0 rfl ?_
      refine jv_istore_n (lv' := [(3, .int (v3 + r8)), (5, .int (v3 + r8)), (0, .ref (ad 9)), (1, .int v1), (2, .ref (ad 6)), (4, .int v4)]) B d_V_load_74 rfl (by decide) rfl ?_
      refine jv_iinc (n9 := 5) (v := v4 + 1) (lv' := [(4, .int (v4 + 1)), (3, .int (v3 + r8)), (5, .int (v3 + r8)), (0, .ref (ad 9)), (1, .int v1), (2, .ref (ad 6))]) B d_V_load_75 rfl rfl (by decide) rfl ?_
      refine jv_goto (tgt := 26) B d_V_load_78 (by decide) ?_
      refine jv_sub [3, 4, 5, 1, 0] rfl ?_
      exact ih _ _ _ h
set_option maxRecDepth 100000 in
theorem w_V_load_0 (X : jv_C p s m args meth c b_V_load 6 none y_V_load wb D jClasses (jTy cI cA cL) A) {post : jS → Prop} {σ : jS} {v1 : Int32} (h : p_V_load σ v1 post) : jv_V p l e (rmk 3 0 0) s m args below meth c D jClasses A 6 0 0 (MQ below (va_Qv post (jv_End D jClasses (jTy cI cA cL) A (fun σ => cw ad cI cA σ F)) A) args s 0 0 A) (cw ad cI cA σ F) [(0, .ref (ad 9)), (1, .int v1), (2, .ref (ad 6))] 0 [] := by
  obtain ⟨B, hml, hown, hts, hK, hA, hr, hlk, hnm⟩ := id X
  unfold p_V_load at h
  refine jv_iload_n B d_V_load_0 rfl 1 rfl ?_
  refine jv_iconst (v := (-1)) B d_V_load_1 (by decide) ?_
  refine jv_icmp_ne (tgt := 11) B d_V_load_2 (by decide) (fun hc => ?_) (fun hc => ?_)
  · replace h := h.1 hc
    refine jv_aload_n B d_V_load_11 rfl 0 rfl ?_
    refine jv_aload_n B d_V_load_12 rfl 0 rfl ?_
    refine jv_iload_n B d_V_load_13 rfl 1 rfl ?_
    refine jv_iconst (v := 0) B d_V_load_14 (by decide) ?_
    refine jv_civ (As := [.int v1, .int 0]) B hml hown hts hK hA (c_V_byteAt (ad := ad) (cI := cI) (cA := cA) (cL := cL) (F := F) h) (cwV 2 hts g_V_78 rfl rfl rfl hd_V_byteAt ⟨Nat.le_of_ble_eq_true rfl, Nat.le_of_ble_eq_true rfl⟩) 9 2 rfl rfl rfl rfl (Nat.le_of_ble_eq_true rfl) d_V_load_15 ⟨Nat.le_of_ble_eq_true rfl, Nat.le_of_ble_eq_true rfl⟩ rfl (fun r2 σ1 h => ?_)
    refine fs_V_lastNumber B hts hown hK d_V_load_18 ?_
    refine jv_iconst (v := 0) B d_V_load_21 (by decide) ?_
    refine jv_istore_n (lv' := [(3, .int 0), (0, .ref (ad 9)), (1, .int v1), (2, .ref (ad 6))]) B d_V_load_22 rfl (by decide) rfl ?_
    refine jv_iconst (v := 0) B d_V_load_23 (by decide) ?_
    refine jv_istore (lv' := [(4, .int 0), (3, .int 0), (0, .ref (ad 9)), (1, .int v1), (2, .ref (ad 6))]) B d_V_load_24 (by decide) rfl ?_
    refine jv_sub [2, 3, 4, 1, 0] rfl ?_
    obtain ⟨n9, h⟩ := h
    exact w_V_load_26 X n9 _ _ _ h
  · replace h := h.2 hc
    refine jv_aload_n B d_V_load_5 rfl 0 rfl ?_
    refine jv_iconst (v := 0) B d_V_load_6 (by decide) ?_
    refine fs_V_lastNumber B hts hown hK d_V_load_7 ?_
    exact jv_vret B hr hlk hK _ rfl h d_V_load_10
theorem c_V_load {l : Launch} {D : va_G} {A : Nat → Prop} {ad : Nat → Nat} {cI cA cL : ClassId} {F : va_W} {σ : jS} {v1 : Int32} {post : jS → Prop} (h : p_V_load σ v1 post) : Met l y_V_load (Cond.code y_V_load b_V_load 6 none :: wb) (rmk 3 0 0) (jv_Pre D jClasses (jTy cI cA cL) A (cw ad cI cA σ F) [.ref (ad 9), .int v1, .ref (ad 6)]) (va_Qv post (jv_End D jClasses (jTy cI cA cL) A (fun σ => cw ad cI cA σ F)) A) 0 0 A :=
  jv_ofB (by decide) (Nat.le_of_ble_eq_true rfl) (fun p e s m below meth c X => w_V_load_0 X h)
set_option maxRecDepth 100000 in
theorem w_S_clear_0 (X : jv_C p s m args meth c b_S_clear 2 none y_S_clear wb D jClasses (jTy cI cA cL) A) {post : jS → Prop} {σ : jS} {v1 : Int32} (h : p_S_clear σ v1 post) : jv_V p l e (rmk 2 0 0) s m args below meth c D jClasses A 2 0 0 (MQ below (va_Qv post (jv_End D jClasses (jTy cI cA cL) A (fun σ => cw ad cI cA σ F)) A) args s 0 0 A) (cw ad cI cA σ F) [(0, .ref (ad 6)), (1, .int v1)] 0 [] := by
  obtain ⟨B, hml, hown, hts, hK, hA, hr, hlk, hnm⟩ := id X
  unfold p_S_clear at h
  refine jv_aload_n B d_S_clear_0 rfl 0 rfl ?_
  refine jv_iconst (v := 0) B d_S_clear_1 (by decide) ?_
  refine jv_iload_n B d_S_clear_2 rfl 1 rfl ?_
  refine jv_bipush (v := 64) B d_S_clear_3 (by decide) ?_
  refine jv_mmin B hml hown hts (hts _ kw_350) (Nat.le_of_ble_eq_true rfl) (Nat.le_of_ble_eq_true rfl) (Nat.le_of_ble_eq_true rfl) (Nat.le_of_ble_eq_true rfl) d_S_clear_5 ?_
  refine jv_mmax B hml hown hts (hts _ kw_353) (Nat.le_of_ble_eq_true rfl) (Nat.le_of_ble_eq_true rfl) (Nat.le_of_ble_eq_true rfl) (Nat.le_of_ble_eq_true rfl) d_S_clear_8 ?_
  refine fs_S_sectors B hts hown hK d_S_clear_11 ?_
  refine jv_aload_n B d_S_clear_14 rfl 0 rfl ?_
  refine fg_S_states B hts hown hK d_S_clear_15 ?_
  refine jv_iconst (v := 0) B d_S_clear_18 (by decide) ?_
  refine jv_fill (ws' := cw ad cI cA (upA (up2 σ 6 1 (if 0 < (if 64 < v1 then 64 else v1) then (if 64 < v1 then 64 else v1) else 0)) 7 64 0) F) B hml hown hts hK hA kw_356 7 rfl rfl (by decide) rfl (Nat.le_of_ble_eq_true rfl) (Nat.le_of_ble_eq_true rfl) ⟨Nat.le_of_ble_eq_true rfl, Nat.le_of_ble_eq_true rfl⟩ (Nat.le_of_ble_eq_true rfl) d_S_clear_19 ?_
  exact jv_vret B hr hlk hK _ rfl h d_S_clear_22
theorem c_S_clear {l : Launch} {D : va_G} {A : Nat → Prop} {ad : Nat → Nat} {cI cA cL : ClassId} {F : va_W} {σ : jS} {v1 : Int32} {post : jS → Prop} (h : p_S_clear σ v1 post) : Met l y_S_clear (Cond.code y_S_clear b_S_clear 2 none :: wb) (rmk 2 0 0) (jv_Pre D jClasses (jTy cI cA cL) A (cw ad cI cA σ F) [.ref (ad 6), .int v1]) (va_Qv post (jv_End D jClasses (jTy cI cA cL) A (fun σ => cw ad cI cA σ F)) A) 0 0 A :=
  jv_ofB (by decide) (Nat.le_of_ble_eq_true rfl) (fun p e s m below meth c X => w_S_clear_0 X h)
set_option maxRecDepth 100000 in
theorem w_S_countOf_25 (X : jv_C p s m args meth c b_S_countOf 4 (some .int) y_S_countOf wb D jClasses (jTy cI cA cL) A) {post : Int32 → jS → Prop} {v1 : Int32} {σ : jS} {v2 v3 : Int32} {k4 : jS → Int32 → Int32 → Prop} (H4 : ∀ (σ : jS) (v2 v3 : Int32), k4 σ v2 v3 → jv_V p l e (rmk 1 0 0) s m args below meth c D jClasses A 4 0 0 (MQ below (va_Qi post (jv_End D jClasses (jTy cI cA cL) A (fun σ => cw ad cI cA σ F)) A) args s 0 0 A) (cw ad cI cA σ F) [(0, .ref (ad 6)), (1, .int v1), (2, .int v2), (3, .int v3)] 4 []) (h : p_S_countOf_25 post k4 v1 σ v2 v3) : jv_V p l e (rmk 1 0 0) s m args below meth c D jClasses A 4 0 0 (MQ below (va_Qi post (jv_End D jClasses (jTy cI cA cL) A (fun σ => cw ad cI cA σ F)) A) args s 0 0 A) (cw ad cI cA σ F) [(0, .ref (ad 6)), (1, .int v1), (2, .int v2), (3, .int v3)] 25 [] := by
  obtain ⟨B, hml, hown, hts, hK, hA, hr, hlk, hnm⟩ := id X
  unfold p_S_countOf_25 at h
  refine jv_iinc (n9 := 3) (v := v3 + 1) (lv' := [(3, .int (v3 + 1)), (0, .ref (ad 6)), (1, .int v1), (2, .int v2)]) B d_S_countOf_25 rfl rfl (by decide) rfl ?_
  refine jv_goto (tgt := 4) B d_S_countOf_28 (by decide) ?_
  refine jv_sub [1, 2, 3, 0] rfl ?_
  exact H4 _ _ _ h
set_option maxRecDepth 100000 in
theorem w_S_countOf_4 (X : jv_C p s m args meth c b_S_countOf 4 (some .int) y_S_countOf wb D jClasses (jTy cI cA cL) A) {post : Int32 → jS → Prop} {v1 : Int32} : ∀ (n : Nat), ∀ (σ : jS) (v2 v3 : Int32), p_S_countOf_4 post v1 n σ v2 v3 → jv_V p l e (rmk 1 0 0) s m args below meth c D jClasses A 4 0 0 (MQ below (va_Qi post (jv_End D jClasses (jTy cI cA cL) A (fun σ => cw ad cI cA σ F)) A) args s 0 0 A) (cw ad cI cA σ F) [(0, .ref (ad 6)), (1, .int v1), (2, .int v2), (3, .int v3)] 4 [] := by
  obtain ⟨B, hml, hown, hts, hK, hA, hr, hlk, hnm⟩ := id X
  intro n
  induction n with
  | zero => intro σ v2 v3 h; exact h.elim
  | succ n ih =>
    intro σ v2 v3 h
    rw [p_S_countOf_4] at h
    refine jv_iload_n B d_S_countOf_4 rfl 3 rfl ?_
    refine jv_aload_n B d_S_countOf_5 rfl 0 rfl ?_
    refine fg_S_sectors B hts hown hK d_S_countOf_6 ?_
    refine jv_icmp_ge (tgt := 31) B d_S_countOf_9 (by decide) (fun hc => ?_) (fun hc => ?_)
    · replace h := h.1 hc
      refine jv_iload_n B d_S_countOf_31 rfl 2 rfl ?_
      exact jv_iret B hr rfl hlk hK _ rfl h d_S_countOf_32
    · replace h := h.2 hc
      refine jv_aload_n B d_S_countOf_12 rfl 0 rfl ?_
      refine fg_S_states B hts hown hK d_S_countOf_13 ?_
      refine jv_iload_n B d_S_countOf_16 rfl 3 rfl ?_
      refine ld_c_7 B hK h.1 d_S_countOf_17 ?_
      replace h := h.2
      refine jv_iload_n B d_S_countOf_18 rfl 1 rfl ?_
      refine jv_icmp_ne (tgt := 25) B d_S_countOf_19 (by decide) (fun hc => ?_) (fun hc => ?_)
      · replace h := h.1 hc
        exact w_S_countOf_25 X ih h
      · replace h := h.2 hc
        refine jv_iinc (n9 := 2) (v := v2 + 1) (lv' := [(2, .int (v2 + 1)), (0, .ref (ad 6)), (1, .int v1), (3, .int v3)]) B d_S_countOf_22 rfl rfl (by decide) rfl ?_
        refine jv_sub [1, 2, 0, 3] rfl ?_
        exact w_S_countOf_25 X ih h
set_option maxRecDepth 100000 in
theorem w_S_countOf_0 (X : jv_C p s m args meth c b_S_countOf 4 (some .int) y_S_countOf wb D jClasses (jTy cI cA cL) A) {post : Int32 → jS → Prop} {σ : jS} {v1 : Int32} (h : p_S_countOf σ v1 post) : jv_V p l e (rmk 1 0 0) s m args below meth c D jClasses A 4 0 0 (MQ below (va_Qi post (jv_End D jClasses (jTy cI cA cL) A (fun σ => cw ad cI cA σ F)) A) args s 0 0 A) (cw ad cI cA σ F) [(0, .ref (ad 6)), (1, .int v1)] 0 [] := by
  obtain ⟨B, hml, hown, hts, hK, hA, hr, hlk, hnm⟩ := id X
  unfold p_S_countOf at h
  refine jv_iconst (v := 0) B d_S_countOf_0 (by decide) ?_
  refine jv_istore_n (lv' := [(2, .int 0), (0, .ref (ad 6)), (1, .int v1)]) B d_S_countOf_1 rfl (by decide) rfl ?_
  refine jv_iconst (v := 0) B d_S_countOf_2 (by decide) ?_
  refine jv_istore_n (lv' := [(3, .int 0), (2, .int 0), (0, .ref (ad 6)), (1, .int v1)]) B d_S_countOf_3 rfl (by decide) rfl ?_
  refine jv_sub [2, 3, 1, 0] rfl ?_
  obtain ⟨n9, h⟩ := h
  exact w_S_countOf_4 X n9 _ _ _ h
theorem c_S_countOf {l : Launch} {D : va_G} {A : Nat → Prop} {ad : Nat → Nat} {cI cA cL : ClassId} {F : va_W} {σ : jS} {v1 : Int32} {post : Int32 → jS → Prop} (h : p_S_countOf σ v1 post) : Met l y_S_countOf (Cond.code y_S_countOf b_S_countOf 4 (some .int) :: wb) (rmk 1 0 0) (jv_Pre D jClasses (jTy cI cA cL) A (cw ad cI cA σ F) [.ref (ad 6), .int v1]) (va_Qi post (jv_End D jClasses (jTy cI cA cL) A (fun σ => cw ad cI cA σ F)) A) 0 0 A :=
  jv_ofB (by decide) (Nat.le_of_ble_eq_true rfl) (fun p e s m below meth c X => w_S_countOf_0 X h)
set_option maxRecDepth 100000 in
theorem w_S_firstOfRun_30 (X : jv_C p s m args meth c b_S_firstOfRun 4 (some .int) y_S_firstOfRun wb D jClasses (jTy cI cA cL) A) {post : Int32 → jS → Prop} {v1 : Int32} {σ : jS} {v2 v3 : Int32} {k4 : jS → Int32 → Int32 → Prop} (H4 : ∀ (σ : jS) (v2 v3 : Int32), k4 σ v2 v3 → jv_V p l e (rmk 3 0 0) s m args below meth c D jClasses A 4 0 0 (MQ below (va_Qi post (jv_End D jClasses (jTy cI cA cL) A (fun σ => cw ad cI cA σ F)) A) args s 0 0 A) (cw ad cI cA σ F) [(0, .ref (ad 6)), (1, .int v1), (2, .int v2), (3, .int v3)] 4 []) (h : p_S_firstOfRun_30 post k4 v1 σ v2 v3) : jv_V p l e (rmk 3 0 0) s m args below meth c D jClasses A 4 0 0 (MQ below (va_Qi post (jv_End D jClasses (jTy cI cA cL) A (fun σ => cw ad cI cA σ F)) A) args s 0 0 A) (cw ad cI cA σ F) [(0, .ref (ad 6)), (1, .int v1), (2, .int v2), (3, .int v3)] 30 [] := by
  obtain ⟨B, hml, hown, hts, hK, hA, hr, hlk, hnm⟩ := id X
  unfold p_S_firstOfRun_30 at h
  refine jv_iinc (n9 := 3) (v := v3 + 1) (lv' := [(3, .int (v3 + 1)), (0, .ref (ad 6)), (1, .int v1), (2, .int v2)]) B d_S_firstOfRun_30 rfl rfl (by decide) rfl ?_
  refine jv_goto (tgt := 4) B d_S_firstOfRun_33 (by decide) ?_
  refine jv_sub [1, 2, 3, 0] rfl ?_
  exact H4 _ _ _ h
set_option maxRecDepth 100000 in
theorem w_S_firstOfRun_4 (X : jv_C p s m args meth c b_S_firstOfRun 4 (some .int) y_S_firstOfRun wb D jClasses (jTy cI cA cL) A) {post : Int32 → jS → Prop} {v1 : Int32} : ∀ (n : Nat), ∀ (σ : jS) (v2 v3 : Int32), p_S_firstOfRun_4 post v1 n σ v2 v3 → jv_V p l e (rmk 3 0 0) s m args below meth c D jClasses A 4 0 0 (MQ below (va_Qi post (jv_End D jClasses (jTy cI cA cL) A (fun σ => cw ad cI cA σ F)) A) args s 0 0 A) (cw ad cI cA σ F) [(0, .ref (ad 6)), (1, .int v1), (2, .int v2), (3, .int v3)] 4 [] := by
  obtain ⟨B, hml, hown, hts, hK, hA, hr, hlk, hnm⟩ := id X
  intro n
  induction n with
  | zero => intro σ v2 v3 h; exact h.elim
  | succ n ih =>
    intro σ v2 v3 h
    rw [p_S_firstOfRun_4] at h
    refine jv_iload_n B d_S_firstOfRun_4 rfl 3 rfl ?_
    refine jv_aload_n B d_S_firstOfRun_5 rfl 0 rfl ?_
    refine fg_S_sectors B hts hown hK d_S_firstOfRun_6 ?_
    refine jv_icmp_ge (tgt := 36) B d_S_firstOfRun_9 (by decide) (fun hc => ?_) (fun hc => ?_)
    · replace h := h.1 hc
      refine jv_iconst (v := (-1)) B d_S_firstOfRun_36 (by decide) ?_
      exact jv_iret B hr rfl hlk hK _ rfl h d_S_firstOfRun_37
    · replace h := h.2 hc
      refine jv_aload_n B d_S_firstOfRun_12 rfl 0 rfl ?_
      refine jv_iload_n B d_S_firstOfRun_13 rfl 3 rfl ?_
      refine jv_civ (As := [.int v3]) B hml hown hts hK hA (c_S_startsRun (ad := ad) (cI := cI) (cA := cA) (cL := cL) (F := F) h) (cwV 1 hts g_S_38 rfl rfl rfl hd_S_startsRun ⟨Nat.le_of_ble_eq_true rfl, Nat.le_of_ble_eq_true rfl⟩) 6 3 rfl rfl rfl rfl (Nat.le_of_ble_eq_true rfl) d_S_firstOfRun_14 ⟨Nat.le_of_ble_eq_true rfl, Nat.le_of_ble_eq_true rfl⟩ rfl (fun r2 σ1 h => ?_)
      refine jv_if_eq (tgt := 30) B d_S_firstOfRun_17 (by decide) (fun hc => ?_) (fun hc => ?_)
      · replace h := h.1 hc
        exact w_S_firstOfRun_30 X ih h
      · replace h := h.2 hc
        refine jv_iload_n B d_S_firstOfRun_20 rfl 2 rfl ?_
        refine jv_iload_n B d_S_firstOfRun_21 rfl 1 rfl ?_
        refine jv_icmp_ne (tgt := 27) B d_S_firstOfRun_22 (by decide) (fun hc => ?_) (fun hc => ?_)
        · replace h := h.1 hc
          refine jv_iinc (n9 := 2) (v := v2 + 1) (lv' := [(2, .int (v2 + 1)), (0, .ref (ad 6)), (1, .int v1), (3, .int v3)]) B d_S_firstOfRun_27 rfl rfl (by decide) rfl ?_
          refine jv_sub [1, 2, 0, 3] rfl ?_
          exact w_S_firstOfRun_30 X ih h
        · replace h := h.2 hc
          refine jv_iload_n B d_S_firstOfRun_25 rfl 3 rfl ?_
          exact jv_iret B hr rfl hlk hK _ rfl h d_S_firstOfRun_26
set_option maxRecDepth 100000 in
theorem w_S_firstOfRun_0 (X : jv_C p s m args meth c b_S_firstOfRun 4 (some .int) y_S_firstOfRun wb D jClasses (jTy cI cA cL) A) {post : Int32 → jS → Prop} {σ : jS} {v1 : Int32} (h : p_S_firstOfRun σ v1 post) : jv_V p l e (rmk 3 0 0) s m args below meth c D jClasses A 4 0 0 (MQ below (va_Qi post (jv_End D jClasses (jTy cI cA cL) A (fun σ => cw ad cI cA σ F)) A) args s 0 0 A) (cw ad cI cA σ F) [(0, .ref (ad 6)), (1, .int v1)] 0 [] := by
  obtain ⟨B, hml, hown, hts, hK, hA, hr, hlk, hnm⟩ := id X
  unfold p_S_firstOfRun at h
  refine jv_iconst (v := 0) B d_S_firstOfRun_0 (by decide) ?_
  refine jv_istore_n (lv' := [(2, .int 0), (0, .ref (ad 6)), (1, .int v1)]) B d_S_firstOfRun_1 rfl (by decide) rfl ?_
  refine jv_iconst (v := 0) B d_S_firstOfRun_2 (by decide) ?_
  refine jv_istore_n (lv' := [(3, .int 0), (2, .int 0), (0, .ref (ad 6)), (1, .int v1)]) B d_S_firstOfRun_3 rfl (by decide) rfl ?_
  refine jv_sub [2, 3, 1, 0] rfl ?_
  obtain ⟨n9, h⟩ := h
  exact w_S_firstOfRun_4 X n9 _ _ _ h
theorem c_S_firstOfRun {l : Launch} {D : va_G} {A : Nat → Prop} {ad : Nat → Nat} {cI cA cL : ClassId} {F : va_W} {σ : jS} {v1 : Int32} {post : Int32 → jS → Prop} (h : p_S_firstOfRun σ v1 post) : Met l y_S_firstOfRun (Cond.code y_S_firstOfRun b_S_firstOfRun 4 (some .int) :: wb) (rmk 3 0 0) (jv_Pre D jClasses (jTy cI cA cL) A (cw ad cI cA σ F) [.ref (ad 6), .int v1]) (va_Qi post (jv_End D jClasses (jTy cI cA cL) A (fun σ => cw ad cI cA σ F)) A) 0 0 A :=
  jv_ofB (by decide) (Nat.le_of_ble_eq_true rfl) (fun p e s m below meth c X => w_S_firstOfRun_0 X h)
set_option maxRecDepth 100000 in
theorem w_R_state_0 (X : jv_C p s m args meth c b_R_state 2 (some .int) y_R_state wb D jClasses (jTy cI cA cL) A) {post : Int32 → jS → Prop} {σ : jS} {v1 : Int32} (h : p_R_state σ v1 post) : jv_V p l e (rmk 2 0 0) s m args below meth c D jClasses A 2 0 0 (MQ below (va_Qi post (jv_End D jClasses (jTy cI cA cL) A (fun σ => cw ad cI cA σ F)) A) args s 0 0 A) (cw ad cI cA σ F) [(0, .ref (ad 0)), (1, .int v1)] 0 [] := by
  obtain ⟨B, hml, hown, hts, hK, hA, hr, hlk, hnm⟩ := id X
  unfold p_R_state at h
  refine jv_aload_n B d_R_state_0 rfl 0 rfl ?_
  refine fg_R_copier B hts hown hK d_R_state_1 ?_
  refine jv_civ (As := []) B hml hown hts hK hA (c_K_goesOn (ad := ad) (cI := cI) (cA := cA) (cL := cL) (F := F) h) (cwV 0 hts g_R_88 rfl rfl rfl hd_K_goesOn ⟨Nat.le_of_ble_eq_true rfl, Nat.le_of_ble_eq_true rfl⟩) 8 0 rfl rfl rfl rfl (Nat.le_of_ble_eq_true rfl) d_R_state_4 ⟨Nat.le_of_ble_eq_true rfl, Nat.le_of_ble_eq_true rfl⟩ rfl (fun r2 σ1 h => ?_)
  refine jv_if_eq (tgt := 21) B d_R_state_7 (by decide) (fun hc => ?_) (fun hc => ?_)
  · replace h := h.1 hc
    refine jv_iconst (v := (-1)) B d_R_state_21 (by decide) ?_
    exact jv_iret B hr rfl hlk hK _ rfl h d_R_state_22
  · replace h := h.2 hc
    refine jv_aload_n B d_R_state_10 rfl 0 rfl ?_
    refine fg_R_map B hts hown hK d_R_state_11 ?_
    refine jv_iload_n B d_R_state_14 rfl 1 rfl ?_
    refine jv_civ (As := [.int v1]) B hml hown hts hK hA (c_S_stateOf (ad := ad) (cI := cI) (cA := cA) (cL := cL) (F := F) h) (cwV 1 hts g_R_129 rfl rfl rfl hd_S_stateOf ⟨Nat.le_of_ble_eq_true rfl, Nat.le_of_ble_eq_true rfl⟩) 6 3 rfl rfl rfl rfl (Nat.le_of_ble_eq_true rfl) d_R_state_15 ⟨Nat.le_of_ble_eq_true rfl, Nat.le_of_ble_eq_true rfl⟩ rfl (fun r4 σ3 h => ?_)
    refine jv_goto (tgt := 22) B d_R_state_18 (by decide) ?_
    exact jv_iret B hr rfl hlk hK _ rfl h d_R_state_22
theorem c_R_state {l : Launch} {D : va_G} {A : Nat → Prop} {ad : Nat → Nat} {cI cA cL : ClassId} {F : va_W} {σ : jS} {v1 : Int32} {post : Int32 → jS → Prop} (h : p_R_state σ v1 post) : Met l y_R_state (Cond.code y_R_state b_R_state 2 (some .int) :: wb) (rmk 2 0 0) (jv_Pre D jClasses (jTy cI cA cL) A (cw ad cI cA σ F) [.ref (ad 0), .int v1]) (va_Qi post (jv_End D jClasses (jTy cI cA cL) A (fun σ => cw ad cI cA σ F)) A) 0 0 A :=
  jv_ofB (by decide) (Nat.le_of_ble_eq_true rfl) (fun p e s m below meth c X => w_R_state_0 X h)
set_option maxRecDepth 100000 in
theorem w_R_count_0 (X : jv_C p s m args meth c b_R_count 2 (some .int) y_R_count wb D jClasses (jTy cI cA cL) A) {post : Int32 → jS → Prop} {σ : jS} {v1 : Int32} (h : p_R_count σ v1 post) : jv_V p l e (rmk 2 0 0) s m args below meth c D jClasses A 2 0 0 (MQ below (va_Qi post (jv_End D jClasses (jTy cI cA cL) A (fun σ => cw ad cI cA σ F)) A) args s 0 0 A) (cw ad cI cA σ F) [(0, .ref (ad 0)), (1, .int v1)] 0 [] := by
  obtain ⟨B, hml, hown, hts, hK, hA, hr, hlk, hnm⟩ := id X
  unfold p_R_count at h
  refine jv_aload_n B d_R_count_0 rfl 0 rfl ?_
  refine fg_R_copier B hts hown hK d_R_count_1 ?_
  refine jv_civ (As := []) B hml hown hts hK hA (c_K_goesOn (ad := ad) (cI := cI) (cA := cA) (cL := cL) (F := F) h) (cwV 0 hts g_R_88 rfl rfl rfl hd_K_goesOn ⟨Nat.le_of_ble_eq_true rfl, Nat.le_of_ble_eq_true rfl⟩) 8 0 rfl rfl rfl rfl (Nat.le_of_ble_eq_true rfl) d_R_count_4 ⟨Nat.le_of_ble_eq_true rfl, Nat.le_of_ble_eq_true rfl⟩ rfl (fun r2 σ1 h => ?_)
  refine jv_if_eq (tgt := 21) B d_R_count_7 (by decide) (fun hc => ?_) (fun hc => ?_)
  · replace h := h.1 hc
    refine jv_iconst (v := 0) B d_R_count_21 (by decide) ?_
    exact jv_iret B hr rfl hlk hK _ rfl h d_R_count_22
  · replace h := h.2 hc
    refine jv_aload_n B d_R_count_10 rfl 0 rfl ?_
    refine fg_R_map B hts hown hK d_R_count_11 ?_
    refine jv_iload_n B d_R_count_14 rfl 1 rfl ?_
    refine jv_civ (As := [.int v1]) B hml hown hts hK hA (c_S_countOf (ad := ad) (cI := cI) (cA := cA) (cL := cL) (F := F) h) (cwV 1 hts g_R_139 rfl rfl rfl hd_S_countOf ⟨Nat.le_of_ble_eq_true rfl, Nat.le_of_ble_eq_true rfl⟩) 6 3 rfl rfl rfl rfl (Nat.le_of_ble_eq_true rfl) d_R_count_15 ⟨Nat.le_of_ble_eq_true rfl, Nat.le_of_ble_eq_true rfl⟩ rfl (fun r4 σ3 h => ?_)
    refine jv_goto (tgt := 22) B d_R_count_18 (by decide) ?_
    exact jv_iret B hr rfl hlk hK _ rfl h d_R_count_22
theorem c_R_count {l : Launch} {D : va_G} {A : Nat → Prop} {ad : Nat → Nat} {cI cA cL : ClassId} {F : va_W} {σ : jS} {v1 : Int32} {post : Int32 → jS → Prop} (h : p_R_count σ v1 post) : Met l y_R_count (Cond.code y_R_count b_R_count 2 (some .int) :: wb) (rmk 2 0 0) (jv_Pre D jClasses (jTy cI cA cL) A (cw ad cI cA σ F) [.ref (ad 0), .int v1]) (va_Qi post (jv_End D jClasses (jTy cI cA cL) A (fun σ => cw ad cI cA σ F)) A) 0 0 A :=
  jv_ofB (by decide) (Nat.le_of_ble_eq_true rfl) (fun p e s m below meth c X => w_R_count_0 X h)
set_option maxRecDepth 100000 in
theorem w_R_part_22 (X : jv_C p s m args meth c b_R_part 4 (some .int) y_R_part wb D jClasses (jTy cI cA cL) A) {post : Int32 → jS → Prop} {v1 v2 : Int32} {σ : jS} {y0 : Int32} (h : p_R_part_22 post v1 v2 σ y0) : jv_V p l e (rmk 4 0 0) s m args below meth c D jClasses A 4 0 0 (MQ below (va_Qi post (jv_End D jClasses (jTy cI cA cL) A (fun σ => cw ad cI cA σ F)) A) args s 0 0 A) (cw ad cI cA σ F) [(0, .ref (ad 0)), (2, .int v2)] 22 [.int y0] := by
  obtain ⟨B, hml, hown, hts, hK, hA, hr, hlk, hnm⟩ := id X
  unfold p_R_part_22 at h
  refine jv_istore_n (lv' := [(3, .int y0), (0, .ref (ad 0)), (2, .int v2)]) B d_R_part_22 rfl (by decide) rfl ?_
  refine jv_iload_n B d_R_part_23 rfl 0 rfl ?_
  refine jv_iconst (v := (-1)) B d_R_part_24 (by decide) ?_
  refine jv_icmp_ne (tgt := 30) B d_R_part_25 (by decide) (fun hc => ?_) (fun hc => ?_)
  · replace h := h.1 hc
    refine jv_iload_n B d_R_part_30 rfl 2 rfl ?_
    refine jv_tsw (n := 3) (tg := fun j => match j with | 0 => 56 | 1 => 58 | 2 => 71 | _ => 80) (tgd := 80) B d_R_part_31 (by decide) (by decide) (by decide) (fun j hj hc => ?_) (fun hc => ?_)
    · match j, hj with
      | 0, _ =>
        replace h := h.1 hc
        refine jv_iload_n B d_R_part_56 rfl 0 rfl ?_
        exact jv_iret B hr rfl hlk hK _ rfl h d_R_part_57
      | 1, _ =>
        replace h := h.2.1 hc
        refine jv_aload_n B d_R_part_58 rfl 1 rfl ?_
        refine fg_R_map B hts hown hK d_R_part_59 ?_
        refine jv_iload_n B d_R_part_62 rfl 0 rfl ?_
        refine jv_bipush (v := 64) B d_R_part_63 (by decide) ?_
        refine jv_civ (As := [.int y0, .int 64]) B hml hown hts hK hA (c_S_behindStretch (ad := ad) (cI := cI) (cA := cA) (cL := cL) (F := F) h) (cwV 2 hts g_R_145 rfl rfl rfl hd_S_behindStretch ⟨Nat.le_of_ble_eq_true rfl, Nat.le_of_ble_eq_true rfl⟩) 6 3 rfl rfl rfl rfl (Nat.le_of_ble_eq_true rfl) d_R_part_65 ⟨Nat.le_of_ble_eq_true rfl, Nat.le_of_ble_eq_true rfl⟩ rfl (fun r4 σ3 h => ?_)
        refine jv_iload_n B d_R_part_68 rfl 0 rfl ?_
        refine jv_isub B d_R_part_69 ?_
        exact jv_iret B hr rfl hlk hK _ rfl h d_R_part_70
      | 2, _ =>
        replace h := h.2.2.1 hc
        refine jv_aload_n B d_R_part_71 rfl 1 rfl ?_
        refine fg_R_map B hts hown hK d_R_part_72 ?_
        refine jv_iload_n B d_R_part_75 rfl 0 rfl ?_
        refine jv_civ (As := [.int y0]) B hml hown hts hK hA (c_S_stateOf (ad := ad) (cI := cI) (cA := cA) (cL := cL) (F := F) h) (cwV 1 hts g_R_129 rfl rfl rfl hd_S_stateOf ⟨Nat.le_of_ble_eq_true rfl, Nat.le_of_ble_eq_true rfl⟩) 6 3 rfl rfl rfl rfl (Nat.le_of_ble_eq_true rfl) d_R_part_76 ⟨Nat.le_of_ble_eq_true rfl, Nat.le_of_ble_eq_true rfl⟩ rfl (fun r6 σ5 h => ?_)
        exact jv_iret B hr rfl hlk hK _ rfl h d_R_part_79
      | j + 3, hj => exact absurd hj (by omega)
    · replace h := h.2.2.2 hc
      refine jv_iconst (v := (-1)) B d_R_part_80 (by decide) ?_
      exact jv_iret B hr rfl hlk hK _ rfl h d_R_part_81
  · replace h := h.2 hc
    refine jv_iconst (v := (-1)) B d_R_part_28 (by decide) ?_
    exact jv_iret B hr rfl hlk hK _ rfl h d_R_part_29
set_option maxRecDepth 100000 in
theorem w_R_part_0 (X : jv_C p s m args meth c b_R_part 4 (some .int) y_R_part wb D jClasses (jTy cI cA cL) A) {post : Int32 → jS → Prop} {σ : jS} {v1 v2 : Int32} (h : p_R_part σ v1 v2 post) : jv_V p l e (rmk 4 0 0) s m args below meth c D jClasses A 4 0 0 (MQ below (va_Qi post (jv_End D jClasses (jTy cI cA cL) A (fun σ => cw ad cI cA σ F)) A) args s 0 0 A) (cw ad cI cA σ F) [(0, .ref (ad 0)), (1, .int v1), (2, .int v2)] 0 [] := by
  obtain ⟨B, hml, hown, hts, hK, hA, hr, hlk, hnm⟩ := id X
  unfold p_R_part at h
  refine jv_aload_n B d_R_part_0 rfl 0 rfl ?_
  refine fg_R_copier B hts hown hK d_R_part_1 ?_
  refine jv_civ (As := []) B hml hown hts hK hA (c_K_goesOn (ad := ad) (cI := cI) (cA := cA) (cL := cL) (F := F) h) (cwV 0 hts g_R_88 rfl rfl rfl hd_K_goesOn ⟨Nat.le_of_ble_eq_true rfl, Nat.le_of_ble_eq_true rfl⟩) 8 0 rfl rfl rfl rfl (Nat.le_of_ble_eq_true rfl) d_R_part_4 ⟨Nat.le_of_ble_eq_true rfl, Nat.le_of_ble_eq_true rfl⟩ rfl (fun r2 σ1 h => ?_)
  refine jv_if_eq (tgt := 21) B d_R_part_7 (by decide) (fun hc => ?_) (fun hc => ?_)
  · replace h := h.1 hc
    refine jv_iconst (v := (-1)) B d_R_part_21 (by decide) ?_
    refine jv_sub [0, 2] rfl ?_
    exact w_R_part_22 X h
  · replace h := h.2 hc
    refine jv_aload_n B d_R_part_10 rfl 0 rfl ?_
    refine fg_R_map B hts hown hK d_R_part_11 ?_
    refine jv_iload_n B d_R_part_14 rfl 1 rfl ?_
    refine jv_civ (As := [.int v1]) B hml hown hts hK hA (c_S_firstOfRun (ad := ad) (cI := cI) (cA := cA) (cL := cL) (F := F) h) (cwV 1 hts g_R_142 rfl rfl rfl hd_S_firstOfRun ⟨Nat.le_of_ble_eq_true rfl, Nat.le_of_ble_eq_true rfl⟩) 6 3 rfl rfl rfl rfl (Nat.le_of_ble_eq_true rfl) d_R_part_15 ⟨Nat.le_of_ble_eq_true rfl, Nat.le_of_ble_eq_true rfl⟩ rfl (fun r8 σ7 h => ?_)
    refine jv_goto (tgt := 22) B d_R_part_18 (by decide) ?_
    refine jv_sub [0, 2] rfl ?_
    exact w_R_part_22 X h
theorem c_R_part {l : Launch} {D : va_G} {A : Nat → Prop} {ad : Nat → Nat} {cI cA cL : ClassId} {F : va_W} {σ : jS} {v1 v2 : Int32} {post : Int32 → jS → Prop} (h : p_R_part σ v1 v2 post) : Met l y_R_part (Cond.code y_R_part b_R_part 4 (some .int) :: wb) (rmk 4 0 0) (jv_Pre D jClasses (jTy cI cA cL) A (cw ad cI cA σ F) [.ref (ad 0), .int v1, .int v2]) (va_Qi post (jv_End D jClasses (jTy cI cA cL) A (fun σ => cw ad cI cA σ F)) A) 0 0 A :=
  jv_ofB (by decide) (Nat.le_of_ble_eq_true rfl) (fun p e s m below meth c X => w_R_part_0 X h)
set_option maxRecDepth 100000 in
theorem w_R_phase_0 (X : jv_C p s m args meth c b_R_phase 1 (some .int) y_R_phase wb D jClasses (jTy cI cA cL) A) {post : Int32 → jS → Prop} {σ : jS} (h : p_R_phase σ post) : jv_V p l e (rmk 2 0 0) s m args below meth c D jClasses A 1 0 0 (MQ below (va_Qi post (jv_End D jClasses (jTy cI cA cL) A (fun σ => cw ad cI cA σ F)) A) args s 0 0 A) (cw ad cI cA σ F) [(0, .ref (ad 0))] 0 [] := by
  obtain ⟨B, hml, hown, hts, hK, hA, hr, hlk, hnm⟩ := id X
  unfold p_R_phase at h
  refine jv_aload_n B d_R_phase_0 rfl 0 rfl ?_
  refine fg_R_copier B hts hown hK d_R_phase_1 ?_
  refine jv_civ (As := []) B hml hown hts hK hA (c_K_currentPhase (ad := ad) (cI := cI) (cA := cA) (cL := cL) (F := F) h) (cwV 0 hts g_R_74 rfl rfl rfl hd_K_currentPhase ⟨Nat.le_of_ble_eq_true rfl, Nat.le_of_ble_eq_true rfl⟩) 8 0 rfl rfl rfl rfl (Nat.le_of_ble_eq_true rfl) d_R_phase_4 ⟨Nat.le_of_ble_eq_true rfl, Nat.le_of_ble_eq_true rfl⟩ rfl (fun r2 σ1 h => ?_)
  exact jv_iret B hr rfl hlk hK _ rfl h d_R_phase_7
theorem c_R_phase {l : Launch} {D : va_G} {A : Nat → Prop} {ad : Nat → Nat} {cI cA cL : ClassId} {F : va_W} {σ : jS} {post : Int32 → jS → Prop} (h : p_R_phase σ post) : Met l y_R_phase (Cond.code y_R_phase b_R_phase 1 (some .int) :: wb) (rmk 2 0 0) (jv_Pre D jClasses (jTy cI cA cL) A (cw ad cI cA σ F) [.ref (ad 0)]) (va_Qi post (jv_End D jClasses (jTy cI cA cL) A (fun σ => cw ad cI cA σ F)) A) 0 0 A :=
  jv_ofB (by decide) (Nat.le_of_ble_eq_true rfl) (fun p e s m below meth c X => w_R_phase_0 X h)
set_option maxRecDepth 100000 in
theorem w_R_out_0 (X : jv_C p s m args meth c b_R_out 2 (some .int) y_R_out wb D jClasses (jTy cI cA cL) A) {post : Int32 → jS → Prop} {σ : jS} {v1 : Int32} (h : p_R_out σ v1 post) : jv_V p l e (rmk 3 0 0) s m args below meth c D jClasses A 2 0 0 (MQ below (va_Qi post (jv_End D jClasses (jTy cI cA cL) A (fun σ => cw ad cI cA σ F)) A) args s 0 0 A) (cw ad cI cA σ F) [(0, .ref (ad 0)), (1, .int v1)] 0 [] := by
  obtain ⟨B, hml, hown, hts, hK, hA, hr, hlk, hnm⟩ := id X
  unfold p_R_out at h
  refine jv_aload_n B d_R_out_0 rfl 0 rfl ?_
  refine fg_R_disk B hts hown hK d_R_out_1 ?_
  refine jv_iload_n B d_R_out_4 rfl 1 rfl ?_
  refine jv_civ (As := [.int v1]) B hml hown hts hK hA (c_D_wordOut (ad := ad) (cI := cI) (cA := cA) (cL := cL) (F := F) h) (cwV 1 hts g_R_149 rfl rfl rfl hd_D_wordOut ⟨Nat.le_of_ble_eq_true rfl, Nat.le_of_ble_eq_true rfl⟩) 1 1 rfl rfl rfl rfl (Nat.le_of_ble_eq_true rfl) d_R_out_5 ⟨Nat.le_of_ble_eq_true rfl, Nat.le_of_ble_eq_true rfl⟩ rfl (fun r2 σ1 h => ?_)
  exact jv_iret B hr rfl hlk hK _ rfl h d_R_out_8
theorem c_R_out {l : Launch} {D : va_G} {A : Nat → Prop} {ad : Nat → Nat} {cI cA cL : ClassId} {F : va_W} {σ : jS} {v1 : Int32} {post : Int32 → jS → Prop} (h : p_R_out σ v1 post) : Met l y_R_out (Cond.code y_R_out b_R_out 2 (some .int) :: wb) (rmk 3 0 0) (jv_Pre D jClasses (jTy cI cA cL) A (cw ad cI cA σ F) [.ref (ad 0), .int v1]) (va_Qi post (jv_End D jClasses (jTy cI cA cL) A (fun σ => cw ad cI cA σ F)) A) 0 0 A :=
  jv_ofB (by decide) (Nat.le_of_ble_eq_true rfl) (fun p e s m below meth c X => w_R_out_0 X h)
set_option maxRecDepth 100000 in
theorem w_R_reads_0 (X : jv_C p s m args meth c b_R_reads 2 (some .int) y_R_reads wb D jClasses (jTy cI cA cL) A) {post : Int32 → jS → Prop} {σ : jS} {v1 : Int32} (h : p_R_reads σ v1 post) : jv_V p l e (rmk 3 0 0) s m args below meth c D jClasses A 2 0 0 (MQ below (va_Qi post (jv_End D jClasses (jTy cI cA cL) A (fun σ => cw ad cI cA σ F)) A) args s 0 0 A) (cw ad cI cA σ F) [(0, .ref (ad 0)), (1, .int v1)] 0 [] := by
  obtain ⟨B, hml, hown, hts, hK, hA, hr, hlk, hnm⟩ := id X
  unfold p_R_reads at h
  refine jv_aload_n B d_R_reads_0 rfl 0 rfl ?_
  refine fg_R_disk B hts hown hK d_R_reads_1 ?_
  refine jv_iload_n B d_R_reads_4 rfl 1 rfl ?_
  refine jv_civ (As := [.int v1]) B hml hown hts hK hA (c_D_readsOf (ad := ad) (cI := cI) (cA := cA) (cL := cL) (F := F) h) (cwV 1 hts g_R_152 rfl rfl rfl hd_D_readsOf ⟨Nat.le_of_ble_eq_true rfl, Nat.le_of_ble_eq_true rfl⟩) 1 1 rfl rfl rfl rfl (Nat.le_of_ble_eq_true rfl) d_R_reads_5 ⟨Nat.le_of_ble_eq_true rfl, Nat.le_of_ble_eq_true rfl⟩ rfl (fun r2 σ1 h => ?_)
  exact jv_iret B hr rfl hlk hK _ rfl h d_R_reads_8
theorem c_R_reads {l : Launch} {D : va_G} {A : Nat → Prop} {ad : Nat → Nat} {cI cA cL : ClassId} {F : va_W} {σ : jS} {v1 : Int32} {post : Int32 → jS → Prop} (h : p_R_reads σ v1 post) : Met l y_R_reads (Cond.code y_R_reads b_R_reads 2 (some .int) :: wb) (rmk 3 0 0) (jv_Pre D jClasses (jTy cI cA cL) A (cw ad cI cA σ F) [.ref (ad 0), .int v1]) (va_Qi post (jv_End D jClasses (jTy cI cA cL) A (fun σ => cw ad cI cA σ F)) A) 0 0 A :=
  jv_ofB (by decide) (Nat.le_of_ble_eq_true rfl) (fun p e s m below meth c X => w_R_reads_0 X h)
set_option maxRecDepth 100000 in
theorem w_R_made_0 (X : jv_C p s m args meth c b_R_made 2 (some .int) y_R_made wb D jClasses (jTy cI cA cL) A) {post : Int32 → jS → Prop} {σ : jS} {v1 : Int32} (h : p_R_made σ v1 post) : jv_V p l e (rmk 2 0 0) s m args below meth c D jClasses A 2 0 0 (MQ below (va_Qi post (jv_End D jClasses (jTy cI cA cL) A (fun σ => cw ad cI cA σ F)) A) args s 0 0 A) (cw ad cI cA σ F) [(0, .ref (ad 0)), (1, .int v1)] 0 [] := by
  obtain ⟨B, hml, hown, hts, hK, hA, hr, hlk, hnm⟩ := id X
  unfold p_R_made at h
  refine jv_aload_n B d_R_made_0 rfl 0 rfl ?_
  refine fg_R_disk B hts hown hK d_R_made_1 ?_
  refine jv_iload_n B d_R_made_4 rfl 1 rfl ?_
  refine jv_civ (As := [.int v1]) B hml hown hts hK hA (c_D_stretchesRead (ad := ad) (cI := cI) (cA := cA) (cL := cL) (F := F) h) (cwV 1 hts g_R_155 rfl rfl rfl hd_D_stretchesRead ⟨Nat.le_of_ble_eq_true rfl, Nat.le_of_ble_eq_true rfl⟩) 1 1 rfl rfl rfl rfl (Nat.le_of_ble_eq_true rfl) d_R_made_5 ⟨Nat.le_of_ble_eq_true rfl, Nat.le_of_ble_eq_true rfl⟩ rfl (fun r2 σ1 h => ?_)
  exact jv_iret B hr rfl hlk hK _ rfl h d_R_made_8
theorem c_R_made {l : Launch} {D : va_G} {A : Nat → Prop} {ad : Nat → Nat} {cI cA cL : ClassId} {F : va_W} {σ : jS} {v1 : Int32} {post : Int32 → jS → Prop} (h : p_R_made σ v1 post) : Met l y_R_made (Cond.code y_R_made b_R_made 2 (some .int) :: wb) (rmk 2 0 0) (jv_Pre D jClasses (jTy cI cA cL) A (cw ad cI cA σ F) [.ref (ad 0), .int v1]) (va_Qi post (jv_End D jClasses (jTy cI cA cL) A (fun σ => cw ad cI cA σ F)) A) 0 0 A :=
  jv_ofB (by decide) (Nat.le_of_ble_eq_true rfl) (fun p e s m below meth c X => w_R_made_0 X h)
set_option maxRecDepth 100000 in
theorem w_R_image_0 (X : jv_C p s m args meth c b_R_image 3 (some .int) y_R_image wb D jClasses (jTy cI cA cL) A) {post : Int32 → jS → Prop} {σ : jS} {v1 v2 : Int32} (h : p_R_image σ v1 v2 post) : jv_V p l e (rmk 3 0 0) s m args below meth c D jClasses A 3 0 0 (MQ below (va_Qi post (jv_End D jClasses (jTy cI cA cL) A (fun σ => cw ad cI cA σ F)) A) args s 0 0 A) (cw ad cI cA σ F) [(0, .ref (ad 0)), (1, .int v1), (2, .int v2)] 0 [] := by
  obtain ⟨B, hml, hown, hts, hK, hA, hr, hlk, hnm⟩ := id X
  unfold p_R_image at h
  refine jv_aload_n B d_R_image_0 rfl 0 rfl ?_
  refine fg_R_saves B hts hown hK d_R_image_1 ?_
  refine jv_iload_n B d_R_image_4 rfl 1 rfl ?_
  refine jv_iload_n B d_R_image_5 rfl 2 rfl ?_
  refine jv_civ (As := [.int v1, .int v2]) B hml hown hts hK hA (c_V_byteAt (ad := ad) (cI := cI) (cA := cA) (cL := cL) (F := F) h) (cwV 2 hts g_R_159 rfl rfl rfl hd_V_byteAt ⟨Nat.le_of_ble_eq_true rfl, Nat.le_of_ble_eq_true rfl⟩) 9 2 rfl rfl rfl rfl (Nat.le_of_ble_eq_true rfl) d_R_image_6 ⟨Nat.le_of_ble_eq_true rfl, Nat.le_of_ble_eq_true rfl⟩ rfl (fun r2 σ1 h => ?_)
  exact jv_iret B hr rfl hlk hK _ rfl h d_R_image_9
theorem c_R_image {l : Launch} {D : va_G} {A : Nat → Prop} {ad : Nat → Nat} {cI cA cL : ClassId} {F : va_W} {σ : jS} {v1 v2 : Int32} {post : Int32 → jS → Prop} (h : p_R_image σ v1 v2 post) : Met l y_R_image (Cond.code y_R_image b_R_image 3 (some .int) :: wb) (rmk 3 0 0) (jv_Pre D jClasses (jTy cI cA cL) A (cw ad cI cA σ F) [.ref (ad 0), .int v1, .int v2]) (va_Qi post (jv_End D jClasses (jTy cI cA cL) A (fun σ => cw ad cI cA σ F)) A) 0 0 A :=
  jv_ofB (by decide) (Nat.le_of_ble_eq_true rfl) (fun p e s m below meth c X => w_R_image_0 X h)
end JM
end

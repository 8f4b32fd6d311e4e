section
-- ===== PART A: goes FIRST, ahead of the names: the tables' words, and 'selects' of the private methods out of them =====
/-- a private method of a class that the tables say can be made, by its rows of tables_1 -/
def lw_okq (q : MethodName × Nat) : Prop := (q.1.cls ≠ "java/lang/invoke/MethodHandle" ∧ q.1.cls ≠ "java/lang/invoke/VarHandle") ∧ Cond.instantiable q.1.cls q.2 ∈ tables_1 ∧ Cond.privateMethod q.1 ∈ tables_1 ∧ Cond.instanceMethod q.1 ∈ tables_1
theorem lw_p0 : lw_okq (⟨"java/lang/Throwable", "fillInStackTrace", "(I)Ljava/lang/Throwable;"⟩, 6) := ⟨⟨by decide +kernel, by decide +kernel⟩, List.mem_of_getElem? (i := 258) (by decide +kernel), List.mem_of_getElem? (i := 256) (by decide +kernel), List.mem_of_getElem? (i := 257) (by decide +kernel)⟩
theorem lw_p1 : lw_okq (⟨"RescueDesk$Copier", "readIn", "(I)Z"⟩, 8) := ⟨⟨by decide +kernel, by decide +kernel⟩, List.mem_of_getElem? (i := 66) (by decide +kernel), List.mem_of_getElem? (i := 382) (by decide +kernel), List.mem_of_getElem? (i := 383) (by decide +kernel)⟩
theorem lw_p2 : lw_okq (⟨"RescueDesk$Copier", "readForward", "(Z)Z"⟩, 8) := ⟨⟨by decide +kernel, by decide +kernel⟩, List.mem_of_getElem? (i := 66) (by decide +kernel), List.mem_of_getElem? (i := 386) (by decide +kernel), List.mem_of_getElem? (i := 387) (by decide +kernel)⟩
theorem lw_p3 : lw_okq (⟨"RescueDesk$Copier", "rescue", "(III)Z"⟩, 8) := ⟨⟨by decide +kernel, by decide +kernel⟩, List.mem_of_getElem? (i := 66) (by decide +kernel), List.mem_of_getElem? (i := 395) (by decide +kernel), List.mem_of_getElem? (i := 396) (by decide +kernel)⟩
theorem lw_p4 : lw_okq (⟨"RescueDesk$Copier", "takeLeap", "(Z)I"⟩, 8) := ⟨⟨by decide +kernel, by decide +kernel⟩, List.mem_of_getElem? (i := 66) (by decide +kernel), List.mem_of_getElem? (i := 410) (by decide +kernel), List.mem_of_getElem? (i := 411) (by decide +kernel)⟩
theorem lw_p5 : lw_okq (⟨"RescueDesk$Copier", "readBackward", "()Z"⟩, 8) := ⟨⟨by decide +kernel, by decide +kernel⟩, List.mem_of_getElem? (i := 66) (by decide +kernel), List.mem_of_getElem? (i := 415) (by decide +kernel), List.mem_of_getElem? (i := 416) (by decide +kernel)⟩
theorem lw_p6 : lw_okq (⟨"RescueDesk$Copier", "trim", "()Z"⟩, 8) := ⟨⟨by decide +kernel, by decide +kernel⟩, List.mem_of_getElem? (i := 66) (by decide +kernel), List.mem_of_getElem? (i := 427) (by decide +kernel), List.mem_of_getElem? (i := 428) (by decide +kernel)⟩
theorem lw_p7 : lw_okq (⟨"RescueDesk$Copier", "scrape", "()Z"⟩, 8) := ⟨⟨by decide +kernel, by decide +kernel⟩, List.mem_of_getElem? (i := 66) (by decide +kernel), List.mem_of_getElem? (i := 431) (by decide +kernel), List.mem_of_getElem? (i := 432) (by decide +kernel)⟩
theorem lw_p8 : lw_okq (⟨"RescueDesk$Copier", "retry", "()Z"⟩, 8) := ⟨⟨by decide +kernel, by decide +kernel⟩, List.mem_of_getElem? (i := 66) (by decide +kernel), List.mem_of_getElem? (i := 435) (by decide +kernel), List.mem_of_getElem? (i := 436) (by decide +kernel)⟩
theorem lw_p9 : lw_okq (⟨"RescueDesk$Copier", "nextBad", "()I"⟩, 8) := ⟨⟨by decide +kernel, by decide +kernel⟩, List.mem_of_getElem? (i := 66) (by decide +kernel), List.mem_of_getElem? (i := 439) (by decide +kernel), List.mem_of_getElem? (i := 440) (by decide +kernel)⟩
theorem lw_p10 : lw_okq (⟨"RescueDesk$Copier", "goesUp", "(I)Z"⟩, 8) := ⟨⟨by decide +kernel, by decide +kernel⟩, List.mem_of_getElem? (i := 66) (by decide +kernel), List.mem_of_getElem? (i := 443) (by decide +kernel), List.mem_of_getElem? (i := 444) (by decide +kernel)⟩
theorem lw_p11 : lw_okq (⟨"RescueDesk$Copier", "enterRound", "(I)V"⟩, 8) := ⟨⟨by decide +kernel, by decide +kernel⟩, List.mem_of_getElem? (i := 66) (by decide +kernel), List.mem_of_getElem? (i := 447) (by decide +kernel), List.mem_of_getElem? (i := 448) (by decide +kernel)⟩
theorem lw_p12 : lw_okq (⟨"RescueDesk$Saves", "behindNumber", "(I)I"⟩, 3) := ⟨⟨by decide +kernel, by decide +kernel⟩, List.mem_of_getElem? (i := 97) (by decide +kernel), List.mem_of_getElem? (i := 470) (by decide +kernel), List.mem_of_getElem? (i := 471) (by decide +kernel)⟩
theorem lw_p13 : lw_okq (⟨"RescueDesk$Saves", "draw", "(LRescueDesk$SectorMap;)I"⟩, 3) := ⟨⟨by decide +kernel, by decide +kernel⟩, List.mem_of_getElem? (i := 97) (by decide +kernel), List.mem_of_getElem? (i := 474) (by decide +kernel), List.mem_of_getElem? (i := 475) (by decide +kernel)⟩
theorem lw_p14 : lw_okq (⟨"RescueDesk$Saves", "placeOfRun", "(I)I"⟩, 3) := ⟨⟨by decide +kernel, by decide +kernel⟩, List.mem_of_getElem? (i := 97) (by decide +kernel), List.mem_of_getElem? (i := 480) (by decide +kernel), List.mem_of_getElem? (i := 481) (by decide +kernel)⟩
theorem lw_p15 : lw_okq (⟨"RescueDesk$Saves", "sumBefore", "([II)I"⟩, 3) := ⟨⟨by decide +kernel, by decide +kernel⟩, List.mem_of_getElem? (i := 97) (by decide +kernel), List.mem_of_getElem? (i := 486) (by decide +kernel), List.mem_of_getElem? (i := 487) (by decide +kernel)⟩
def lw_privs_1 : List (MethodName × Nat) := [(⟨"java/lang/Throwable", "fillInStackTrace", "(I)Ljava/lang/Throwable;"⟩, 6), (⟨"RescueDesk$Copier", "readIn", "(I)Z"⟩, 8), (⟨"RescueDesk$Copier", "readForward", "(Z)Z"⟩, 8), (⟨"RescueDesk$Copier", "rescue", "(III)Z"⟩, 8), (⟨"RescueDesk$Copier", "takeLeap", "(Z)I"⟩, 8), (⟨"RescueDesk$Copier", "readBackward", "()Z"⟩, 8), (⟨"RescueDesk$Copier", "trim", "()Z"⟩, 8), (⟨"RescueDesk$Copier", "scrape", "()Z"⟩, 8), (⟨"RescueDesk$Copier", "retry", "()Z"⟩, 8), (⟨"RescueDesk$Copier", "nextBad", "()I"⟩, 8), (⟨"RescueDesk$Copier", "goesUp", "(I)Z"⟩, 8), (⟨"RescueDesk$Copier", "enterRound", "(I)V"⟩, 8), (⟨"RescueDesk$Saves", "behindNumber", "(I)I"⟩, 3), (⟨"RescueDesk$Saves", "draw", "(LRescueDesk$SectorMap;)I"⟩, 3), (⟨"RescueDesk$Saves", "placeOfRun", "(I)I"⟩, 3), (⟨"RescueDesk$Saves", "sumBefore", "([II)I"⟩, 3)]
theorem lw_r1 : ∀ q ∈ lw_privs_1, lw_okq q := List.forall_mem_cons.mpr ⟨lw_p0, List.forall_mem_cons.mpr ⟨lw_p1, List.forall_mem_cons.mpr ⟨lw_p2, List.forall_mem_cons.mpr ⟨lw_p3, List.forall_mem_cons.mpr ⟨lw_p4, List.forall_mem_cons.mpr ⟨lw_p5, List.forall_mem_cons.mpr ⟨lw_p6, List.forall_mem_cons.mpr ⟨lw_p7, List.forall_mem_cons.mpr ⟨lw_p8, List.forall_mem_cons.mpr ⟨lw_p9, List.forall_mem_cons.mpr ⟨lw_p10, List.forall_mem_cons.mpr ⟨lw_p11, List.forall_mem_cons.mpr ⟨lw_p12, List.forall_mem_cons.mpr ⟨lw_p13, List.forall_mem_cons.mpr ⟨lw_p14, List.forall_mem_cons.mpr ⟨lw_p15, fun _ h => absurd h List.not_mem_nil⟩⟩⟩⟩⟩⟩⟩⟩⟩⟩⟩⟩⟩⟩⟩⟩
theorem lw_p16 : lw_okq (⟨"RescueDesk$Saves", "isWhole", "(II)Z"⟩, 3) := ⟨⟨by decide +kernel, by decide +kernel⟩, List.mem_of_getElem? (i := 97) (by decide +kernel), List.mem_of_getElem? (i := 519) (by decide +kernel), List.mem_of_getElem? (i := 520) (by decide +kernel)⟩
theorem lw_p17 : lw_okq (⟨"RescueDesk$Saves", "hasRuns", "(III)Z"⟩, 3) := ⟨⟨by decide +kernel, by decide +kernel⟩, List.mem_of_getElem? (i := 97) (by decide +kernel), List.mem_of_getElem? (i := 524) (by decide +kernel), List.mem_of_getElem? (i := 525) (by decide +kernel)⟩
theorem lw_p18 : lw_okq (⟨"RescueDeskModel", "isSector", "(I)Z"⟩, 21) := ⟨⟨by decide +kernel, by decide +kernel⟩, List.mem_of_getElem? (i := 557) (by decide +kernel), List.mem_of_getElem? (i := 639) (by decide +kernel), List.mem_of_getElem? (i := 640) (by decide +kernel)⟩
theorem lw_p19 : lw_okq (⟨"RescueDeskModel", "enter", "(I)V"⟩, 21) := ⟨⟨by decide +kernel, by decide +kernel⟩, List.mem_of_getElem? (i := 557) (by decide +kernel), List.mem_of_getElem? (i := 647) (by decide +kernel), List.mem_of_getElem? (i := 648) (by decide +kernel)⟩
theorem lw_p20 : lw_okq (⟨"RescueDeskModel", "goesOn", "()Z"⟩, 21) := ⟨⟨by decide +kernel, by decide +kernel⟩, List.mem_of_getElem? (i := 557) (by decide +kernel), List.mem_of_getElem? (i := 655) (by decide +kernel), List.mem_of_getElem? (i := 656) (by decide +kernel)⟩
theorem lw_p21 : lw_okq (⟨"RescueDeskModel", "one", "()I"⟩, 21) := ⟨⟨by decide +kernel, by decide +kernel⟩, List.mem_of_getElem? (i := 557) (by decide +kernel), List.mem_of_getElem? (i := 659) (by decide +kernel), List.mem_of_getElem? (i := 660) (by decide +kernel)⟩
theorem lw_p22 : lw_okq (⟨"RescueDeskModel", "find", "()Z"⟩, 21) := ⟨⟨by decide +kernel, by decide +kernel⟩, List.mem_of_getElem? (i := 557) (by decide +kernel), List.mem_of_getElem? (i := 663) (by decide +kernel), List.mem_of_getElem? (i := 664) (by decide +kernel)⟩
theorem lw_p23 : lw_okq (⟨"RescueDeskModel", "firstIn", "(II)I"⟩, 21) := ⟨⟨by decide +kernel, by decide +kernel⟩, List.mem_of_getElem? (i := 557) (by decide +kernel), List.mem_of_getElem? (i := 667) (by decide +kernel), List.mem_of_getElem? (i := 668) (by decide +kernel)⟩
theorem lw_p24 : lw_okq (⟨"RescueDeskModel", "lastIn", "(II)I"⟩, 21) := ⟨⟨by decide +kernel, by decide +kernel⟩, List.mem_of_getElem? (i := 557) (by decide +kernel), List.mem_of_getElem? (i := 671) (by decide +kernel), List.mem_of_getElem? (i := 672) (by decide +kernel)⟩
theorem lw_p25 : lw_okq (⟨"RescueDeskModel", "findBad", "()I"⟩, 21) := ⟨⟨by decide +kernel, by decide +kernel⟩, List.mem_of_getElem? (i := 557) (by decide +kernel), List.mem_of_getElem? (i := 675) (by decide +kernel), List.mem_of_getElem? (i := 676) (by decide +kernel)⟩
theorem lw_p26 : lw_okq (⟨"RescueDeskModel", "work", "()V"⟩, 21) := ⟨⟨by decide +kernel, by decide +kernel⟩, List.mem_of_getElem? (i := 557) (by decide +kernel), List.mem_of_getElem? (i := 679) (by decide +kernel), List.mem_of_getElem? (i := 680) (by decide +kernel)⟩
theorem lw_p27 : lw_okq (⟨"RescueDeskModel", "reading", "()Z"⟩, 21) := ⟨⟨by decide +kernel, by decide +kernel⟩, List.mem_of_getElem? (i := 557) (by decide +kernel), List.mem_of_getElem? (i := 683) (by decide +kernel), List.mem_of_getElem? (i := 684) (by decide +kernel)⟩
theorem lw_p28 : lw_okq (⟨"RescueDeskModel", "mark", "(I)V"⟩, 21) := ⟨⟨by decide +kernel, by decide +kernel⟩, List.mem_of_getElem? (i := 557) (by decide +kernel), List.mem_of_getElem? (i := 687) (by decide +kernel), List.mem_of_getElem? (i := 688) (by decide +kernel)⟩
theorem lw_p29 : lw_okq (⟨"RescueDeskModel", "trimmed", "(Z)V"⟩, 21) := ⟨⟨by decide +kernel, by decide +kernel⟩, List.mem_of_getElem? (i := 557) (by decide +kernel), List.mem_of_getElem? (i := 691) (by decide +kernel), List.mem_of_getElem? (i := 692) (by decide +kernel)⟩
theorem lw_p30 : lw_okq (⟨"RescueDeskModel", "makeImage", "(I)V"⟩, 21) := ⟨⟨by decide +kernel, by decide +kernel⟩, List.mem_of_getElem? (i := 557) (by decide +kernel), List.mem_of_getElem? (i := 706) (by decide +kernel), List.mem_of_getElem? (i := 707) (by decide +kernel)⟩
theorem lw_p31 : lw_okq (⟨"RescueDeskModel", "put", "(I)V"⟩, 21) := ⟨⟨by decide +kernel, by decide +kernel⟩, List.mem_of_getElem? (i := 557) (by decide +kernel), List.mem_of_getElem? (i := 710) (by decide +kernel), List.mem_of_getElem? (i := 711) (by decide +kernel)⟩
def lw_privs_2 : List (MethodName × Nat) := [(⟨"RescueDesk$Saves", "isWhole", "(II)Z"⟩, 3), (⟨"RescueDesk$Saves", "hasRuns", "(III)Z"⟩, 3), (⟨"RescueDeskModel", "isSector", "(I)Z"⟩, 21), (⟨"RescueDeskModel", "enter", "(I)V"⟩, 21), (⟨"RescueDeskModel", "goesOn", "()Z"⟩, 21), (⟨"RescueDeskModel", "one", "()I"⟩, 21), (⟨"RescueDeskModel", "find", "()Z"⟩, 21), (⟨"RescueDeskModel", "firstIn", "(II)I"⟩, 21), (⟨"RescueDeskModel", "lastIn", "(II)I"⟩, 21), (⟨"RescueDeskModel", "findBad", "()I"⟩, 21), (⟨"RescueDeskModel", "work", "()V"⟩, 21), (⟨"RescueDeskModel", "reading", "()Z"⟩, 21), (⟨"RescueDeskModel", "mark", "(I)V"⟩, 21), (⟨"RescueDeskModel", "trimmed", "(Z)V"⟩, 21), (⟨"RescueDeskModel", "makeImage", "(I)V"⟩, 21), (⟨"RescueDeskModel", "put", "(I)V"⟩, 21)]
theorem lw_r2 : ∀ q ∈ lw_privs_2, lw_okq q := List.forall_mem_cons.mpr ⟨lw_p16, List.forall_mem_cons.mpr ⟨lw_p17, List.forall_mem_cons.mpr ⟨lw_p18, List.forall_mem_cons.mpr ⟨lw_p19, List.forall_mem_cons.mpr ⟨lw_p20, List.forall_mem_cons.mpr ⟨lw_p21, List.forall_mem_cons.mpr ⟨lw_p22, List.forall_mem_cons.mpr ⟨lw_p23, List.forall_mem_cons.mpr ⟨lw_p24, List.forall_mem_cons.mpr ⟨lw_p25, List.forall_mem_cons.mpr ⟨lw_p26, List.forall_mem_cons.mpr ⟨lw_p27, List.forall_mem_cons.mpr ⟨lw_p28, List.forall_mem_cons.mpr ⟨lw_p29, List.forall_mem_cons.mpr ⟨lw_p30, List.forall_mem_cons.mpr ⟨lw_p31, fun _ h => absurd h List.not_mem_nil⟩⟩⟩⟩⟩⟩⟩⟩⟩⟩⟩⟩⟩⟩⟩⟩
theorem lw_p32 : lw_okq (⟨"RescueDeskModel", "runs", "()I"⟩, 21) := ⟨⟨by decide +kernel, by decide +kernel⟩, List.mem_of_getElem? (i := 557) (by decide +kernel), List.mem_of_getElem? (i := 714) (by decide +kernel), List.mem_of_getElem? (i := 715) (by decide +kernel)⟩
theorem lw_p33 : lw_okq (⟨"RescueDeskModel", "endOf", "(I)I"⟩, 21) := ⟨⟨by decide +kernel, by decide +kernel⟩, List.mem_of_getElem? (i := 557) (by decide +kernel), List.mem_of_getElem? (i := 718) (by decide +kernel), List.mem_of_getElem? (i := 719) (by decide +kernel)⟩
theorem lw_p34 : lw_okq (⟨"RescueDeskModel", "write", "(I)V"⟩, 21) := ⟨⟨by decide +kernel, by decide +kernel⟩, List.mem_of_getElem? (i := 557) (by decide +kernel), List.mem_of_getElem? (i := 722) (by decide +kernel), List.mem_of_getElem? (i := 723) (by decide +kernel)⟩
theorem lw_p35 : lw_okq (⟨"RescueDeskModel", "isWhole", "(I)Z"⟩, 21) := ⟨⟨by decide +kernel, by decide +kernel⟩, List.mem_of_getElem? (i := 557) (by decide +kernel), List.mem_of_getElem? (i := 734) (by decide +kernel), List.mem_of_getElem? (i := 735) (by decide +kernel)⟩
theorem lw_p36 : lw_okq (⟨"RescueDeskModel", "at", "(II)I"⟩, 21) := ⟨⟨by decide +kernel, by decide +kernel⟩, List.mem_of_getElem? (i := 557) (by decide +kernel), List.mem_of_getElem? (i := 738) (by decide +kernel), List.mem_of_getElem? (i := 739) (by decide +kernel)⟩
def lw_privs_3 : List (MethodName × Nat) := [(⟨"RescueDeskModel", "runs", "()I"⟩, 21), (⟨"RescueDeskModel", "endOf", "(I)I"⟩, 21), (⟨"RescueDeskModel", "write", "(I)V"⟩, 21), (⟨"RescueDeskModel", "isWhole", "(I)Z"⟩, 21), (⟨"RescueDeskModel", "at", "(II)I"⟩, 21)]
theorem lw_r3 : ∀ q ∈ lw_privs_3, lw_okq q := List.forall_mem_cons.mpr ⟨lw_p32, List.forall_mem_cons.mpr ⟨lw_p33, List.forall_mem_cons.mpr ⟨lw_p34, List.forall_mem_cons.mpr ⟨lw_p35, List.forall_mem_cons.mpr ⟨lw_p36, fun _ h => absurd h List.not_mem_nil⟩⟩⟩⟩⟩
def lw_privs : List (MethodName × Nat) := lw_privs_1 ++ (lw_privs_2 ++ (lw_privs_3))
def lw_tbl : List Cond := k2_sels lw_privs ++ tables_1
theorem lw_privs_ok : ∀ q ∈ lw_privs, lw_okq q := by
  show ∀ q ∈ lw_privs_1 ++ (lw_privs_2 ++ (lw_privs_3)), lw_okq q
  exact List.forall_mem_append.mpr ⟨lw_r1, List.forall_mem_append.mpr ⟨lw_r2, lw_r3⟩⟩
end
section
/-! ===== BEGIN words of one list among another's, by their places ===== -/
theorem goodIn_r {big : List Cond} (ws : List Cond) (ps : List Nat) (hp : ws = ps.filterMap (fun i => big[i]?)) (h : ws.all goodWord = true) : GoodIn big ws := by
  intro w hw
  have h1 := List.all_eq_true.mp h w hw
  rw [hp] at hw
  obtain ⟨i, -, hi⟩ := List.mem_filterMap.mp hw
  have hm : w ∈ big := by first | exact List.mem_of_getElem? hi | exact List.getElem?_mem hi
  exact ⟨hm, good_of_word h1⟩
theorem goodIn_app {big a b : List Cond} (ha : GoodIn big a) (hb : GoodIn big b) : GoodIn big (a ++ b) := fun w h => (List.mem_append.mp h).elim (ha w) (hb w)
theorem goodIn_ca {big a b : List Cond} {c : Cond} (ha : GoodIn big (c :: a)) (hb : GoodIn big b) : GoodIn big (c :: (a ++ b)) := fun w h => (List.mem_cons.mp h).elim (fun e => ha w (List.mem_cons.mpr (Or.inl e))) (fun h => (List.mem_append.mp h).elim (fun h => ha w (List.mem_cons.mpr (Or.inr h))) (hb w))
theorem goodIn_sub {big ws : List Cond} (hm : ∀ w ∈ ws, w ∈ big) (h : ws.all goodWord = true) : GoodIn big ws := fun w hw => ⟨hm w hw, good_of_word (List.all_eq_true.mp h w hw)⟩
/-! ===== END ===== -/

/-! ===== BEGIN exceptions that leave a method, and their catching by the caller (launches without stack traces) ===== -/
section VXA
/-! The laws vx_back, vx_callV, vx_callS, vx_callSW, vx_throw0, vx_throwS follow proofs of the library, with one case more: JvmDerived/Free/Laws.lean (Back.of_free), Shelf42/LK1.lean (callV, callS), Shelf/KitTraced.lean (throwNew0V, throwNewS). -/
/-- where a method has thrown q: the class by its name, the cell, what was written, the world -/
def vx_T (XC : String → State → State → Prop) (st : State) (q : Addr) (t : State) (mc ms : Nat) (free : Addr → Prop) : Prop :=
  ∃ (E : String) (ce : Cell) (L : List Loc), XC E st t ∧ t.heap[q]? = some ce ∧ ce.vm = .none ∧ st.vm.findClass E = some ce.cls ∧ st.WarmedH t.vm ∧ st.sameButNew ({ t with vm := st.vm } : State) L mc ms ∧ ∀ z ∈ L, free z.base
def vx_Q (Qc : Array Value → State → Outcome → State → Prop) (XC : String → State → State → Prop) (mc ms : Nat) (free : Addr → Prop) : Array Value → State → Outcome → State → Prop := fun a st o t =>
  (Qc a st o t ∧ ∃ L, FrameEnd st o t L mc ms ∧ ∀ q ∈ L, free q.base) ∨ ∃ q, o = .threw q ∧ vx_T XC st q t mc ms free
/-- a callee that returns or throws -/
def vx_Met (l : Launch) (y : MethodName) (ws : List Cond) (rm : Room) (Pc : Array Value → State → Prop) (Qc : Array Value → State → Outcome → State → Prop) (XC : String → State → State → Prop) (mc ms : Nat) (free : Addr → Prop) : Prop :=
  MetFree l y (headSpec ws rm) Pc (fun _ _ _ _ _ => True) (vx_Q Qc XC mc ms free)
def vx_Post (XC : String → State → State → Prop) (mc ms : Nat) (free : Addr → Prop) : Pt → Array Value → Addr → Pt → Prop := fun A a q B =>
  ∃ (g : JFrame) (mk : MethodId) (t : State) (L : List Loc) (E : String) (ce : Cell), B.U.heap = t.heap ∧ B.U.vm = t.vm ∧ XC E (A.U.calling g mk a) t ∧ t.heap[q]? = some ce ∧ ce.vm = .none ∧ A.U.vm.findClass E = some ce.cls ∧ B.locs = A.locs ++ L ∧ (∀ z ∈ L, free z.base) ∧ B.cells = A.cells + mc ∧ B.slots = A.slots + ms
def vx_Back (l : Launch) (R : Room) (p : Program) (e : Env) (below : List Frame) (s : State) (sargs : Array Value) (y : MethodName) (len W9 : Nat)
    (Pre : Pt → Array Value → Prop) (Post : Pt → Array Value → Option Value → Pt → Prop) (PostX : Pt → Array Value → Addr → Pt → Prop) : Prop :=
  ∀ (m : MethodId) (meth : Method) (c : Code) (A : Pt) (g : JFrame) (ig : Instr) (mk : MethodId) (a : Array Value),
    Stand p l e R s m sargs below meth c A.U A.locs A.cells A.slots → g.method = m → g.locals.size = c.maxLocals → decode c.code g.pc = .ok (ig, len) →
    2 * g.monitorRoom + (g.stack.map fun v => v.category).sum ≤ W9 → A.U.methodNamed? y = some mk → Pre A a →
    (∃ (v : Option Value) (B : Pt), Stand p l e R s m sargs below meth c B.U B.locs B.cells B.slots ∧ Post A a v B ∧
      Steps p.tables e below (doInvoke e (A.U.setTop g) [] mk a).1 (B.U.setTop { g with pc := g.pc + len, stack := v.toList ++ g.stack })) ∨
    (∃ (q : Addr) (B : Pt), Stand p l e R s m sargs below meth c B.U B.locs B.cells B.slots ∧ PostX A a q B ∧
      Steps p.tables e below (doInvoke e (A.U.setTop g) [] mk a).1 ((B.U.setTop g).pushFrame (.throwing q)))
section Payer
variable {l : Launch} {R : Room} {p : Program} {e : Env} {below : List Frame} {s : State} {sargs : Array Value} {y : MethodName} {len W9 : Nat}
theorem vx_back {ws : List Cond} {rm : Room} {Pc : Array Value → State → Prop} {Qc : Array Value → State → Outcome → State → Prop} {XC : String → State → State → Prop} {mc ms : Nat} {free : Addr → Prop} {bytes : ByteArray} {maxL : Nat} {ret : Option FieldType}
    (hM : vx_Met l y ws rm Pc Qc XC mc ms free) (hblind : FrameBlind Pc) (hrc : rm.cells = mc) (hrs : rm.slots = ms)
    (hframes : rm.frames + 1 ≤ R.frames) (hlocals : W9 + (maxL + 11) + rm.locals ≤ R.locals)
    (hws : ∀ w ∈ ws, ∀ a' U, s.WarmedH U.vm → w.before a' U = true) (hcode : Cond.code y bytes maxL ret ∈ ws) (hinit : ∀ a' U, s.WarmedH U.vm → (Cond.initialized y.cls).before a' U = true) :
    vx_Back l R p e below s sargs y len W9 (PreOf R mc ms Pc) (PostOf Qc mc ms free) (vx_Post XC mc ms free) := by
  intro m meth c A g ig mk a X hg hsize hdg hW hn hp
  have h1 : (headSpec ws rm).pre.before a A.U = true := atoms_intro fun w hw => hws w hw _ _ X.warmed
  have h2 : (Cond.code y bytes maxL ret).before a A.U = true := hws _ hcode _ _ X.warmed
  have h3 : (Cond.initialized y.cls).before a A.U = true := hinit _ _ X.warmed
  have h4 : A.cells + (headSpec ws rm).room.cells ≤ R.cells := by rw [show (headSpec ws rm).room.cells = mc from hrc]; exact hp.1
  have h5 : A.slots + (headSpec ws rm).room.slots ≤ R.slots := by rw [show (headSpec ws rm).room.slots = ms from hrs]; exact hp.2.1
  have hPc : Pc a (A.U.calling g mk a) := hblind _ _ _ _ hp.2.2
  obtain ⟨U, Ls, c0, s0⟩ := A
  dsimp only [Pt.U, Pt.locs, Pt.cells, Pt.slots] at h1 h2 h3 h4 h5 X hn hPc ⊢
  obtain ⟨methY, cY, hmY, hcY, -, hlY, -, -, -, -⟩ := Cond.code_spec hn h2
  obtain ⟨kY, hkY, -⟩ := className_of_methodNamed hn
  have hinitY : kY.init = .initialized := Cond.initialized_spec (findClass_of_methodNamed hn) hkY h3
  have h : At U g.method c below := by rw [hg]; exact X.here
  have hlocals9 : W9 + (maxL + 11) + (headSpec ws rm).room.locals ≤ R.locals := hlocals
  have happ : (headSpec ws rm).appliesLoose y e.platform (U.calling g mk a) = true :=
    Spec.appliesLoose_calling (g := g) h hdg hn hkY hinitY
      (X.room_calling (g := g) (R' := (headSpec ws rm).room) hsize hmY hcY hframes (by rw [hlY]; omega) h4 h5) h1
  obtain ⟨mid, hmid⟩ := h.above
  have hfr : (U.setTop g).frames = (.java g :: mid) ++ below := by rw [State.frames_setTop' g h.top, hmid]; rfl
  obtain ⟨o, s₂, hsteps, -, hend, hq⟩ := Steps.callFree hM p X.admits X.cas X.clock (acts := []) hfr happ hPc trivial
  have hq' : vx_Q Qc XC mc ms free a (U.calling g mk a) o s₂ := hq
  rw [State.frames_setTop' g h.top] at hend
  obtain ⟨g₀, hg0⟩ := Option.isSome_iff_exists.mp h.top
  obtain ⟨r, hr⟩ := State.topJava?_eq_some.mp hg0
  have hr' : (({ U with heap := s₂.heap, slotsUsed := s₂.slotsUsed } : State).setVm s₂.vm).frames = .java g₀ :: r := hr
  rcases hq' with ⟨hqc, L, hfe, hL⟩ | ⟨q, rfl, E, ce, L, hx, hce, hcv, hcl, hW₂, hsm, hL⟩
  · obtain ⟨⟨v, rfl⟩, hW₂, e2, q2, q3, q4, q5, q6⟩ := id hfe
    have e3 : s₂ = ({ (U.calling g mk a).setFrames s₂.frames with heap := s₂.heap, slotsUsed := s₂.slotsUsed } : State).setVm s₂.vm := by
      have : s₂ = ({ s₂ with vm := (U.calling g mk a).vm } : State).setVm s₂.vm := rfl
      rw [e2] at this
      exact this
    obtain ⟨c₂, i₂, len₂, hc₂, hd₂, hf₂⟩ := hend
    have hW' : U.WarmedH s₂.vm := hW₂
    have hcc : c₂ = c := by
      have h1 : s₂.code? g.method = U.code? g.method := by
        rw [State.code?_eq, State.code?_eq, hW'.alike.method?]
      exact Option.some.inj (hc₂.symm.trans (h1.trans h.code))
    subst hcc
    have hlen : len₂ = len := by rw [hdg] at hd₂; cases hd₂; rfl
    subst hlen
    have hs₂ : s₂ = (({ U with heap := s₂.heap, slotsUsed := s₂.slotsUsed } : State).setVm s₂.vm).setTop { g with pc := g.pc + len₂, stack := v.toList ++ g.stack } := by
      refine e3.trans ?_
      rw [hf₂, State.calling_eq h.top, State.setFrames_setFrames, State.setTop_of_frames _ hr', hr]
      rfl
    have hsame : U.sameButNew ({ U with heap := s₂.heap, slotsUsed := s₂.slotsUsed } : State) L mc ms := by
      refine ⟨?_, q2, q3, q4, q5, q6⟩
      obtain ⟨t, ht, -⟩ := State.frames_cons hr
      show ({ U with heap := s₂.heap, slotsUsed := s₂.slotsUsed } : State) = { U.setFrames U.frames with heap := s₂.heap, slotsUsed := s₂.slotsUsed }
      rw [State.setFrames_self ht]
    subst hg
    refine Or.inl ⟨v, ⟨(({ U with heap := s₂.heap, slotsUsed := s₂.slotsUsed } : State).setVm s₂.vm), Ls ++ L, c0 + mc, s0 + ms⟩,
      ⟨X.admits, X.cas, X.clock, X.frames, X.room, X.hears, X.method, X.code, (X.here.setHeapUsed s₂.heap s₂.slotsUsed).setVm hW'.alike, X.tail, State.WarmedH.trans X.warmed hW', X.limits, X.bytes, X.same.trans (hsame.setVm s.vm)⟩,
      ⟨g, mk, s₂, L, rfl, rfl, hqc, rfl, hL, rfl, rfl⟩, ?_⟩
    show Steps p.tables e below _ ((({ U with heap := s₂.heap, slotsUsed := s₂.slotsUsed } : State).setVm s₂.vm).setTop { g with pc := g.pc + len₂, stack := v.toList ++ g.stack })
    rw [← hs₂]
    exact hsteps
  · obtain ⟨e2, q2, q3, q4, q5, q6⟩ := id hsm
    have e3 : s₂ = ({ (U.calling g mk a).setFrames s₂.frames with heap := s₂.heap, slotsUsed := s₂.slotsUsed } : State).setVm s₂.vm := by
      have : s₂ = ({ s₂ with vm := (U.calling g mk a).vm } : State).setVm s₂.vm := rfl
      rw [e2] at this
      exact this
    have hf₂ : s₂.frames = .throwing q :: .java g :: U.frames.tail := hend
    have hW' : U.WarmedH s₂.vm := hW₂
    have hs₂ : s₂ = ((({ U with heap := s₂.heap, slotsUsed := s₂.slotsUsed } : State).setVm s₂.vm).setTop g).pushFrame (.throwing q) := by
      refine e3.trans ?_
      rw [hf₂, State.calling_eq h.top, State.setFrames_setFrames, State.pushFrame, State.frames_setTop _ hr', State.setTop_of_frames _ hr', State.setFrames_setFrames, hr]
      rfl
    have hsame : U.sameButNew ({ U with heap := s₂.heap, slotsUsed := s₂.slotsUsed } : State) L mc ms := by
      refine ⟨?_, q2, q3, q4, q5, q6⟩
      obtain ⟨t, ht, -⟩ := State.frames_cons hr
      show ({ U with heap := s₂.heap, slotsUsed := s₂.slotsUsed } : State) = { U.setFrames U.frames with heap := s₂.heap, slotsUsed := s₂.slotsUsed }
      rw [State.setFrames_self ht]
    subst hg
    refine Or.inr ⟨q, ⟨(({ U with heap := s₂.heap, slotsUsed := s₂.slotsUsed } : State).setVm s₂.vm), Ls ++ L, c0 + mc, s0 + ms⟩,
      ⟨X.admits, X.cas, X.clock, X.frames, X.room, X.hears, X.method, X.code, (X.here.setHeapUsed s₂.heap s₂.slotsUsed).setVm hW'.alike, X.tail, State.WarmedH.trans X.warmed hW', X.limits, X.bytes, X.same.trans (hsame.setVm s.vm)⟩,
      ⟨g, mk, s₂, L, E, ce, rfl, rfl, hx, hce, hcv, hcl, rfl, hL, rfl, rfl⟩, ?_⟩
    show Steps p.tables e below _ (((({ U with heap := s₂.heap, slotsUsed := s₂.slotsUsed } : State).setVm s₂.vm).setTop g).pushFrame (.throwing q))
    rw [← hs₂]
    exact hsteps
end Payer
section Calls
variable {p : Program} {l : Launch} {e : Env} {R : Room} {s : State} {m : MethodId} {args : Array Value} {below : List Frame} {meth : Method} {c : Code} {T : State} {locs : List Loc} {cells slots : Nat}
theorem vx_callV (X : Stand p l e R s m args below meth c T locs cells slots) (hexec : p.tables.exec = Jvm.exec) {own C : String} {index : Nat} {y : MethodName} {bytes : ByteArray} {maxL : Nat} {ret : Option FieldType}
    (hown : s.vm.findClass own = some m.cls) (hlink : (Cond.methodLink own index y).before args s = true) (hinst : (Cond.instanceMethod y).before args s = true) (hsel : (Cond.selects C y y).before args s = true)
    (hcode : (Cond.code y bytes maxL ret).before args s = true) (hy : y.cls ≠ "java/lang/invoke/MethodHandle" ∧ y.cls ≠ "java/lang/invoke/VarHandle")
    {W9 : Nat} {Pre : Pt → Array Value → Prop} {Post : Pt → Array Value → Option Value → Pt → Prop} {PostX : Pt → Array Value → Addr → Pt → Prop} (hK : vx_Back l R p e below s args y 3 W9 Pre Post PostX)
    {b : Addr} {cellB : Cell} (hcell : T.heap[b]? = some cellB) (hobj : cellB.vm.isStatics = false) (hcls : s.vm.findClass C = some cellB.cls)
    {g : JFrame} (hg : g.method = m) (hsize : g.locals.size = c.maxLocals) {argsL rest : List Value} (hlen : ∀ sig, parseMethodDescriptor y.desc = some sig → argsL.length = sig.parameters.length)
    (hstack : g.stack = argsL.reverse ++ .ref b :: rest) (hW : 2 * g.monitorRoom + (rest.map fun v => v.category).sum ≤ W9) (hdg : decode c.code g.pc = .ok (.invokevirtual index, 3))
    (hpre : ∀ vm₁, s.WarmedH vm₁ → Pre ⟨T.setVm vm₁, locs, cells, slots⟩ (Value.ref b :: argsL).toArray) :
    (∃ (v : Option Value) (vm₁ : Vm) (B : Pt), s.WarmedH vm₁ ∧ Stand p l e R s m args below meth c B.U B.locs B.cells B.slots ∧ Post ⟨T.setVm vm₁, locs, cells, slots⟩ (Value.ref b :: argsL).toArray v B ∧
      ∀ target, Steps p.tables e below (B.U.setTop { g with pc := g.pc + 3, stack := v.toList ++ rest }) target → Steps p.tables e below (T.setTop g) target) ∨
    (∃ (q : Addr) (vm₁ : Vm) (B : Pt), s.WarmedH vm₁ ∧ Stand p l e R s m args below meth c B.U B.locs B.cells B.slots ∧ PostX ⟨T.setVm vm₁, locs, cells, slots⟩ (Value.ref b :: argsL).toArray q B ∧
      Steps p.tables e below (T.setTop g) ((B.U.setTop { g with stack := rest }).pushFrame (.throwing q))) := by
  obtain ⟨mk, methM, hnamed, hmethM, hstM, habM⟩ := Cond.instanceMethod_spec hinst
  obtain ⟨methM', cM, hmethM', -, -, -, -, -, -, hsigM⟩ := Cond.code_spec hnamed hcode
  cases hmethM.symm.trans hmethM'
  obtain ⟨c2, r2, m2, q1, q2, q3, q4, kP, hkP, hkPi⟩ := Cond.selects_spec hsel
  cases hcls.symm.trans q1
  cases (State.methodFound?_of_named hnamed hy).symm.trans q2
  cases hnamed.symm.trans q3
  have hselP : selectMethod e.platform s.vm cellB.cls mk = .method mk := by rw [Launch.admits_selectMethod X.admits]; exact q4
  obtain ⟨vm₁, X₁, hstep₁⟩ := X.invokevirtual hexec hown hlink hnamed hmethM hstM hkP hkPi hy (a := b) (cell := cellB) hcell
    (fun z h => by rw [h] at hobj; cases hobj) hselP hmethM habM hkP hkPi (g := g) hg (argsL := argsL) (rest := rest) (hlen _ hsigM) hstack hdg
  rcases hK m meth c ⟨T.setVm vm₁, locs, cells, slots⟩ { g with stack := rest } (.invokevirtual index) mk (Value.ref b :: argsL).toArray X₁ hg hsize hdg hW (X₁.named hnamed) (hpre vm₁ X₁.warmed) with ⟨v, B, X', hpost, hsteps⟩ | ⟨q, B, X', hpost, hsteps⟩
  · exact Or.inl ⟨v, vm₁, B, X₁.warmed, X', hpost, fun target h => hstep₁ _ fun acts => by rw [doInvoke_state]; exact hsteps.trans h⟩
  · exact Or.inr ⟨q, vm₁, B, X₁.warmed, X', hpost, hstep₁ _ fun acts => by rw [doInvoke_state]; exact hsteps⟩
theorem vx_callS (X : Stand p l e R s m args below meth c T locs cells slots) (hexec : p.tables.exec = Jvm.exec) {own : String} {index : Nat} {y : MethodName} {bytes : ByteArray} {maxL : Nat} {ret : Option FieldType}
    (hown : s.vm.findClass own = some m.cls) (hlink : (Cond.methodLink own index y).before args s = true) (hstat : (Cond.static y).before args s = true) (hinit : (Cond.initialized y.cls).before args s = true)
    (hcode : (Cond.code y bytes maxL ret).before args s = true) (hy : y.cls ≠ "java/lang/invoke/MethodHandle" ∧ y.cls ≠ "java/lang/invoke/VarHandle")
    {W9 : Nat} {Pre : Pt → Array Value → Prop} {Post : Pt → Array Value → Option Value → Pt → Prop} {PostX : Pt → Array Value → Addr → Pt → Prop} (hK : vx_Back l R p e below s args y 3 W9 Pre Post PostX)
    {g : JFrame} (hg : g.method = m) (hsize : g.locals.size = c.maxLocals) {argsL rest : List Value} (hlen : ∀ sig, parseMethodDescriptor y.desc = some sig → argsL.length = sig.parameters.length)
    (hstack : g.stack = argsL.reverse ++ rest) (hW : 2 * g.monitorRoom + (rest.map fun v => v.category).sum ≤ W9) (hdg : decode c.code g.pc = .ok (.invokestatic index, 3))
    (hpre : ∀ vm₁, s.WarmedH vm₁ → Pre ⟨T.setVm vm₁, locs, cells, slots⟩ argsL.toArray) :
    (∃ (v : Option Value) (vm₁ : Vm) (B : Pt), s.WarmedH vm₁ ∧ Stand p l e R s m args below meth c B.U B.locs B.cells B.slots ∧ Post ⟨T.setVm vm₁, locs, cells, slots⟩ argsL.toArray v B ∧
      ∀ target, Steps p.tables e below (B.U.setTop { g with pc := g.pc + 3, stack := v.toList ++ rest }) target → Steps p.tables e below (T.setTop g) target) ∨
    (∃ (q : Addr) (vm₁ : Vm) (B : Pt), s.WarmedH vm₁ ∧ Stand p l e R s m args below meth c B.U B.locs B.cells B.slots ∧ PostX ⟨T.setVm vm₁, locs, cells, slots⟩ argsL.toArray q B ∧
      Steps p.tables e below (T.setTop g) ((B.U.setTop { g with stack := rest }).pushFrame (.throwing q))) := by
  obtain ⟨mk, hnamed⟩ := Cond.code_named hcode
  obtain ⟨methM, cM, hmethM, -, -, -, -, -, -, hsigM⟩ := Cond.code_spec hnamed hcode
  have hstatic : methM.isStatic = true := Cond.static_spec hnamed hmethM hstat
  obtain ⟨kP, hkP, -⟩ := className_of_methodNamed hnamed
  have hinitP : kP.init = .initialized := Cond.initialized_spec (findClass_of_methodNamed hnamed) hkP hinit
  obtain ⟨vm₁, X₁, hstep₁⟩ := X.invokestatic hexec hown hlink hnamed hmethM hstatic hkP hinitP hy (g := g) hg (argsL := argsL) (rest := rest) (hlen _ hsigM) hstack hdg
  rcases hK m meth c ⟨T.setVm vm₁, locs, cells, slots⟩ { g with stack := rest } (.invokestatic index) mk argsL.toArray X₁ hg hsize hdg hW (X₁.named hnamed) (hpre vm₁ X₁.warmed) with ⟨v, B, X', hpost, hsteps⟩ | ⟨q, B, X', hpost, hsteps⟩
  · exact Or.inl ⟨v, vm₁, B, X₁.warmed, X', hpost, fun target h => hstep₁ _ fun acts => by rw [doInvoke_state]; exact hsteps.trans h⟩
  · exact Or.inr ⟨q, vm₁, B, X₁.warmed, X', hpost, hstep₁ _ fun acts => by rw [doInvoke_state]; exact hsteps⟩
end Calls
theorem vx_cls {s : State} {T : State} {vm₁ : Vm} {E : String} {k : ClassId} (hW : s.WarmedH vm₁) (h : (T.setVm vm₁).vm.findClass E = some k) : s.vm.findClass E = some k := by
  have h1 : vm₁.findClass E = some k := h
  rw [hW.alike.findClass] at h1
  exact h1
/-- the method's frame g, with q thrown over it -/
def vx_W (p : Program) (l : Launch) (e : Env) (R : Room) (s : State) (m : MethodId) (args : Array Value) (below : List Frame) (meth : Method) (c : Code) (H : Heap) (locs : List Loc) (cells slots : Nat) (Q : State → Prop) (g : JFrame) (q : Addr) : Prop :=
  ∀ T : State, T.heap = H → Stand p l e R s m args below meth c T locs cells slots → ∃ t, Steps p.tables e below ((T.setTop g).pushFrame (.throwing q)) t ∧ Q t
def vx_Run (p : Program) (l : Launch) (e : Env) (R : Room) (s : State) (m : MethodId) (args : Array Value) (below : List Frame) (meth : Method) (c : Code) (H : Heap) (locs : List Loc) (cells slots mc ms : Nat) (g : JFrame) (rest : List Value) (Qa : State → Outcome → State → Prop) (XC : String → State → State → Prop) (free : Addr → Prop) : Prop :=
  ∀ T : State, T.heap = H → Stand p l e R s m args below meth c T locs cells slots →
    (∃ (v : Option Value) (st₀ t T' : State) (L : List Loc), st₀.heap = H ∧ Stand p l e R s m args below meth c T' (locs ++ L) (cells + mc) (slots + ms) ∧ (∀ q ∈ L, free q.base) ∧ T'.heap = t.heap ∧ T'.vm = t.vm ∧ Qa st₀ (.returned v) t ∧
      Goes p e below T g T' { g with pc := g.pc + 3, stack := v.toList ++ rest }) ∨
    (∃ (q : Addr) (st₀ t T' : State) (L : List Loc) (E : String) (ce : Cell), st₀.heap = H ∧ Stand p l e R s m args below meth c T' (locs ++ L) (cells + mc) (slots + ms) ∧ (∀ z ∈ L, free z.base) ∧ T'.heap = t.heap ∧ T'.vm = t.vm ∧ XC E st₀ t ∧ t.heap[q]? = some ce ∧ ce.vm = .none ∧ s.vm.findClass E = some ce.cls ∧
      Steps p.tables e below (T.setTop g) ((T'.setTop { g with stack := rest }).pushFrame (.throwing q)))
def vx_X {S : Type} (px : S → Prop) (B : String → S → State → Prop) (A : Nat → Prop) : String → State → State → Prop := fun E st t => ∃ u : S, px u ∧ B E u t ∧ va_F A st t
section Runs
variable {p : Program} {l : Launch} {e : Env} {R : Room} {s : State} {m : MethodId} {args : Array Value} {below : List Frame} {meth : Method} {c : Code} {H : Heap} {locs : List Loc} {cells slots : Nat}
variable {y : MethodName} {bytes cc : ByteArray} {maxL nL mc ms n index : Nat} {ret : Option FieldType} {ws : List Cond} {rm : Room} {Pc : Array Value → State → Prop} {Qc : Array Value → State → Outcome → State → Prop} {XC : String → State → State → Prop} {free : Addr → Prop} {Ts : List Cond} {own C : String} {b : Addr} {As rest : List Value} {g : JFrame}
theorem vx_callBack (cb : CallB R s args own index y bytes maxL ret ws rm mc ms n) (hM : vx_Met l y ws rm Pc Qc XC mc ms free) (hbl : FrameBlind Pc) : vx_Back l R p e below s args y 3 8 (PreOf R mc ms Pc) (PostOf Qc mc ms free) (vx_Post XC mc ms free) := by
  obtain ⟨hrc, hrs, hfr, hlo, hws, hcw, -, hini, -⟩ := cb
  exact vx_back (bytes := bytes) (maxL := maxL) (ret := ret) hM hbl hrc hrs hfr hlo hws hcw (fun a' U hW => word_at hW (Or.inl (by first | rfl | simp [Cond.onTables, Cond.keeps, Cond.steady])) hini)
theorem vx_runV (S : CallFix p m c cc nL s args Ts own) (hM : vx_Met l y ws rm Pc Qc XC mc ms free) (cw : CallW R s args own C index y bytes maxL ret ws rm mc ms n) (hp : PreV s H C b Pc As)
    (hg : g.method = m) (hn : As.length = n) (hsize : g.locals.size = nL) (hstack : g.stack = As.reverse ++ .ref b :: rest) (hW : 2 * g.monitorRoom + (rest.map fun v => v.category).sum ≤ 8) (hdg : decode cc g.pc = .ok (.invokevirtual index, 3)) (hf : cells + mc ≤ R.cells ∧ slots + ms ≤ R.slots) :
    vx_Run p l e R s m args below meth c H locs cells slots mc ms g rest (Qc (Value.ref b :: As).toArray) XC free := by
  have hK : vx_Back l R p e below s args y 3 8 (PreOf R mc ms Pc) (PostOf Qc mc ms free) (vx_Post XC mc ms free) := vx_callBack cw.1 hM hp.1
  obtain ⟨⟨-, -, -, -, -, -, hcode, -, hy, hlen, hl⟩, hin, hse⟩ := cw
  obtain ⟨hx, hb, hml, ho, -⟩ := S
  obtain ⟨-, ⟨cellB, hcB, hoB, hclB⟩, hPc⟩ := hp
  intro T hT X
  rcases vx_callV X hx (C := C) (bytes := bytes) (maxL := maxL) (ret := ret) ho hl hin hse hcode hy hK (by rw [hT]; exact hcB) hoB hclB hg (hsize.trans hml.symm) (argsL := As) (rest := rest) (fun sig h => hn.trans (hlen sig h)) hstack hW (by rw [hb]; exact hdg)
    (fun vm₁ hW₁ => ⟨hf.1, hf.2, hPc (T.setVm vm₁) hT hW₁⟩) with ⟨v, vm₁, ⟨U', l2, c2, s2⟩, hW₁, X', ⟨g', mk, t, L, e1, e2, hq, h1, hL, h2, h3⟩, st⟩ | ⟨q, vm₁, ⟨U', l2, c2, s2⟩, hW₁, X', ⟨g', mk, t, L, E, ce, e1, e2, hq, hce, hcv, hcl, h1, hL, h2, h3⟩, st⟩
  · dsimp only [Pt.U, Pt.locs, Pt.cells, Pt.slots] at X' e1 e2 h1 h2 h3 st
    subst h1; subst h2; subst h3
    exact Or.inl ⟨v, (T.setVm vm₁).calling g' mk (Value.ref b :: As).toArray, t, U', L, hT, X', hL, e1, e2, hq, st⟩
  · dsimp only [Pt.U, Pt.locs, Pt.cells, Pt.slots] at X' e1 e2 h1 h2 h3 st hcl
    subst h1; subst h2; subst h3
    exact Or.inr ⟨q, (T.setVm vm₁).calling g' mk (Value.ref b :: As).toArray, t, U', L, E, ce, hT, X', hL, e1, e2, hq, hce, hcv, vx_cls hW₁ hcl, st⟩
theorem vx_runS (S : CallFix p m c cc nL s args Ts own) (hM : vx_Met l y ws rm Pc Qc XC mc ms free) (cw : CallB R s args own index y bytes maxL ret ws rm mc ms n ∧ (Cond.static y).before args s = true) (hp : PreS s H Pc As)
    (hg : g.method = m) (hn : As.length = n) (hsize : g.locals.size = nL) (hstack : g.stack = As.reverse ++ rest) (hW : 2 * g.monitorRoom + (rest.map fun v => v.category).sum ≤ 8) (hdg : decode cc g.pc = .ok (.invokestatic index, 3)) (hf : cells + mc ≤ R.cells ∧ slots + ms ≤ R.slots) :
    vx_Run p l e R s m args below meth c H locs cells slots mc ms g rest (Qc As.toArray) XC free := by
  have hK : vx_Back l R p e below s args y 3 8 (PreOf R mc ms Pc) (PostOf Qc mc ms free) (vx_Post XC mc ms free) := vx_callBack cw.1 hM hp.1
  obtain ⟨⟨-, -, -, -, -, -, hcode, hini, hy, hlen, hl⟩, hstt⟩ := cw
  obtain ⟨hx, hb, hml, ho, -⟩ := S
  intro T hT X
  rcases vx_callS X hx (bytes := bytes) (maxL := maxL) (ret := ret) ho hl hstt hini hcode hy hK hg (hsize.trans hml.symm) (argsL := As) (rest := rest) (fun sig h => hn.trans (hlen sig h)) hstack hW (by rw [hb]; exact hdg)
    (fun vm₁ hW₁ => ⟨hf.1, hf.2, hp.2 (T.setVm vm₁) hT hW₁⟩) with ⟨v, vm₁, ⟨U', l2, c2, s2⟩, hW₁, X', ⟨g', mk, t, L, e1, e2, hq, h1, hL, h2, h3⟩, st⟩ | ⟨q, vm₁, ⟨U', l2, c2, s2⟩, hW₁, X', ⟨g', mk, t, L, E, ce, e1, e2, hq, hce, hcv, hcl, h1, hL, h2, h3⟩, st⟩
  · dsimp only [Pt.U, Pt.locs, Pt.cells, Pt.slots] at X' e1 e2 h1 h2 h3 st
    subst h1; subst h2; subst h3
    exact Or.inl ⟨v, (T.setVm vm₁).calling g' mk As.toArray, t, U', L, hT, X', hL, e1, e2, hq, st⟩
  · dsimp only [Pt.U, Pt.locs, Pt.cells, Pt.slots] at X' e1 e2 h1 h2 h3 st hcl
    subst h1; subst h2; subst h3
    exact Or.inr ⟨q, (T.setVm vm₁).calling g' mk As.toArray, t, U', L, E, ce, hT, X', hL, e1, e2, hq, hce, hcv, vx_cls hW₁ hcl, st⟩
end Runs
section Rows
variable {p : Program} {l : Launch} {e : Env} {R : Room} {s : State} {m : MethodId} {args : Array Value} {below : List Frame} {meth : Method} {c : Code} {H : Heap} {locs : List Loc} {cells slots : Nat} {Q : State → Prop}
variable {mc ms : Nat} {free : Addr → Prop} {A0 A1 : Nat → Prop} {H0 : Heap} {a : Array Value} {pc : Nat} {ls : Array Slot} {st0 rest : List Value}
theorem vx_keep {st₀ t T' : State} {L : List Loc} (h0 : st₀.heap = H) (e1 : T'.heap = t.heap) (hS : va_S A0 H0 H locs) (hA : ∀ q, q < H.size → A1 q → A0 q) (hf : ∀ q, free q → A0 q) (hL : ∀ q ∈ L, free q.base) (hF : va_F A1 st₀ t) :
    H.size ≤ T'.heap.size ∧ (∀ q : Nat, q < H.size → ¬ A1 q → T'.heap[q]? = H[q]?) ∧ va_S A0 H0 T'.heap (locs ++ L) := by
  obtain ⟨hz, hk⟩ := hF
  rw [h0] at hz hk
  exact ⟨by rw [e1]; exact hz, fun q h1 h2 => by rw [e1]; exact hk q h1 h2,
    ⟨Nat.le_trans hS.1 (by rw [e1]; exact hz), fun q h1 h2 => by rw [e1, hk q (Nat.lt_of_lt_of_le h1 hS.1) (fun z => h2 (hA q (Nat.lt_of_lt_of_le h1 hS.1) z))]; exact hS.2.1 q h1 h2, fun q hq => by
      rcases List.mem_append.mp hq with h | h
      · exact hS.2.2 q h
      · exact hf _ (hL q h)⟩⟩
theorem vx_calli {S SX : Type} {post : Int32 → S → Prop} {px : SX → Prop} {B : S → State → Prop} {BX : String → SX → State → Prop} {AX : Nat → Prop} (hr : vx_Run p l e R s m args below meth c H locs cells slots mc ms (F0 m pc ls st0) rest (va_Qi post B A1 a) (vx_X px BX AX) free) (hS : va_S A0 H0 H locs) (hA : ∀ q, q < H.size → A1 q → A0 q) (hf : ∀ q, free q → A0 q) (hAX : ∀ q, q < H.size → AX q → A0 q)
    (kx : ∀ (E : String) (ce : Cell) (q9 : Addr) (u : SX) (t : State) (H1 : Heap) (locs1 : List Loc), t.heap = H1 → s.vm.Alike t.vm → px u → BX E u t → H.size ≤ H1.size → (∀ q : Nat, q < H.size → ¬ AX q → H1[q]? = H[q]?) → va_S A0 H0 H1 locs1 → H1[q9]? = some ce → ce.vm = .none → s.vm.findClass E = some ce.cls → vx_W p l e R s m args below meth c H1 locs1 (cells + mc) (slots + ms) Q (F0 m pc ls rest) q9)
    (kk : ∀ (r : Int32) (u : S) (t : State) (H1 : Heap) (locs1 : List Loc), t.heap = H1 → s.vm.Alike t.vm → post r u → B u t → H.size ≤ H1.size → (∀ q : Nat, q < H.size → ¬ A1 q → H1[q]? = H[q]?) → va_S A0 H0 H1 locs1 → W p l e R s m args below meth c H1 locs1 (cells + mc) (slots + ms) Q (F0 m (pc + 3) ls (.int r :: rest))) : W p l e R s m args below meth c H locs cells slots Q (F0 m pc ls st0) := by
  intro T hT X
  rcases hr T hT X with ⟨v, st₀, t, T', L, h0, X', hL, e1, e2, ⟨⟨r, u, hv, hp, hb⟩, hF⟩, st⟩ | ⟨q, st₀, t, T', L, E, ce, h0, X', hL, e1, e2, ⟨u, hp, hb, hF⟩, hce, hcv, hcl, st⟩
  · cases hv
    obtain ⟨k1, k2, k3⟩ := vx_keep h0 e1 hS hA hf hL hF
    obtain ⟨t2, a1, b1⟩ := kk r u t T'.heap (locs ++ L) e1.symm (by rw [← e2]; exact X'.warmed.alike) hp hb k1 k2 k3 T' rfl X'
    exact ⟨t2, st t2 a1, b1⟩
  · obtain ⟨k1, k2, k3⟩ := vx_keep h0 e1 hS hAX hf hL hF
    obtain ⟨t2, a1, b1⟩ := kx E ce q u t T'.heap (locs ++ L) e1.symm (by rw [← e2]; exact X'.warmed.alike) hp hb k1 k2 k3 (by rw [e1]; exact hce) hcv hcl T' rfl X'
    exact ⟨t2, st.trans a1, b1⟩
theorem vx_calll {S SX : Type} {post : Int64 → S → Prop} {px : SX → Prop} {B : S → State → Prop} {BX : String → SX → State → Prop} {AX : Nat → Prop} (hr : vx_Run p l e R s m args below meth c H locs cells slots mc ms (F0 m pc ls st0) rest (va_Ql post B A1 a) (vx_X px BX AX) free) (hS : va_S A0 H0 H locs) (hA : ∀ q, q < H.size → A1 q → A0 q) (hf : ∀ q, free q → A0 q) (hAX : ∀ q, q < H.size → AX q → A0 q)
    (kx : ∀ (E : String) (ce : Cell) (q9 : Addr) (u : SX) (t : State) (H1 : Heap) (locs1 : List Loc), t.heap = H1 → s.vm.Alike t.vm → px u → BX E u t → H.size ≤ H1.size → (∀ q : Nat, q < H.size → ¬ AX q → H1[q]? = H[q]?) → va_S A0 H0 H1 locs1 → H1[q9]? = some ce → ce.vm = .none → s.vm.findClass E = some ce.cls → vx_W p l e R s m args below meth c H1 locs1 (cells + mc) (slots + ms) Q (F0 m pc ls rest) q9)
    (kk : ∀ (r : Int64) (u : S) (t : State) (H1 : Heap) (locs1 : List Loc), t.heap = H1 → s.vm.Alike t.vm → post r u → B u t → H.size ≤ H1.size → (∀ q : Nat, q < H.size → ¬ A1 q → H1[q]? = H[q]?) → va_S A0 H0 H1 locs1 → W p l e R s m args below meth c H1 locs1 (cells + mc) (slots + ms) Q (F0 m (pc + 3) ls (.long r :: rest))) : W p l e R s m args below meth c H locs cells slots Q (F0 m pc ls st0) := by
  intro T hT X
  rcases hr T hT X with ⟨v, st₀, t, T', L, h0, X', hL, e1, e2, ⟨⟨r, u, hv, hp, hb⟩, hF⟩, st⟩ | ⟨q, st₀, t, T', L, E, ce, h0, X', hL, e1, e2, ⟨u, hp, hb, hF⟩, hce, hcv, hcl, st⟩
  · cases hv
    obtain ⟨k1, k2, k3⟩ := vx_keep h0 e1 hS hA hf hL hF
    obtain ⟨t2, a1, b1⟩ := kk r u t T'.heap (locs ++ L) e1.symm (by rw [← e2]; exact X'.warmed.alike) hp hb k1 k2 k3 T' rfl X'
    exact ⟨t2, st t2 a1, b1⟩
  · obtain ⟨k1, k2, k3⟩ := vx_keep h0 e1 hS hAX hf hL hF
    obtain ⟨t2, a1, b1⟩ := kx E ce q u t T'.heap (locs ++ L) e1.symm (by rw [← e2]; exact X'.warmed.alike) hp hb k1 k2 k3 (by rw [e1]; exact hce) hcv hcl T' rfl X'
    exact ⟨t2, st.trans a1, b1⟩
theorem vx_callf {S SX : Type} {post : UInt32 → S → Prop} {px : SX → Prop} {B : S → State → Prop} {BX : String → SX → State → Prop} {AX : Nat → Prop} (hr : vx_Run p l e R s m args below meth c H locs cells slots mc ms (F0 m pc ls st0) rest (va_Qf post B A1 a) (vx_X px BX AX) free) (hS : va_S A0 H0 H locs) (hA : ∀ q, q < H.size → A1 q → A0 q) (hf : ∀ q, free q → A0 q) (hAX : ∀ q, q < H.size → AX q → A0 q)
    (kx : ∀ (E : String) (ce : Cell) (q9 : Addr) (u : SX) (t : State) (H1 : Heap) (locs1 : List Loc), t.heap = H1 → s.vm.Alike t.vm → px u → BX E u t → H.size ≤ H1.size → (∀ q : Nat, q < H.size → ¬ AX q → H1[q]? = H[q]?) → va_S A0 H0 H1 locs1 → H1[q9]? = some ce → ce.vm = .none → s.vm.findClass E = some ce.cls → vx_W p l e R s m args below meth c H1 locs1 (cells + mc) (slots + ms) Q (F0 m pc ls rest) q9)
    (kk : ∀ (r : UInt32) (u : S) (t : State) (H1 : Heap) (locs1 : List Loc), t.heap = H1 → s.vm.Alike t.vm → post r u → B u t → H.size ≤ H1.size → (∀ q : Nat, q < H.size → ¬ A1 q → H1[q]? = H[q]?) → va_S A0 H0 H1 locs1 → W p l e R s m args below meth c H1 locs1 (cells + mc) (slots + ms) Q (F0 m (pc + 3) ls (.float r :: rest))) : W p l e R s m args below meth c H locs cells slots Q (F0 m pc ls st0) := by
  intro T hT X
  rcases hr T hT X with ⟨v, st₀, t, T', L, h0, X', hL, e1, e2, ⟨⟨r, u, hv, hp, hb⟩, hF⟩, st⟩ | ⟨q, st₀, t, T', L, E, ce, h0, X', hL, e1, e2, ⟨u, hp, hb, hF⟩, hce, hcv, hcl, st⟩
  · cases hv
    obtain ⟨k1, k2, k3⟩ := vx_keep h0 e1 hS hA hf hL hF
    obtain ⟨t2, a1, b1⟩ := kk r u t T'.heap (locs ++ L) e1.symm (by rw [← e2]; exact X'.warmed.alike) hp hb k1 k2 k3 T' rfl X'
    exact ⟨t2, st t2 a1, b1⟩
  · obtain ⟨k1, k2, k3⟩ := vx_keep h0 e1 hS hAX hf hL hF
    obtain ⟨t2, a1, b1⟩ := kx E ce q u t T'.heap (locs ++ L) e1.symm (by rw [← e2]; exact X'.warmed.alike) hp hb k1 k2 k3 (by rw [e1]; exact hce) hcv hcl T' rfl X'
    exact ⟨t2, st.trans a1, b1⟩
theorem vx_calld {S SX : Type} {post : UInt64 → S → Prop} {px : SX → Prop} {B : S → State → Prop} {BX : String → SX → State → Prop} {AX : Nat → Prop} (hr : vx_Run p l e R s m args below meth c H locs cells slots mc ms (F0 m pc ls st0) rest (va_Qd post B A1 a) (vx_X px BX AX) free) (hS : va_S A0 H0 H locs) (hA : ∀ q, q < H.size → A1 q → A0 q) (hf : ∀ q, free q → A0 q) (hAX : ∀ q, q < H.size → AX q → A0 q)
    (kx : ∀ (E : String) (ce : Cell) (q9 : Addr) (u : SX) (t : State) (H1 : Heap) (locs1 : List Loc), t.heap = H1 → s.vm.Alike t.vm → px u → BX E u t → H.size ≤ H1.size → (∀ q : Nat, q < H.size → ¬ AX q → H1[q]? = H[q]?) → va_S A0 H0 H1 locs1 → H1[q9]? = some ce → ce.vm = .none → s.vm.findClass E = some ce.cls → vx_W p l e R s m args below meth c H1 locs1 (cells + mc) (slots + ms) Q (F0 m pc ls rest) q9)
    (kk : ∀ (r : UInt64) (u : S) (t : State) (H1 : Heap) (locs1 : List Loc), t.heap = H1 → s.vm.Alike t.vm → post r u → B u t → H.size ≤ H1.size → (∀ q : Nat, q < H.size → ¬ A1 q → H1[q]? = H[q]?) → va_S A0 H0 H1 locs1 → W p l e R s m args below meth c H1 locs1 (cells + mc) (slots + ms) Q (F0 m (pc + 3) ls (.double r :: rest))) : W p l e R s m args below meth c H locs cells slots Q (F0 m pc ls st0) := by
  intro T hT X
  rcases hr T hT X with ⟨v, st₀, t, T', L, h0, X', hL, e1, e2, ⟨⟨r, u, hv, hp, hb⟩, hF⟩, st⟩ | ⟨q, st₀, t, T', L, E, ce, h0, X', hL, e1, e2, ⟨u, hp, hb, hF⟩, hce, hcv, hcl, st⟩
  · cases hv
    obtain ⟨k1, k2, k3⟩ := vx_keep h0 e1 hS hA hf hL hF
    obtain ⟨t2, a1, b1⟩ := kk r u t T'.heap (locs ++ L) e1.symm (by rw [← e2]; exact X'.warmed.alike) hp hb k1 k2 k3 T' rfl X'
    exact ⟨t2, st t2 a1, b1⟩
  · obtain ⟨k1, k2, k3⟩ := vx_keep h0 e1 hS hAX hf hL hF
    obtain ⟨t2, a1, b1⟩ := kx E ce q u t T'.heap (locs ++ L) e1.symm (by rw [← e2]; exact X'.warmed.alike) hp hb k1 k2 k3 (by rw [e1]; exact hce) hcv hcl T' rfl X'
    exact ⟨t2, st.trans a1, b1⟩
theorem vx_callv {S SX : Type} {post : S → Prop} {px : SX → Prop} {B : S → State → Prop} {BX : String → SX → State → Prop} {AX : Nat → Prop} (hr : vx_Run p l e R s m args below meth c H locs cells slots mc ms (F0 m pc ls st0) rest (va_Qv post B A1 a) (vx_X px BX AX) free) (hS : va_S A0 H0 H locs) (hA : ∀ q, q < H.size → A1 q → A0 q) (hf : ∀ q, free q → A0 q) (hAX : ∀ q, q < H.size → AX q → A0 q)
    (kx : ∀ (E : String) (ce : Cell) (q9 : Addr) (u : SX) (t : State) (H1 : Heap) (locs1 : List Loc), t.heap = H1 → s.vm.Alike t.vm → px u → BX E u t → H.size ≤ H1.size → (∀ q : Nat, q < H.size → ¬ AX q → H1[q]? = H[q]?) → va_S A0 H0 H1 locs1 → H1[q9]? = some ce → ce.vm = .none → s.vm.findClass E = some ce.cls → vx_W p l e R s m args below meth c H1 locs1 (cells + mc) (slots + ms) Q (F0 m pc ls rest) q9)
    (kk : ∀ (u : S) (t : State) (H1 : Heap) (locs1 : List Loc), t.heap = H1 → s.vm.Alike t.vm → post u → B u t → H.size ≤ H1.size → (∀ q : Nat, q < H.size → ¬ A1 q → H1[q]? = H[q]?) → va_S A0 H0 H1 locs1 → W p l e R s m args below meth c H1 locs1 (cells + mc) (slots + ms) Q (F0 m (pc + 3) ls (rest))) : W p l e R s m args below meth c H locs cells slots Q (F0 m pc ls st0) := by
  intro T hT X
  rcases hr T hT X with ⟨v, st₀, t, T', L, h0, X', hL, e1, e2, ⟨⟨u, hv, hp, hb⟩, hF⟩, st⟩ | ⟨q, st₀, t, T', L, E, ce, h0, X', hL, e1, e2, ⟨u, hp, hb, hF⟩, hce, hcv, hcl, st⟩
  · cases hv
    obtain ⟨k1, k2, k3⟩ := vx_keep h0 e1 hS hA hf hL hF
    obtain ⟨t2, a1, b1⟩ := kk u t T'.heap (locs ++ L) e1.symm (by rw [← e2]; exact X'.warmed.alike) hp hb k1 k2 k3 T' rfl X'
    exact ⟨t2, st t2 a1, b1⟩
  · obtain ⟨k1, k2, k3⟩ := vx_keep h0 e1 hS hAX hf hL hF
    obtain ⟨t2, a1, b1⟩ := kx E ce q u t T'.heap (locs ++ L) e1.symm (by rw [← e2]; exact X'.warmed.alike) hp hb k1 k2 k3 (by rw [e1]; exact hce) hcv hcl T' rfl X'
    exact ⟨t2, st.trans a1, b1⟩
/-- caught by the row x of this method's table; the rows ahead don't take it -/
theorem vx_catch {own name : String} {E : String} {ce : Cell} {q : Addr} (hown : s.vm.findClass own = some m.cls) (pre : List ExceptionTableEntry) (x : ExceptionTableEntry) (suf : List ExceptionTableEntry) (hsplit : c.exceptionTable.toList = pre ++ x :: suf)
    (hpass : ∀ z ∈ pre, covers z pc = false ∨ (z.catchType ≠ 0 ∧ ∃ nm : String, (Cond.classLink own z.catchType nm).before args s = true ∧ va_Nc E nm s)) (hx : covers x pc = true) (h0 : x.catchType ≠ 0)
    (hlink : (Cond.classLink own x.catchType name).before args s = true) (hcast : (Cond.castable E name).before args s = true) (hcell : H[q]? = some ce) (hv : ce.vm = .none) (hcl : s.vm.findClass E = some ce.cls)
    (kk : W p l e R s m args below meth c H locs cells slots Q (F0 m x.handlerPc ls [.ref q])) : vx_W p l e R s m args below meth c H locs cells slots Q (F0 m pc ls rest) q := by
  intro T hT X
  have hpl : e.platform.magicAccessors = ({} : Platform).magicAccessors := by rw [X.admits.platform]
  obtain ⟨c3, c4, hc3, hc4, hasg⟩ := Cond.castable_spec hcast
  cases Option.some.inj (hc3.symm.trans hcl)
  obtain ⟨c5, hc5, hcl5⟩ := Cond.classLink_spec hown hlink e.platform hpl
  cases Option.some.inj (hc4.symm.trans hc5)
  obtain ⟨vm', X', st⟩ := X.thenCaughtThrough q (g := F0 m pc ls rest) rfl (Steps.refl _) (by rw [hT]; exact hcell) (by rw [hv]; rfl) (by obtain ⟨k9, h9, -⟩ := Vm.findClass_spec hcl; exact ⟨k9, h9⟩) pre x suf hsplit
    (fun z hz => by
      rcases hpass z hz with h | ⟨hz0, nm, hl1, hn1⟩
      · exact Or.inl h
      · obtain ⟨c6, hc6, hcl6⟩ := Cond.classLink_spec hown hl1 e.platform hpl
        obtain ⟨a8, b8, h1, h2, h3⟩ := hn1
        cases Option.some.inj (h1.symm.trans hcl)
        cases Option.some.inj (h2.symm.trans hc6)
        exact Or.inr ⟨hz0, _, hcl6, h3⟩) hx (Or.inr ⟨h0, c4, hcl5, hasg⟩)
  obtain ⟨t, a1, b1⟩ := kk (T.setVm vm') hT X'
  exact ⟨t, st.trans a1, b1⟩
end Rows
section Ends
variable {p : Program} {l : Launch} {e : Env} {R : Room} {s : State} {m : MethodId} {args : Array Value} {below : List Frame} {meth : Method} {c : Code} {H : Heap} {locs : List Loc} {cells slots : Nat} {Q : State → Prop}
variable {mc ms : Nat} {free : Addr → Prop} {A0 A1 : Nat → Prop} {H0 : Heap} {a : Array Value} {ls : Array Slot} {st0 rest : List Value}
variable {Qc : Array Value → State → Outcome → State → Prop} {XC : String → State → State → Prop}
/-- what a body that may throw owes at its end -/
def vx_MQ (below : List Frame) (Qc : Array Value → State → Outcome → State → Prop) (XC : String → State → State → Prop) (a : Array Value) (s : State) (mc ms : Nat) (free : Addr → Prop) : State → Prop := fun t =>
  ∃ o, t.status = .running ∧ Ended t below o ∧ vx_Q Qc XC mc ms free a s o t
theorem vx_ret {g : JFrame} {mc ms : Nat} (k : W p l e R s m args below meth c H locs cells slots (MQ below Qc args s mc ms free) g) : W p l e R s m args below meth c H locs cells slots (vx_MQ below Qc XC args s mc ms free) g := by
  intro T hT X
  obtain ⟨t, a1, o, b1, b2, b3, b4⟩ := k T hT X
  exact ⟨t, a1, o, b1, b2, Or.inl ⟨b3, b4⟩⟩
/-- not caught here: it goes on to the caller -/
theorem vx_widen {g : JFrame} {q : Addr} {k n : Nat} (h1 : cells ≤ k) (h2 : slots ≤ n) (kk : vx_W p l e R s m args below meth c H locs k n Q g q) : vx_W p l e R s m args below meth c H locs cells slots Q g q := fun T hT X => kk T hT (stand_widen X h1 h2)
theorem vx_out {pc : Nat} {E : String} {ce : Cell} {q : Addr} {mc ms : Nat} (hout : ∀ x ∈ c.exceptionTable.toList, covers x pc = false) (hlocks : meth.locks = false) (hcell : H[q]? = some ce) (hv : ce.vm = .none) (hcl : s.vm.findClass E = some ce.cls)
    (hx : ∀ t : State, t.heap = H → s.vm.Alike t.vm → XC E s t) (hf : ∀ z ∈ locs, free z.base) (hc : cells ≤ mc) (hs : slots ≤ ms) :
    vx_W p l e R s m args below meth c H locs cells slots (vx_MQ below Qc XC args s mc ms free) (F0 m pc ls rest) q := by
  intro T hT X
  obtain ⟨st1, hrun, hend, hW, hsm⟩ := X.leaveThrown q (g := F0 m pc ls rest) rfl rfl rfl hout hlocks
  have hcell9 : (T.setFrames (.throwing q :: below)).heap[q]? = some ce := by
    show T.heap[q]? = some ce
    rw [hT]; exact hcell
  exact ⟨_, st1, .threw q, hrun, hend, Or.inr ⟨q, rfl, E, ce, locs, hx _ hT hW.alike, hcell9, hv, hcl, hW, hsm.mono hc hs, hf⟩⟩
theorem vx_frame {U : State} {k n : Nat} (h : s.sameButNew ({ U with vm := s.vm } : State) locs k n) : s.heap.size ≤ U.heap.size ∧ ∀ q : Nat, q < s.heap.size → (∀ z ∈ locs, z.base ≠ q) → U.heap[q]? = s.heap[q]? := by
  obtain ⟨-, h2, -, -, -, h6⟩ := h
  refine ⟨h2, fun q hq hz => ?_⟩
  obtain ⟨c9, e1, e2, e3, e4⟩ := h6 q _ (Array.getElem?_eq_getElem hq)
  have hs : c9.slots = (s.heap[q]).slots := Array.ext_getElem? fun i => e4 i fun hm => hz _ hm rfl
  have h9 : c9 = s.heap[q] := by
    rw [hs] at e2
    exact e2
  have e5 : U.heap[q]? = some c9 := e1
  rw [e5, h9, Array.getElem?_eq_getElem hq]
/-- the words of a throw but the four that speak of the heap -/
def vx_no (w : Cond) : Bool := decide (w ≠ .isRef (.static Bundle.tN "UNASSIGNED_STACK" Bundle.steD)) && decide (w ≠ .isRef (.static Bundle.tN "SUPPRESSED_SENTINEL" Bundle.listD)) && decide (w ≠ .laysStatic Bundle.tN "UNASSIGNED_STACK" Bundle.steD) && decide (w ≠ .laysStatic Bundle.tN "SUPPRESSED_SENTINEL" Bundle.listD)
def vx_at0 (own : String) (ic : Nat) (X : String) (names : List String) : List Cond := (Bundle.ownAtoms0 own ic X names).filter vx_no
def vx_atS (own : String) (ic : Nat) (X : String) (names : List String) : List Cond := (Bundle.ownAtoms own ic X names).filter vx_no
/-- a word that the tables alone decide, or a good one -/
def vx_ot (w : Cond) : Bool := w.onTables || goodWord w
theorem vx_ot_at {args a' : Array Value} {s U : State} {w : Cond} (hW : s.WarmedH U.vm) (hvm : s.vm = U.vm) (hg : vx_ot w = true) (h : w.before args s = true) : w.before a' U = true := by
  simp only [vx_ot, Bool.or_eq_true] at hg
  rcases hg with hg | hg
  · exact va_tabs hg hvm h
  · exact word_at hW (good_of_word hg) h
/-- a list's words: the good ones out of the method's own list, the others by premises of their own -/
theorem vx_hat {args : Array Value} {s : State} {L B : List Cond} (h1 : ∀ w ∈ L.filter goodWord, w.before args s = true) (h2 : ∀ w ∈ L.filter (fun w => !goodWord w), w ∈ B) (h3 : ∀ w ∈ B, w.before args s = true) : ∀ w ∈ L, w.before args s = true := by
  intro w hw
  by_cases g : goodWord w = true
  · exact h1 w (List.mem_filter.mpr ⟨hw, g⟩)
  · refine h3 w (h2 w (List.mem_filter.mpr ⟨hw, ?_⟩))
    show (!goodWord w) = true
    cases hgw : goodWord w
    · rfl
    · exact absurd hgw g
theorem vx_c {args : Array Value} {s : State} {w : Cond} {B : List Cond} (h : w.before args s = true) (t : ∀ w ∈ B, w.before args s = true) : ∀ w' ∈ w :: B, w'.before args s = true := fun w' h' => (List.mem_cons.mp h').elim (fun e => by rw [e]; exact h) (t w')
theorem vx_n {args : Array Value} {s : State} : ∀ w ∈ ([] : List Cond), w.before args s = true := fun _ h => nomatch h
theorem vx_own {args : Array Value} {s : State} {L : List Cond} (h1 : ∀ w ∈ L.filter vx_no, w.before args s = true)
    (hU : (Cond.isRef (.static Bundle.tN "UNASSIGNED_STACK" Bundle.steD)).before args s = true) (hN : (Cond.isRef (.static Bundle.tN "SUPPRESSED_SENTINEL" Bundle.listD)).before args s = true)
    (lU : (Cond.laysStatic Bundle.tN "UNASSIGNED_STACK" Bundle.steD).before args s = true) (lN : (Cond.laysStatic Bundle.tN "SUPPRESSED_SENTINEL" Bundle.listD).before args s = true) : ∀ w ∈ L, w.before args s = true := by
  intro w hw
  by_cases e1 : w = .isRef (.static Bundle.tN "UNASSIGNED_STACK" Bundle.steD)
  · rw [e1]; exact hU
  · by_cases e2 : w = .isRef (.static Bundle.tN "SUPPRESSED_SENTINEL" Bundle.listD)
    · rw [e2]; exact hN
    · by_cases e3 : w = .laysStatic Bundle.tN "UNASSIGNED_STACK" Bundle.steD
      · rw [e3]; exact lU
      · by_cases e4 : w = .laysStatic Bundle.tN "SUPPRESSED_SENTINEL" Bundle.listD
        · rw [e4]; exact lN
        · exact h1 w (List.mem_filter.mpr ⟨hw, by unfold vx_no; rw [decide_eq_true e1, decide_eq_true e2, decide_eq_true e3, decide_eq_true e4]; rfl⟩)
/-- where a static field lies, its class's statics cell in H -/
def vx_L (C n d : String) (A : Nat → Prop) (U : State) (H : Heap) : Prop := ∃ (c : ClassId) (k : Class) (i : Nat) (f : Field) (a : Nat) (cell : Cell), U.vm.findClass C = some c ∧ U.fieldFound? C n d = some (c, k, i, f) ∧ f.isStatic = true ∧ k.statics = some a ∧ H[a]? = some cell ∧ cell.vm.isStatics = true ∧ cell.cls = c ∧ f.slot < cell.slots.size ∧ k.staticTypes[f.slot]? = some f.type ∧ ¬ A a
theorem vx_L.moved {C n d : String} {A : Nat → Prop} {u U : State} {H : Heap} (hvm : u.vm.Alike U.vm) (h : vx_L C n d A u H) : vx_L C n d A U H := by
  obtain ⟨c, k, i, f, a, cell, h1, h2, h3, h4, h5, h6, h7, h8, h9, h10⟩ := h
  obtain ⟨k', hi', he⟩ := State.fieldFound?_setVm hvm h2
  exact ⟨c, k', i, f, a, cell, by rw [hvm.findClass]; exact h1, hi', h3, by rw [he]; exact h4, h5, h6, h7, h8, by rw [he]; exact h9, h10⟩
theorem vx_L.kept {C n d : String} {A : Nat → Prop} {U : State} {H H1 : Heap} (h : vx_L C n d A U H) (hq : ∀ a : Nat, a < H.size → ¬ A a → H1[a]? = H[a]?) : vx_L C n d A U H1 := by
  obtain ⟨c, k, i, f, a, cell, h1, h2, h3, h4, h5, h6, h7, h8, h9, h10⟩ := h
  exact ⟨c, k, i, f, a, cell, h1, h2, h3, h4, by rw [hq a (Array.getElem?_eq_some_iff.mp h5).1 h10]; exact h5, h6, h7, h8, h9, h10⟩
theorem vx_L.narrow {C n d : String} {A B : Nat → Prop} {U : State} {H : Heap} (h : vx_L C n d A U H) (hAB : ∀ q, B q → A q) : vx_L C n d B U H := by
  obtain ⟨c, k, i, f, a, cell, h1, h2, h3, h4, h5, h6, h7, h8, h9, h10⟩ := h
  exact ⟨c, k, i, f, a, cell, h1, h2, h3, h4, h5, h6, h7, h8, h9, fun z => h10 (hAB _ z)⟩
theorem vx_L.word {C n d : String} {A : Nat → Prop} {s : State} {args : Array Value} (h : vx_L C n d A s s.heap) : (Cond.laysStatic C n d).before args s = true := by
  obtain ⟨c, k, i, f, a, cell, h1, h2, h3, h4, h5, h6, h7, h8, h9, -⟩ := h
  show (Cond.laysStatic C n d).holds args s none s [] = true
  exact Cond.laysStatic_of h1 h2 h3 h4 h5 h6 h7 h8 h9
/-- .. and what it holds: null or some reference -/
def vx_Zq (C n d : String) (A : Nat → Prop) (U : State) (H : Heap) : Prop := va_Zq C n d A U H ∧ vx_L C n d A U H
theorem vx_Zq.moved {C n d : String} {A : Nat → Prop} {u U : State} {H : Heap} (hvm : u.vm.Alike U.vm) (h : vx_Zq C n d A u H) : vx_Zq C n d A U H := ⟨va_Zq.moved hvm h.1, vx_L.moved hvm h.2⟩
theorem vx_Zq.kept {C n d : String} {A : Nat → Prop} {U : State} {H H1 : Heap} (h : vx_Zq C n d A U H) (hq : ∀ a : Nat, a < H.size → ¬ A a → H1[a]? = H[a]?) : vx_Zq C n d A U H1 := ⟨va_Zq.kept h.1 hq, vx_L.kept h.2 hq⟩
theorem vx_Zq.narrow {C n d : String} {A B : Nat → Prop} {U : State} {H : Heap} (h : vx_Zq C n d A U H) (hAB : ∀ q, B q → A q) : vx_Zq C n d B U H := ⟨va_Zq.narrow h.1 hAB, vx_L.narrow h.2 hAB⟩
theorem vx_Zqof {args : Array Value} {s : State} {C n d : String} {A : Nat → Prop} (hl : (Cond.laysStatic C n d).before args s = true) (hini : (Cond.initialized C).before args s = true) (h : (Cond.isRef (.static C n d)).before args s = true) (hA : ∀ a : Nat, a < s.heap.size → ¬ A a) : vx_Zq C n d A s s.heap := by
  refine ⟨va_Zqof hl hini h hA, ?_⟩
  obtain ⟨c, k, i, f, a, cell, h1, h2, h3, h4, h5, h6, h7, h8, h9⟩ := Cond.laysStatic_spec hl
  exact ⟨c, k, i, f, a, cell, h1, h2, h3, h4, h5, h6, h7, h8, h9, hA a (Array.getElem?_eq_some_iff.mp h5).1⟩
theorem vx_isRef {C n d : String} {v : Value} {A : Nat → Prop} {s : State} {args : Array Value} (h : va_Z C n d v A s s.heap) (hv : v.isRef = true) : (Cond.isRef (.static C n d)).before args s = true := by
  obtain ⟨cf, kf, fi, f, a, cell, h1, h2, h3, h4, h5, h6, h7, -⟩ := h
  have he : (Term.static C n d).eval args s none [] s = some v := by
    simp [Term.eval, State.fieldNamed?, h1, h2, h4, h5, h6, h7]
  simp only [Cond.before, Cond.holds, Cond.value, he]
  cases v <;> simp_all [Value.isRef]
theorem vx_isRefq {C n d : String} {A : Nat → Prop} {s : State} {args : Array Value} (h : va_Zq C n d A s s.heap) : (Cond.isRef (.static C n d)).before args s = true := by
  rcases h with h | ⟨t, h⟩
  · exact vx_isRef h rfl
  · exact vx_isRef h rfl
/-- the same frame, seen from here: as if the method were called anew in this heap -/
theorem vx_rebase {T : State} (X : Stand p l e R s m args below meth c T locs cells slots) {R' : Room} (hf : R'.frames ≤ R.frames) (hl : R'.locals ≤ R.locals) (hc : cells + R'.cells ≤ R.cells) (hs : slots + R'.slots ≤ R.slots) :
    Stand p l e R' ((T.setVm s.vm).setFrames (.invoking m args :: below)) m args below meth c T [] 0 0 := by
  have htop : (T.setVm s.vm).topJava?.isSome := X.here.top
  have hF : ((T.setVm s.vm).setFrames (.invoking m args :: below)).frames = .invoking m args :: below := State.frames_setFrames _ (State.cur_lt_of_top htop)
  obtain ⟨g₀, hg0⟩ := Option.isSome_iff_exists.mp htop
  obtain ⟨r, hr⟩ := State.topJava?_eq_some.mp hg0
  have hl9 : e.platform.stackLimits (T.setVm s.vm).me = e.platform.stackLimits s.me := X.limits
  have hb9 : (T.setVm s.vm).me.stackBytes = s.me.stackBytes := X.bytes
  refine ⟨X.admits, X.cas, X.clock, hF, ?_, X.hears, X.method, X.code, X.here, X.tail, X.warmed, ?_, ?_, ?_⟩
  · have h := X.room
    have hU : ((T.setVm s.vm).setFrames (.invoking m args :: below)).localsInUse = s.localsInUse := by
      rw [State.localsInUse_invoking hF (meth := meth) (c := c) X.method X.code, State.localsInUse_invoking X.frames X.method X.code]
    simp only [State.hasRoom, Bool.and_eq_true, decide_eq_true_eq] at h ⊢
    obtain ⟨⟨⟨⟨h1, h2, h3, h4, h5, h6⟩, h7⟩, h8⟩, h9⟩ := h
    rw [X.frames, List.length_cons] at h2 h3
    have q1 := X.heapSize
    have q2 := X.used
    simp only [hF, hU, List.length_cons, State.stackLimits_setFrames, State.stackBytes_setFrames, hl9, hb9]
    refine ⟨⟨⟨⟨by omega, by omega, by omega, by omega, by omega, h6⟩, ?_⟩, ?_⟩, X.book⟩
    · show T.heap.size + R'.cells ≤ e.platform.maxCells
      omega
    · show T.slotsUsed + R'.slots ≤ e.platform.maxSlots
      omega
  · rw [State.stackLimits_setFrames]; rfl
  · rw [State.stackBytes_setFrames]; rfl
  · refine ⟨?_, Nat.le_refl _, Nat.le_refl _, ?_, ?_, fun a c9 h9 => ⟨c9, h9, rfl, rfl, fun _ _ => rfl⟩⟩
    · obtain ⟨t, ht, -⟩ := State.frames_cons hr
      show T.setVm s.vm = { ((T.setVm s.vm).setFrames (.invoking m args :: below)).setFrames (T.setVm s.vm).frames with heap := T.heap, slotsUsed := T.slotsUsed }
      rw [State.setFrames_setFrames, State.setFrames_self ht]
      rfl
    · show T.slotsUsed = T.slotsUsed + ((T.heap.toList.drop T.heap.size).map (·.slots.size)).sum
      rw [List.drop_eq_nil_of_le (Nat.le_of_eq Array.length_toList)]
      rfl
    · show ((T.heap.toList.drop T.heap.size).map (·.slots.size)).sum ≤ 0
      rw [List.drop_eq_nil_of_le (Nat.le_of_eq Array.length_toList)]
      exact Nat.le_refl _
/-- 'throw new E()': new; dup; invokespecial; athrow -/
theorem vx_throw0 {cc : ByteArray} {pc : Nat} (hexec : p.tables.exec = Jvm.exec) (hb : c.code = cc) (hl : l.stackTraces = false) {own cls : String} {names : List String} {ik ic mc ms : Nat} {A : Nat → Prop}
    (hown : s.vm.findClass own = some m.cls) (hcls : Bundle.fit cls = true) (hnames : ∀ n ∈ names, Bundle.fit n = true)
    (hk : (Cond.classLink own ik cls).before args s = true) (hini : (Cond.initialized cls).before args s = true) (hat : ∀ w ∈ vx_at0 own ic cls names, w.before args s = true)
    (hgood : ∀ w ∈ Cond.classLink own ik cls :: Cond.initialized cls :: vx_at0 own ic cls names, vx_ot w = true)
    (hU : vx_Zq Bundle.tN "UNASSIGNED_STACK" Bundle.steD A s s.heap) (hN : vx_Zq Bundle.tN "SUPPRESSED_SENTINEL" Bundle.listD A s s.heap) (hS : va_S A s.heap H locs) (hsize : ls.size = c.maxLocals)
    (d0 : decode cc pc = .ok (.new ik, 3)) (d3 : decode cc (pc + 3) = .ok (.dup, 1)) (d4 : decode cc (pc + 4) = .ok (.invokespecial ic, 3)) (d7 : decode cc (pc + 7) = .ok (.athrow, 1))
    (hout : ∀ x ∈ c.exceptionTable.toList, covers x (pc + 7) = false)
    (hRframes : names.length + 3 < R.frames) (hRlocals : (rest.map fun v => v.category).sum + (13 * (names.length + 1) + 42) ≤ R.locals) (hRcells : cells + 1 ≤ R.cells) (hRslots : slots + 6 ≤ R.slots) (hlocks : meth.locks = false)
    (hx : ∀ t : State, s.vm.Alike t.vm → H.size ≤ t.heap.size → (∀ q : Nat, q < H.size → t.heap[q]? = H[q]?) → XC cls s t)
    (hf : ∀ z ∈ locs, free z.base) (hc : cells + 1 ≤ mc) (hs : slots + 6 ≤ ms) :
    W p l e R s m args below meth c H locs cells slots (vx_MQ below Qc XC args s mc ms free) (F0 m pc ls rest) := by
  intro T hT X
  have htr : e.platform.stackTraces = false := (show e.platform.stackTraces = l.stackTraces by rw [X.admits.platform]).trans hl
  have Y := vx_rebase X (R' := { frames := R.frames, locals := R.locals, cells := 1, slots := 6 }) (Nat.le_refl _) (Nat.le_refl _) hRcells hRslots
  obtain ⟨s', hA⟩ : ∃ z, z = (T.setVm s.vm).setFrames (.invoking m args :: below) := ⟨_, rfl⟩
  rw [← hA] at Y
  have hvm : s'.vm = s.vm := by rw [hA]; rfl
  have hhp : s'.heap = H := by rw [hA]; exact hT
  have hW0 : s.WarmedH s'.vm := by rw [hvm]; exact State.WarmedH.refl s
  have hat' : ∀ w ∈ vx_at0 own ic cls names, w.before args s' = true := fun w hw => vx_ot_at hW0 hvm.symm (hgood w (List.mem_cons_of_mem _ (List.mem_cons_of_mem _ hw))) (hat w hw)
  have hk' : (Cond.classLink own ik cls).before args s' = true := vx_ot_at hW0 hvm.symm (hgood _ List.mem_cons_self) hk
  have hini' : (Cond.initialized cls).before args s' = true := vx_ot_at hW0 hvm.symm (hgood _ (List.mem_cons_of_mem _ List.mem_cons_self)) hini
  have hU' : vx_Zq Bundle.tN "UNASSIGNED_STACK" Bundle.steD A s' s'.heap := by rw [hhp]; exact vx_Zq.moved hW0.alike (hU.kept hS.2.1)
  have hN' : vx_Zq Bundle.tN "SUPPRESSED_SENTINEL" Bundle.listD A s' s'.heap := by rw [hhp]; exact vx_Zq.moved hW0.alike (hN.kept hS.2.1)
  have h : ∀ w ∈ Bundle.ownAtoms0 own ic cls names, w.before args s' = true := vx_own hat' (vx_isRefq hU'.1) (vx_isRefq hN'.1) hU'.2.word hN'.2.word
  have hown' : s'.vm.findClass own = some m.cls := by rw [hvm]; exact hown
  have hins : (Cond.instantiable cls 6).before args s' = true := h _ (by simp [Bundle.ownAtoms0])
  obtain ⟨vm₁, cX, kX, hfX, hkX, -, -, X₁, st1⟩ := Y.newCold hexec (own := own) (C := cls) (index := ik) (n := 6) hown' hk' hins hini'
    (g := F0 m pc ls rest) rfl (by rw [hb]; exact d0) (Nat.le_refl _) (Nat.le_refl _)
  generalize hT1 : (T.setVm vm₁).pushCell { cls := cX, slots := kX.instanceTypes.map defaultValue, vm := .none } = T1 at X₁ st1
  have hcat : (Value.ref T.heap.size).category = 1 := rfl
  have hcellA : T1.heap[T.heap.size]? = some (freshCell cX kX) := by rw [← hT1]; exact State.heap_pushCell_size _ _
  have d3' : decode c.code (pc + 3) = .ok (.dup, 1) := by rw [hb]; exact d3
  obtain ⟨U, hsteps, hrun, hend, hW, hsame, ce, hce, hO⟩ := X₁.ctorThrow0 hexec htr (own := own) (cls := cls) (names := names) (ic := ic) hown' hcls hnames h (fun x hx => nomatch hx) hfX hkX hcellA (by rw [hhp, hT]; exact Nat.le_refl _)
    (g := { method := m, pc := pc + 4, locals := ls, stack := .ref T.heap.size :: .ref T.heap.size :: rest, locked := none }) rfl hsize rfl rfl (rest := rest) rfl
    (by rw [hb]; exact d4) (by rw [hb]; exact d7) hout hRframes (by simp only [List.map_cons, List.sum_cons, hcat]; omega) hlocks
  obtain ⟨f1, f2⟩ := vx_frame hsame
  rw [hhp] at f1 f2
  have hWs : s.WarmedH U.vm := State.WarmedH.trans hW0 hW
  have hcl : s.vm.findClass cls = some ce.cls := by
    have h9 := hO.cls
    rw [hvm] at h9
    exact h9
  have hall : s.sameButNew ({ U with vm := s.vm } : State) locs mc ms := by
    subst hA
    obtain ⟨e1, e2⟩ := hsame
    rw [State.setFrames_setFrames] at e1
    have h2 : (T.setVm s.vm).sameButNew ({ U with vm := s.vm } : State) [] (0 + 1) (0 + 6) := ⟨e1, e2⟩
    have h3 := X.same.trans h2
    rw [List.append_nil] at h3
    exact h3.mono hc hs
  refine ⟨U, ?_, .threw T.heap.size, hrun, hend, Or.inr ⟨T.heap.size, rfl, cls, ce, locs, hx U hWs.alike f1 (fun q hq => f2 q hq (fun z hz => nomatch hz)), hce, hO.vm, hcl, hWs, hall, hf⟩⟩
  refine st1 _ ?_
  show Steps p.tables e below (T1.setTop { method := m, pc := pc + 3, locals := ls, stack := .ref T.heap.size :: rest, locked := none }) _
  jvm_step X₁.here [X₁.here.top, hexec, d3', Value.category]
  exact hsteps
/-- 'throw new E("text")': new; dup; ldc; invokespecial; athrow -/
theorem vx_throwS {cc : ByteArray} {pc : Nat} (hexec : p.tables.exec = Jvm.exec) (hb : c.code = cc) (hl : l.stackTraces = false) {own cls text : String} {names : List String} {ik is ic mc ms sa : Nat} {A : Nat → Prop}
    (hown : s.vm.findClass own = some m.cls) (hcls : Bundle.fit cls = true) (hnames : ∀ n ∈ names, Bundle.fit n = true)
    (hk : (Cond.classLink own ik cls).before args s = true) (hini : (Cond.initialized cls).before args s = true) (hstr : vk_R own is text sa s) (hat : ∀ w ∈ vx_atS own ic cls names, w.before args s = true)
    (hgood : ∀ w ∈ Cond.classLink own ik cls :: Cond.initialized cls :: vx_atS own ic cls names, vx_ot w = true)
    (hU : vx_Zq Bundle.tN "UNASSIGNED_STACK" Bundle.steD A s s.heap) (hN : vx_Zq Bundle.tN "SUPPRESSED_SENTINEL" Bundle.listD A s s.heap) (hS : va_S A s.heap H locs) (hsize : ls.size = c.maxLocals)
    (d0 : decode cc pc = .ok (.new ik, 3)) (d3 : decode cc (pc + 3) = .ok (.dup, 1)) (d4 : decode cc (pc + 4) = .ok (.ldc is, 2)) (d6 : decode cc (pc + 6) = .ok (.invokespecial ic, 3)) (d9 : decode cc (pc + 9) = .ok (.athrow, 1))
    (hout : ∀ x ∈ c.exceptionTable.toList, covers x (pc + 9) = false)
    (hRframes : names.length + 3 < R.frames) (hRlocals : (rest.map fun v => v.category).sum + (13 * (names.length + 1) + 43) ≤ R.locals) (hRcells : cells + 1 ≤ R.cells) (hRslots : slots + 6 ≤ R.slots) (hlocks : meth.locks = false)
    (hx : ∀ t : State, s.vm.Alike t.vm → H.size ≤ t.heap.size → (∀ q : Nat, q < H.size → t.heap[q]? = H[q]?) → XC cls s t)
    (hf : ∀ z ∈ locs, free z.base) (hc : cells + 1 ≤ mc) (hs : slots + 6 ≤ ms) :
    W p l e R s m args below meth c H locs cells slots (vx_MQ below Qc XC args s mc ms free) (F0 m pc ls rest) := by
  intro T hT X
  have htr : e.platform.stackTraces = false := (show e.platform.stackTraces = l.stackTraces by rw [X.admits.platform]).trans hl
  have Y := vx_rebase X (R' := { frames := R.frames, locals := R.locals, cells := 1, slots := 6 }) (Nat.le_refl _) (Nat.le_refl _) hRcells hRslots
  obtain ⟨s', hA⟩ : ∃ z, z = (T.setVm s.vm).setFrames (.invoking m args :: below) := ⟨_, rfl⟩
  rw [← hA] at Y
  have hvm : s'.vm = s.vm := by rw [hA]; rfl
  have hhp : s'.heap = H := by rw [hA]; exact hT
  have hW0 : s.WarmedH s'.vm := by rw [hvm]; exact State.WarmedH.refl s
  have hat' : ∀ w ∈ vx_atS own ic cls names, w.before args s' = true := fun w hw => vx_ot_at hW0 hvm.symm (hgood w (List.mem_cons_of_mem _ (List.mem_cons_of_mem _ hw))) (hat w hw)
  have hk' : (Cond.classLink own ik cls).before args s' = true := vx_ot_at hW0 hvm.symm (hgood _ List.mem_cons_self) hk
  have hini' : (Cond.initialized cls).before args s' = true := vx_ot_at hW0 hvm.symm (hgood _ (List.mem_cons_of_mem _ List.mem_cons_self)) hini
  have hU' : vx_Zq Bundle.tN "UNASSIGNED_STACK" Bundle.steD A s' s'.heap := by rw [hhp]; exact vx_Zq.moved hW0.alike (hU.kept hS.2.1)
  have hN' : vx_Zq Bundle.tN "SUPPRESSED_SENTINEL" Bundle.listD A s' s'.heap := by rw [hhp]; exact vx_Zq.moved hW0.alike (hN.kept hS.2.1)
  have h : ∀ w ∈ Bundle.ownAtoms own ic cls names, w.before args s' = true := vx_own hat' (vx_isRefq hU'.1) (vx_isRefq hN'.1) hU'.2.word hN'.2.word
  have hown' : s'.vm.findClass own = some m.cls := by rw [hvm]; exact hown
  have hins : (Cond.instantiable cls 6).before args s' = true := h _ (by simp [Bundle.ownAtoms])
  obtain ⟨vm₁, cX, kX, hfX, hkX, -, -, X₁, st1⟩ := Y.newCold hexec (own := own) (C := cls) (index := ik) (n := 6) hown' hk' hins hini'
    (g := F0 m pc ls rest) rfl (by rw [hb]; exact d0) (Nat.le_refl _) (Nat.le_refl _)
  generalize hT1 : (T.setVm vm₁).pushCell { cls := cX, slots := kX.instanceTypes.map defaultValue, vm := .none } = T1 at X₁ st1
  have hcat : (Value.ref T.heap.size).category = 1 := rfl
  have hcellA : T1.heap[T.heap.size]? = some (freshCell cX kX) := by rw [← hT1]; exact State.heap_pushCell_size _ _
  have d3' : decode c.code (pc + 3) = .ok (.dup, 1) := by rw [hb]; exact d3
  have d4' : decode c.code (pc + 4) = .ok (.ldc is, 2) := by rw [hb]; exact d4
  have hstr' : vk_R own is text sa s' := vk_R.warm hW0 hstr
  obtain ⟨U, hsteps, hrun, hend, hW, hsame, ce, hce, hO⟩ := X₁.ctorThrowS hexec htr (own := own) (cls := cls) (names := names) (ic := ic) hown' hcls hnames h (fun x hx => nomatch hx) hfX hkX hcellA (by rw [hhp, hT]; exact Nat.le_refl _) (msg := .ref sa) rfl
    (g := { method := m, pc := pc + 6, locals := ls, stack := .ref sa :: .ref T.heap.size :: .ref T.heap.size :: rest, locked := none }) rfl hsize rfl rfl (rest := rest) rfl
    (by rw [hb]; exact d6) (by rw [hb]; exact d9) hout hRframes (by simp only [List.map_cons, List.sum_cons, hcat]; omega) hlocks
  obtain ⟨f1, f2⟩ := vx_frame hsame
  rw [hhp] at f1 f2
  have hWs : s.WarmedH U.vm := State.WarmedH.trans hW0 hW
  have hcl : s.vm.findClass cls = some ce.cls := by
    have h9 := hO.cls
    rw [hvm] at h9
    exact h9
  have hall : s.sameButNew ({ U with vm := s.vm } : State) locs mc ms := by
    subst hA
    obtain ⟨e1, e2⟩ := hsame
    rw [State.setFrames_setFrames] at e1
    have h2 : (T.setVm s.vm).sameButNew ({ U with vm := s.vm } : State) [] (0 + 1) (0 + 6) := ⟨e1, e2⟩
    have h3 := X.same.trans h2
    rw [List.append_nil] at h3
    exact h3.mono hc hs
  refine ⟨U, ?_, .threw T.heap.size, hrun, hend, Or.inr ⟨T.heap.size, rfl, cls, ce, locs, hx U hWs.alike f1 (fun q hq => f2 q hq (fun z hz => nomatch hz)), hce, hO.vm, hcl, hWs, hall, hf⟩⟩
  refine st1 _ ?_
  show Steps p.tables e below (T1.setTop { method := m, pc := pc + 3, locals := ls, stack := .ref T.heap.size :: rest, locked := none }) _
  jvm_step X₁.here [X₁.here.top, hexec, d3', Value.category]
  exact X₁.ldcString hexec (own := own) (text := text) (index := is) (a := sa) hown' hstr'.1 hstr'.2
    (g := { method := m, pc := pc + 4, locals := ls, stack := .ref T.heap.size :: .ref T.heap.size :: rest, locked := none }) rfl d4' _ hsteps
/-- 'throw new E("text")', the text by a wide index -/
theorem vx_throwSW {cc : ByteArray} {pc : Nat} (hexec : p.tables.exec = Jvm.exec) (hb : c.code = cc) (hl : l.stackTraces = false) {own cls text : String} {names : List String} {ik is ic mc ms sa : Nat} {A : Nat → Prop}
    (hown : s.vm.findClass own = some m.cls) (hcls : Bundle.fit cls = true) (hnames : ∀ n ∈ names, Bundle.fit n = true)
    (hk : (Cond.classLink own ik cls).before args s = true) (hini : (Cond.initialized cls).before args s = true) (hstr : vk_R own is text sa s) (hat : ∀ w ∈ vx_atS own ic cls names, w.before args s = true)
    (hgood : ∀ w ∈ Cond.classLink own ik cls :: Cond.initialized cls :: vx_atS own ic cls names, vx_ot w = true)
    (hU : vx_Zq Bundle.tN "UNASSIGNED_STACK" Bundle.steD A s s.heap) (hN : vx_Zq Bundle.tN "SUPPRESSED_SENTINEL" Bundle.listD A s s.heap) (hS : va_S A s.heap H locs) (hsize : ls.size = c.maxLocals)
    (d0 : decode cc pc = .ok (.new ik, 3)) (d3 : decode cc (pc + 3) = .ok (.dup, 1)) (d4 : decode cc (pc + 4) = .ok (.ldc_w is, 3)) (d7 : decode cc (pc + 7) = .ok (.invokespecial ic, 3)) (d10 : decode cc (pc + 10) = .ok (.athrow, 1))
    (hout : ∀ x ∈ c.exceptionTable.toList, covers x (pc + 10) = false)
    (hRframes : names.length + 3 < R.frames) (hRlocals : (rest.map fun v => v.category).sum + (13 * (names.length + 1) + 43) ≤ R.locals) (hRcells : cells + 1 ≤ R.cells) (hRslots : slots + 6 ≤ R.slots) (hlocks : meth.locks = false)
    (hx : ∀ t : State, s.vm.Alike t.vm → H.size ≤ t.heap.size → (∀ q : Nat, q < H.size → t.heap[q]? = H[q]?) → XC cls s t)
    (hf : ∀ z ∈ locs, free z.base) (hc : cells + 1 ≤ mc) (hs : slots + 6 ≤ ms) :
    W p l e R s m args below meth c H locs cells slots (vx_MQ below Qc XC args s mc ms free) (F0 m pc ls rest) := by
  intro T hT X
  have htr : e.platform.stackTraces = false := (show e.platform.stackTraces = l.stackTraces by rw [X.admits.platform]).trans hl
  have Y := vx_rebase X (R' := { frames := R.frames, locals := R.locals, cells := 1, slots := 6 }) (Nat.le_refl _) (Nat.le_refl _) hRcells hRslots
  obtain ⟨s', hA⟩ : ∃ z, z = (T.setVm s.vm).setFrames (.invoking m args :: below) := ⟨_, rfl⟩
  rw [← hA] at Y
  have hvm : s'.vm = s.vm := by rw [hA]; rfl
  have hhp : s'.heap = H := by rw [hA]; exact hT
  have hW0 : s.WarmedH s'.vm := by rw [hvm]; exact State.WarmedH.refl s
  have hat' : ∀ w ∈ vx_atS own ic cls names, w.before args s' = true := fun w hw => vx_ot_at hW0 hvm.symm (hgood w (List.mem_cons_of_mem _ (List.mem_cons_of_mem _ hw))) (hat w hw)
  have hk' : (Cond.classLink own ik cls).before args s' = true := vx_ot_at hW0 hvm.symm (hgood _ List.mem_cons_self) hk
  have hini' : (Cond.initialized cls).before args s' = true := vx_ot_at hW0 hvm.symm (hgood _ (List.mem_cons_of_mem _ List.mem_cons_self)) hini
  have hU' : vx_Zq Bundle.tN "UNASSIGNED_STACK" Bundle.steD A s' s'.heap := by rw [hhp]; exact vx_Zq.moved hW0.alike (hU.kept hS.2.1)
  have hN' : vx_Zq Bundle.tN "SUPPRESSED_SENTINEL" Bundle.listD A s' s'.heap := by rw [hhp]; exact vx_Zq.moved hW0.alike (hN.kept hS.2.1)
  have h : ∀ w ∈ Bundle.ownAtoms own ic cls names, w.before args s' = true := vx_own hat' (vx_isRefq hU'.1) (vx_isRefq hN'.1) hU'.2.word hN'.2.word
  have hown' : s'.vm.findClass own = some m.cls := by rw [hvm]; exact hown
  have hins : (Cond.instantiable cls 6).before args s' = true := h _ (by simp [Bundle.ownAtoms])
  obtain ⟨vm₁, cX, kX, hfX, hkX, -, -, X₁, st1⟩ := Y.newCold hexec (own := own) (C := cls) (index := ik) (n := 6) hown' hk' hins hini'
    (g := F0 m pc ls rest) rfl (by rw [hb]; exact d0) (Nat.le_refl _) (Nat.le_refl _)
  generalize hT1 : (T.setVm vm₁).pushCell { cls := cX, slots := kX.instanceTypes.map defaultValue, vm := .none } = T1 at X₁ st1
  have hcat : (Value.ref T.heap.size).category = 1 := rfl
  have hcellA : T1.heap[T.heap.size]? = some (freshCell cX kX) := by rw [← hT1]; exact State.heap_pushCell_size _ _
  have d3' : decode c.code (pc + 3) = .ok (.dup, 1) := by rw [hb]; exact d3
  have d4' : decode c.code (pc + 4) = .ok (.ldc_w is, 3) := by rw [hb]; exact d4
  have hstr' : vk_R own is text sa s' := vk_R.warm hW0 hstr
  obtain ⟨U, hsteps, hrun, hend, hW, hsame, ce, hce, hO⟩ := X₁.ctorThrowS hexec htr (own := own) (cls := cls) (names := names) (ic := ic) hown' hcls hnames h (fun x hx => nomatch hx) hfX hkX hcellA (by rw [hhp, hT]; exact Nat.le_refl _) (msg := .ref sa) rfl
    (g := { method := m, pc := pc + 7, locals := ls, stack := .ref sa :: .ref T.heap.size :: .ref T.heap.size :: rest, locked := none }) rfl hsize rfl rfl (rest := rest) rfl
    (by rw [hb]; exact d7) (by rw [hb]; exact d10) hout hRframes (by simp only [List.map_cons, List.sum_cons, hcat]; omega) hlocks
  obtain ⟨f1, f2⟩ := vx_frame hsame
  rw [hhp] at f1 f2
  have hWs : s.WarmedH U.vm := State.WarmedH.trans hW0 hW
  have hcl : s.vm.findClass cls = some ce.cls := by
    have h9 := hO.cls
    rw [hvm] at h9
    exact h9
  have hall : s.sameButNew ({ U with vm := s.vm } : State) locs mc ms := by
    subst hA
    obtain ⟨e1, e2⟩ := hsame
    rw [State.setFrames_setFrames] at e1
    have h2 : (T.setVm s.vm).sameButNew ({ U with vm := s.vm } : State) [] (0 + 1) (0 + 6) := ⟨e1, e2⟩
    have h3 := X.same.trans h2
    rw [List.append_nil] at h3
    exact h3.mono hc hs
  refine ⟨U, ?_, .threw T.heap.size, hrun, hend, Or.inr ⟨T.heap.size, rfl, cls, ce, locs, hx U hWs.alike f1 (fun q hq => f2 q hq (fun z hz => nomatch hz)), hce, hO.vm, hcl, hWs, hall, hf⟩⟩
  refine st1 _ ?_
  show Steps p.tables e below (T1.setTop { method := m, pc := pc + 3, locals := ls, stack := .ref T.heap.size :: rest, locked := none }) _
  jvm_step X₁.here [X₁.here.top, hexec, d3', Value.category]
  exact X₁.ldcStringW hexec (own := own) (text := text) (index := is) (a := sa) hown' hstr'.1 hstr'.2
    (g := { method := m, pc := pc + 4, locals := ls, stack := .ref T.heap.size :: .ref T.heap.size :: rest, locked := none }) rfl d4' _ hsteps
end Ends
section Bodies
variable {l : Launch}
theorem vx_ofW {y : MethodName} {ws ws' : List Cond} {rm : Room} {Pc : Array Value → State → Prop} {Qc : Array Value → State → Outcome → State → Prop} {XC : String → State → State → Prop} {mc ms : Nat} {free : Addr → Prop} {cc : ByteArray} {maxL : Nat} {ret : Option FieldType}
    (hy : plainName y.cls = true) (hw : ws = Cond.code y cc maxL ret :: ws')
    (body : ∀ p e s m args below meth c s₁, BodyLoose p l y (headSpec ws rm) cc maxL ret e s m args below meth c s₁ → c.maxLocals = maxL → (∀ x ∈ c.exceptionTable.toList, False) → Pc args s →
      W p l e (headSpec ws rm).room s m args below meth c s.heap [] 0 0 (vx_MQ below Qc XC args s mc ms free) (entryFrame m args maxL)) : vx_Met l y ws rm Pc Qc XC mc ms free := by
  refine MetFree.of_bodyS (code := cc) (maxLocals := maxL) (ret := ret) hy ?_ ?_
  · intro args s m h hn
    obtain ⟨meth, c, h1, h2, h3, h4, h5, h6, -, -⟩ := Cond.code_spec hn (atoms_spec (ws := ws) h _ (by rw [hw]; exact List.mem_cons_self))
    exact ⟨meth, c, h1, h2, h3, h4, h5, h6⟩
  · intro p e s m args below meth c s₁ B hml hP _
    have hh0 : s₁.heap = s.heap := by rw [B.state]; rfl
    have ht : ∀ x ∈ c.exceptionTable.toList, False := by
      obtain ⟨meth9, c9, h1, h2, -, -, -, -, h7, -⟩ := Cond.code_spec B.named (atoms_spec (ws := ws) B.pre _ (by rw [hw]; exact List.mem_cons_self))
      cases Option.some.inj (h1.symm.trans B.method)
      cases Option.some.inj (h2.symm.trans (Stand.of_body B).code)
      intro x hx
      rw [Array.isEmpty_iff.mp h7] at hx
      cases hx
    obtain ⟨t, a1, o, b1, b2, b3⟩ := body p e s m args below meth c s₁ B hml ht hP s₁ hh0 (Stand.of_body B)
    exact ⟨t, o, a1, b1, b2, b3⟩
/-- the table of a body with handlers -/
theorem vx_table {p : Program} {x y : MethodName} {S : Spec} {cc bytes : ByteArray} {maxL maxL' : Nat} {ret ret' : Option FieldType} {e : Env} {s s₁ : State} {m : MethodId} {args : Array Value} {below : List Frame} {meth : Method} {c : Code} {hh : List (Nat × Nat × Nat × Nat)}
    (B : BodyLoose p l y S cc maxL ret e s m args below meth c s₁) (h : (Cond.codeWith y bytes maxL' ret' hh).before args s = true) : c.exceptionTable.toList = tableOf hh := by
  obtain ⟨m9, meth9, c9, hn9, h1, h2, -, -, h6, -⟩ := Cond.codeWith_spec h
  cases Option.some.inj (hn9.symm.trans B.named)
  cases Option.some.inj (h1.symm.trans B.method)
  cases Option.some.inj (h2.symm.trans (Stand.of_body B).code)
  rw [← h6, table_eq]
end Bodies
end VXA
/-! ===== END ===== -/
/-! ===== BEGIN a static call of a method with an exception table ===== -/
section VXS
variable {p : Program} {l : Launch} {e : Env} {R : Room} {s : State} {m : MethodId} {args : Array Value} {below : List Frame} {meth : Method} {c : Code} {T : State} {H : Heap} {locs : List Loc} {cells slots : Nat}
abbrev vx_CSW (R : Room) (s : State) (args : Array Value) (own : String) (index : Nat) (y : MethodName) (bytes : ByteArray) (maxL : Nat) (ret : Option FieldType) (hh : List (Nat × Nat × Nat × Nat)) (ws : List Cond) (rm : Room) (mc ms n : Nat) : Prop :=
  (rm.cells = mc ∧ rm.slots = ms ∧ rm.frames + 1 ≤ R.frames ∧ 8 + (maxL + 11) + rm.locals ≤ R.locals ∧ (∀ w ∈ ws, ∀ (a' : Array Value) (U : State), s.WarmedH U.vm → w.before a' U = true) ∧ Cond.codeWith y bytes maxL ret hh ∈ ws) ∧
  (Cond.codeWith y bytes maxL ret hh).before args s = true ∧ (Cond.initialized y.cls).before args s = true ∧ (y.cls ≠ "java/lang/invoke/MethodHandle" ∧ y.cls ≠ "java/lang/invoke/VarHandle") ∧
  (∀ sig, parseMethodDescriptor y.desc = some sig → n = sig.parameters.length) ∧ (Cond.methodLink own index y).before args s = true ∧ (Cond.static y).before args s = true
theorem vx_cwSW {own : String} {index maxL mc ms : Nat} {y : MethodName} {bytes : ByteArray} {ret : Option FieldType} {hh : List (Nat × Nat × Nat × Nat)} {Ts ws ws' : List Cond} {rm : Room} (n : Nat) (ht : ∀ w ∈ Ts, w.before args s = true) (hT : GoodIn Ts (va_wsS own index y ws)) (hw : ws = Cond.codeWith y bytes maxL ret hh :: ws') (hrc : rm.cells = mc) (hrs : rm.slots = ms)
    (hd : y.cls ≠ "java/lang/invoke/MethodHandle" ∧ y.cls ≠ "java/lang/invoke/VarHandle" ∧ (parseMethodDescriptor y.desc).map (fun d => d.parameters.length) = some n) (hR : rm.frames + 1 ≤ R.frames ∧ 8 + (maxL + 11) + rm.locals ≤ R.locals) :
    vx_CSW R s args own index y bytes maxL ret hh ws rm mc ms n := by
  have ok : ∀ w ∈ va_wsS own index y ws, w.before args s = true := fun w h => ht w (hT w h).1
  have hG : GoodIn Ts ws := fun w h => hT w (by unfold va_wsS; exact List.mem_append_right _ h)
  have hc : Cond.codeWith y bytes maxL ret hh ∈ ws := by rw [hw]; exact List.mem_cons_self
  refine ⟨⟨hrc, hrs, hR.1, hR.2, pay_in ht hG, hc⟩, ht _ (hG _ hc).1, ok _ (by simp [va_wsS]), ⟨hd.1, hd.2.1⟩, fun sig h => ?_, ok _ (by simp [va_wsS]), ok _ (by simp [va_wsS])⟩
  have h2 := hd.2.2
  rw [h] at h2
  exact (Option.some.inj h2).symm
theorem vx_callSW (X : Stand p l e R s m args below meth c T locs cells slots) (hexec : p.tables.exec = Jvm.exec) {own : String} {index : Nat} {y : MethodName} {bytes : ByteArray} {maxL : Nat} {ret : Option FieldType} {hh : List (Nat × Nat × Nat × Nat)}
    (hown : s.vm.findClass own = some m.cls) (hlink : (Cond.methodLink own index y).before args s = true) (hstat : (Cond.static y).before args s = true) (hinit : (Cond.initialized y.cls).before args s = true)
    (hcode : (Cond.codeWith y bytes maxL ret hh).before args s = true) (hy : y.cls ≠ "java/lang/invoke/MethodHandle" ∧ y.cls ≠ "java/lang/invoke/VarHandle")
    {W9 : Nat} {Pre : Pt → Array Value → Prop} {Post : Pt → Array Value → Option Value → Pt → Prop} (hK : Back l R p e below s args y 3 W9 Pre Post)
    {g : JFrame} (hg : g.method = m) (hsize : g.locals.size = c.maxLocals) {argsL rest : List Value} (hlen : ∀ sig, parseMethodDescriptor y.desc = some sig → argsL.length = sig.parameters.length)
    (hstack : g.stack = argsL.reverse ++ rest) (hW : 2 * g.monitorRoom + (rest.map fun v => v.category).sum ≤ W9) (hdg : decode c.code g.pc = .ok (.invokestatic index, 3))
    (hpre : ∀ vm₁, s.WarmedH vm₁ → Pre ⟨T.setVm vm₁, locs, cells, slots⟩ argsL.toArray) :
    ∃ (v : Option Value) (vm₁ : Vm) (B : Pt), s.WarmedH vm₁ ∧ Stand p l e R s m args below meth c B.U B.locs B.cells B.slots ∧ Post ⟨T.setVm vm₁, locs, cells, slots⟩ argsL.toArray v B ∧
      ∀ target, Steps p.tables e below (B.U.setTop { g with pc := g.pc + 3, stack := v.toList ++ rest }) target → Steps p.tables e below (T.setTop g) target := by
  obtain ⟨mk, methM, cM, hnamed, hmethM, -, -, -, -, -, -, hsigM⟩ := Cond.codeWith_spec hcode
  have hstatic : methM.isStatic = true := Cond.static_spec hnamed hmethM hstat
  obtain ⟨kP, hkP, -⟩ := className_of_methodNamed hnamed
  have hinitP : kP.init = .initialized := Cond.initialized_spec (findClass_of_methodNamed hnamed) hkP hinit
  obtain ⟨vm₁, X₁, hstep₁⟩ := X.invokestatic hexec hown hlink hnamed hmethM hstatic hkP hinitP hy (g := g) hg (argsL := argsL) (rest := rest) (hlen _ hsigM) hstack hdg
  obtain ⟨v, B, X', hpost, hsteps⟩ := hK m meth c ⟨T.setVm vm₁, locs, cells, slots⟩ { g with stack := rest } (.invokestatic index) mk argsL.toArray X₁ hg hsize hdg hW (X₁.named hnamed) (hpre vm₁ X₁.warmed)
  exact ⟨v, vm₁, B, X₁.warmed, X', hpost, fun target h => hstep₁ _ fun acts => by rw [doInvoke_state]; exact hsteps.trans h⟩
theorem vx_runSW {y : MethodName} {bytes cc : ByteArray} {maxL nL mc ms n index : Nat} {ret : Option FieldType} {hh : List (Nat × Nat × Nat × Nat)} {ws : List Cond} {rm : Room} {Pc : Array Value → State → Prop} {Qc : Array Value → State → Outcome → State → Prop} {free : Addr → Prop} {Ts : List Cond} {own : String} {As rest : List Value} {g : JFrame}
    (S : CallFix p m c cc nL s args Ts own) (hM : Met l y ws rm Pc Qc mc ms free) (cw : vx_CSW R s args own index y bytes maxL ret hh ws rm mc ms n) (hp : PreS s H Pc As)
    (hg : g.method = m) (hn : As.length = n) (hsize : g.locals.size = nL) (hstack : g.stack = As.reverse ++ rest) (hW : 2 * g.monitorRoom + (rest.map fun v => v.category).sum ≤ 8) (hdg : decode cc g.pc = .ok (.invokestatic index, 3)) (hf : cells + mc ≤ R.cells ∧ slots + ms ≤ R.slots) :
    va_Run p l e R s m args below meth c H locs cells slots mc ms g rest (Qc As.toArray) (free) := by
  obtain ⟨⟨hrc, hrs, hfr, hlo, hws, hcw⟩, hcode, hini, hy, hlen, hl, hstt⟩ := cw
  have hK : Back l R p e below s args y 3 8 (PreOf R mc ms Pc) (PostOf Qc mc ms free) := va_backW (hh := hh) (bytes := bytes) (maxL := maxL) (ret := ret) hM hp.1 hrc hrs hfr hlo hws hcw (fun a' U hW => word_at hW (Or.inl (by first | rfl | simp [Cond.onTables, Cond.keeps, Cond.steady])) hini)
  obtain ⟨hx, hb, hml, ho, -⟩ := S
  intro T hT X
  obtain ⟨v, vm₁, ⟨U', l2, c2, s2⟩, hW₁, X', ⟨g', mk, t, L, e1, e2, hq, h1, hL, h2, h3⟩, st⟩ := vx_callSW X hx (hh := hh) (bytes := bytes) (maxL := maxL) (ret := ret) ho hl hstt hini hcode hy hK hg (hsize.trans hml.symm) (argsL := As) (rest := rest) (fun sig h => hn.trans (hlen sig h)) hstack hW (by rw [hb]; exact hdg)
    (fun vm₁ hW₁ => ⟨hf.1, hf.2, hp.2 (T.setVm vm₁) hT hW₁⟩)
  dsimp only [Pt.U, Pt.locs, Pt.cells, Pt.slots] at X' e1 e2 h1 h2 h3 st
  subst h1; subst h2; subst h3
  exact ⟨v, (T.setVm vm₁).calling g' mk As.toArray, t, U', L, hT, X', hL, e1, e2, hq, st⟩
/-- not caught here, past rows that name other classes: it goes on to the caller -/
theorem vx_outP {p : Program} {l : Launch} {e : Env} {R : Room} {s : State} {m : MethodId} {args : Array Value} {below : List Frame} {meth : Method} {c : Code} {H : Heap} {locs : List Loc} {cells slots : Nat} {free : Addr → Prop} {ls : Array Slot} {rest : List Value} {Qc : Array Value → State → Outcome → State → Prop} {XC : String → State → State → Prop}
    {pc : Nat} {own E : String} {ce : Cell} {q : Addr} {mc ms : Nat} (hown : s.vm.findClass own = some m.cls) (hlocks : meth.locks = false)
    (hpass : ∀ z ∈ c.exceptionTable.toList, covers z pc = false ∨ (z.catchType ≠ 0 ∧ ∃ nm : String, (Cond.classLink own z.catchType nm).before args s = true ∧ va_Nc E nm s)) (hcell : H[q]? = some ce) (hv : ce.vm = .none) (hcl : s.vm.findClass E = some ce.cls)
    (hx : ∀ t : State, t.heap = H → s.vm.Alike t.vm → XC E s t) (hf : ∀ z ∈ locs, free z.base) (hc : cells ≤ mc) (hs : slots ≤ ms) :
    vx_W p l e R s m args below meth c H locs cells slots (vx_MQ below Qc XC args s mc ms free) (F0 m pc ls rest) q := by
  intro T hT X
  have hpl : e.platform.magicAccessors = ({} : Platform).magicAccessors := by rw [X.admits.platform]
  obtain ⟨vm', hW', X', st⟩ := X.outThrough hlocks q (g := F0 m pc ls rest) rfl rfl rfl (cell := ce) (by rw [hT]; exact hcell) (by rw [hv]; rfl)
    (by obtain ⟨k9, h9, -⟩ := Vm.findClass_spec hcl; exact ⟨k9, h9⟩) (fun z hz => by
      rcases hpass z hz with h | ⟨hz0, nm, hl1, hn1⟩
      · exact Or.inl h
      · obtain ⟨c6, hc6, hcl6⟩ := Cond.classLink_spec hown hl1 e.platform hpl
        obtain ⟨a8, b8, h1, h2, h3⟩ := hn1
        cases Option.some.inj (h1.symm.trans hcl)
        cases Option.some.inj (h2.symm.trans hc6)
        exact Or.inr ⟨hz0, _, hcl6, h3⟩)
  obtain ⟨g₀, hfr⟩ := X'.frames_eq
  have hcell9 : ((T.setVm vm').setFrames (.throwing q :: below)).heap[q]? = some ce := by
    show T.heap[q]? = some ce
    rw [hT]; exact hcell
  have hend : Ended ((T.setVm vm').setFrames (.throwing q :: below)) below (.threw q) := State.frames_setFrames _ (State.cur_lt_of_frames hfr)
  refine ⟨(T.setVm vm').setFrames (.throwing q :: below), ?_, .threw q, X'.here.running, hend, Or.inr ⟨q, rfl, E, ce, locs, hx _ hT (X'.ends _).1.alike, hcell9, hv, hcl, (X'.ends _).1, (X'.ends _).2.mono hc hs, hf⟩⟩
  rw [X.pushThrowing_eq]
  exact st
/-- a thing of a world lies in the heap -/
theorem vx_lt {D : va_G} {cl : List vw_C} {ws : va_W} {H1 : Heap} (h : va_P D cl ws H1) {k : Nat} {q : Nat × va_E} (hk : ws[k]? = some q) : q.1 < H1.size := (h k q hk).lt
end VXS
/-! ===== END ===== -/
/-! ===== BEGIN methods with a table of their own: called by a name, returning or throwing ===== -/
section VXH
/-! vx_backW, vx_callVX, vx_callSX, vx_callVW, vx_runVW, vx_runVX, vx_runSX, vx_ofWH follow the same proofs as their sisters above (Free/Laws.lean, Shelf42/LK1.lean); vx_outP calls Shelf42/NT130.lean (outThrough). -/
section
variable {l : Launch} {R : Room} {p : Program} {e : Env} {below : List Frame} {s : State} {sargs : Array Value} {y : MethodName} {len W9 : Nat}
theorem vx_backW {ws : List Cond} {rm : Room} {Pc : Array Value → State → Prop} {Qc : Array Value → State → Outcome → State → Prop} {XC : String → State → State → Prop} {mc ms : Nat} {free : Addr → Prop} {bytes : ByteArray} {maxL : Nat} {ret : Option FieldType} {hh : List (Nat × Nat × Nat × Nat)}
    (hM : vx_Met l y ws rm Pc Qc XC mc ms free) (hblind : FrameBlind Pc) (hrc : rm.cells = mc) (hrs : rm.slots = ms)
    (hframes : rm.frames + 1 ≤ R.frames) (hlocals : W9 + (maxL + 11) + rm.locals ≤ R.locals)
    (hws : ∀ w ∈ ws, ∀ a' U, s.WarmedH U.vm → w.before a' U = true) (hcode : Cond.codeWith y bytes maxL ret hh ∈ ws) (hinit : ∀ a' U, s.WarmedH U.vm → (Cond.initialized y.cls).before a' U = true) :
    vx_Back l R p e below s sargs y len W9 (PreOf R mc ms Pc) (PostOf Qc mc ms free) (vx_Post XC mc ms free) := by
  intro m meth c A g ig mk a X hg hsize hdg hW hn hp
  have h1 : (headSpec ws rm).pre.before a A.U = true := atoms_intro fun w hw => hws w hw _ _ X.warmed
  have h2 : (Cond.codeWith y bytes maxL ret hh).before a A.U = true := hws _ hcode _ _ X.warmed
  have h3 : (Cond.initialized y.cls).before a A.U = true := hinit _ _ X.warmed
  have h4 : A.cells + (headSpec ws rm).room.cells ≤ R.cells := by rw [show (headSpec ws rm).room.cells = mc from hrc]; exact hp.1
  have h5 : A.slots + (headSpec ws rm).room.slots ≤ R.slots := by rw [show (headSpec ws rm).room.slots = ms from hrs]; exact hp.2.1
  have hPc : Pc a (A.U.calling g mk a) := hblind _ _ _ _ hp.2.2
  obtain ⟨U, Ls, c0, s0⟩ := A
  dsimp only [Pt.U, Pt.locs, Pt.cells, Pt.slots] at h1 h2 h3 h4 h5 X hn hPc ⊢
  obtain ⟨m9, methY, cY, hn9, hmY, hcY, -, hlY, -⟩ := Cond.codeWith_spec h2
  cases Option.some.inj (hn9.symm.trans hn)
  obtain ⟨kY, hkY, -⟩ := className_of_methodNamed hn
  have hinitY : kY.init = .initialized := Cond.initialized_spec (findClass_of_methodNamed hn) hkY h3
  have h : At U g.method c below := by rw [hg]; exact X.here
  have hlocals9 : W9 + (maxL + 11) + (headSpec ws rm).room.locals ≤ R.locals := hlocals
  have happ : (headSpec ws rm).appliesLoose y e.platform (U.calling g mk a) = true :=
    Spec.appliesLoose_calling (g := g) h hdg hn hkY hinitY
      (X.room_calling (g := g) (R' := (headSpec ws rm).room) hsize hmY hcY hframes (by rw [hlY]; omega) h4 h5) h1
  obtain ⟨mid, hmid⟩ := h.above
  have hfr : (U.setTop g).frames = (.java g :: mid) ++ below := by rw [State.frames_setTop' g h.top, hmid]; rfl
  obtain ⟨o, s₂, hsteps, -, hend, hq⟩ := Steps.callFree hM p X.admits X.cas X.clock (acts := []) hfr happ hPc trivial
  have hq' : vx_Q Qc XC mc ms free a (U.calling g mk a) o s₂ := hq
  rw [State.frames_setTop' g h.top] at hend
  obtain ⟨g₀, hg0⟩ := Option.isSome_iff_exists.mp h.top
  obtain ⟨r, hr⟩ := State.topJava?_eq_some.mp hg0
  have hr' : (({ U with heap := s₂.heap, slotsUsed := s₂.slotsUsed } : State).setVm s₂.vm).frames = .java g₀ :: r := hr
  rcases hq' with ⟨hqc, L, hfe, hL⟩ | ⟨q, rfl, E, ce, L, hx, hce, hcv, hcl, hW₂, hsm, hL⟩
  · obtain ⟨⟨v, rfl⟩, hW₂, e2, q2, q3, q4, q5, q6⟩ := id hfe
    have e3 : s₂ = ({ (U.calling g mk a).setFrames s₂.frames with heap := s₂.heap, slotsUsed := s₂.slotsUsed } : State).setVm s₂.vm := by
      have : s₂ = ({ s₂ with vm := (U.calling g mk a).vm } : State).setVm s₂.vm := rfl
      rw [e2] at this
      exact this
    obtain ⟨c₂, i₂, len₂, hc₂, hd₂, hf₂⟩ := hend
    have hW' : U.WarmedH s₂.vm := hW₂
    have hcc : c₂ = c := by
      have h1 : s₂.code? g.method = U.code? g.method := by
        rw [State.code?_eq, State.code?_eq, hW'.alike.method?]
      exact Option.some.inj (hc₂.symm.trans (h1.trans h.code))
    subst hcc
    have hlen : len₂ = len := by rw [hdg] at hd₂; cases hd₂; rfl
    subst hlen
    have hs₂ : s₂ = (({ U with heap := s₂.heap, slotsUsed := s₂.slotsUsed } : State).setVm s₂.vm).setTop { g with pc := g.pc + len₂, stack := v.toList ++ g.stack } := by
      refine e3.trans ?_
      rw [hf₂, State.calling_eq h.top, State.setFrames_setFrames, State.setTop_of_frames _ hr', hr]
      rfl
    have hsame : U.sameButNew ({ U with heap := s₂.heap, slotsUsed := s₂.slotsUsed } : State) L mc ms := by
      refine ⟨?_, q2, q3, q4, q5, q6⟩
      obtain ⟨t, ht, -⟩ := State.frames_cons hr
      show ({ U with heap := s₂.heap, slotsUsed := s₂.slotsUsed } : State) = { U.setFrames U.frames with heap := s₂.heap, slotsUsed := s₂.slotsUsed }
      rw [State.setFrames_self ht]
    subst hg
    refine Or.inl ⟨v, ⟨(({ U with heap := s₂.heap, slotsUsed := s₂.slotsUsed } : State).setVm s₂.vm), Ls ++ L, c0 + mc, s0 + ms⟩,
      ⟨X.admits, X.cas, X.clock, X.frames, X.room, X.hears, X.method, X.code, (X.here.setHeapUsed s₂.heap s₂.slotsUsed).setVm hW'.alike, X.tail, State.WarmedH.trans X.warmed hW', X.limits, X.bytes, X.same.trans (hsame.setVm s.vm)⟩,
      ⟨g, mk, s₂, L, rfl, rfl, hqc, rfl, hL, rfl, rfl⟩, ?_⟩
    show Steps p.tables e below _ ((({ U with heap := s₂.heap, slotsUsed := s₂.slotsUsed } : State).setVm s₂.vm).setTop { g with pc := g.pc + len₂, stack := v.toList ++ g.stack })
    rw [← hs₂]
    exact hsteps
  · obtain ⟨e2, q2, q3, q4, q5, q6⟩ := id hsm
    have e3 : s₂ = ({ (U.calling g mk a).setFrames s₂.frames with heap := s₂.heap, slotsUsed := s₂.slotsUsed } : State).setVm s₂.vm := by
      have : s₂ = ({ s₂ with vm := (U.calling g mk a).vm } : State).setVm s₂.vm := rfl
      rw [e2] at this
      exact this
    have hf₂ : s₂.frames = .throwing q :: .java g :: U.frames.tail := hend
    have hW' : U.WarmedH s₂.vm := hW₂
    have hs₂ : s₂ = ((({ U with heap := s₂.heap, slotsUsed := s₂.slotsUsed } : State).setVm s₂.vm).setTop g).pushFrame (.throwing q) := by
      refine e3.trans ?_
      rw [hf₂, State.calling_eq h.top, State.setFrames_setFrames, State.pushFrame, State.frames_setTop _ hr', State.setTop_of_frames _ hr', State.setFrames_setFrames, hr]
      rfl
    have hsame : U.sameButNew ({ U with heap := s₂.heap, slotsUsed := s₂.slotsUsed } : State) L mc ms := by
      refine ⟨?_, q2, q3, q4, q5, q6⟩
      obtain ⟨t, ht, -⟩ := State.frames_cons hr
      show ({ U with heap := s₂.heap, slotsUsed := s₂.slotsUsed } : State) = { U.setFrames U.frames with heap := s₂.heap, slotsUsed := s₂.slotsUsed }
      rw [State.setFrames_self ht]
    subst hg
    refine Or.inr ⟨q, ⟨(({ U with heap := s₂.heap, slotsUsed := s₂.slotsUsed } : State).setVm s₂.vm), Ls ++ L, c0 + mc, s0 + ms⟩,
      ⟨X.admits, X.cas, X.clock, X.frames, X.room, X.hears, X.method, X.code, (X.here.setHeapUsed s₂.heap s₂.slotsUsed).setVm hW'.alike, X.tail, State.WarmedH.trans X.warmed hW', X.limits, X.bytes, X.same.trans (hsame.setVm s.vm)⟩,
      ⟨g, mk, s₂, L, E, ce, rfl, rfl, hx, hce, hcv, hcl, rfl, hL, rfl, rfl⟩, ?_⟩
    show Steps p.tables e below _ (((({ U with heap := s₂.heap, slotsUsed := s₂.slotsUsed } : State).setVm s₂.vm).setTop g).pushFrame (.throwing q))
    rw [← hs₂]
    exact hsteps
end
variable {p : Program} {l : Launch} {e : Env} {R : Room} {s : State} {m : MethodId} {args : Array Value} {below : List Frame} {meth : Method} {c : Code} {T : State} {H : Heap} {locs : List Loc} {cells slots : Nat}
theorem vx_callVX (X : Stand p l e R s m args below meth c T locs cells slots) (hexec : p.tables.exec = Jvm.exec) {own C : String} {index : Nat} {y : MethodName} {bytes : ByteArray} {maxL : Nat} {ret : Option FieldType} {hh : List (Nat × Nat × Nat × Nat)}
    (hown : s.vm.findClass own = some m.cls) (hlink : (Cond.methodLink own index y).before args s = true) (hinst : (Cond.instanceMethod y).before args s = true) (hsel : (Cond.selects C y y).before args s = true)
    (hcode : (Cond.codeWith y bytes maxL ret hh).before args s = true) (hy : y.cls ≠ "java/lang/invoke/MethodHandle" ∧ y.cls ≠ "java/lang/invoke/VarHandle")
    {W9 : Nat} {Pre : Pt → Array Value → Prop} {Post : Pt → Array Value → Option Value → Pt → Prop} {PostX : Pt → Array Value → Addr → Pt → Prop} (hK : vx_Back l R p e below s args y 3 W9 Pre Post PostX)
    {b : Addr} {cellB : Cell} (hcell : T.heap[b]? = some cellB) (hobj : cellB.vm.isStatics = false) (hcls : s.vm.findClass C = some cellB.cls)
    {g : JFrame} (hg : g.method = m) (hsize : g.locals.size = c.maxLocals) {argsL rest : List Value} (hlen : ∀ sig, parseMethodDescriptor y.desc = some sig → argsL.length = sig.parameters.length)
    (hstack : g.stack = argsL.reverse ++ .ref b :: rest) (hW : 2 * g.monitorRoom + (rest.map fun v => v.category).sum ≤ W9) (hdg : decode c.code g.pc = .ok (.invokevirtual index, 3))
    (hpre : ∀ vm₁, s.WarmedH vm₁ → Pre ⟨T.setVm vm₁, locs, cells, slots⟩ (Value.ref b :: argsL).toArray) :
    (∃ (v : Option Value) (vm₁ : Vm) (B : Pt), s.WarmedH vm₁ ∧ Stand p l e R s m args below meth c B.U B.locs B.cells B.slots ∧ Post ⟨T.setVm vm₁, locs, cells, slots⟩ (Value.ref b :: argsL).toArray v B ∧
      ∀ target, Steps p.tables e below (B.U.setTop { g with pc := g.pc + 3, stack := v.toList ++ rest }) target → Steps p.tables e below (T.setTop g) target) ∨
    (∃ (q : Addr) (vm₁ : Vm) (B : Pt), s.WarmedH vm₁ ∧ Stand p l e R s m args below meth c B.U B.locs B.cells B.slots ∧ PostX ⟨T.setVm vm₁, locs, cells, slots⟩ (Value.ref b :: argsL).toArray q B ∧
      Steps p.tables e below (T.setTop g) ((B.U.setTop { g with stack := rest }).pushFrame (.throwing q))) := by
  obtain ⟨mk, methM, hnamed, hmethM, hstM, habM⟩ := Cond.instanceMethod_spec hinst
  obtain ⟨m8, methM', cM, hn8, hmethM', -, -, -, -, -, -, hsigM⟩ := Cond.codeWith_spec hcode
  cases Option.some.inj (hn8.symm.trans hnamed)
  cases hmethM.symm.trans hmethM'
  obtain ⟨c2, r2, m2, q1, q2, q3, q4, kP, hkP, hkPi⟩ := Cond.selects_spec hsel
  cases hcls.symm.trans q1
  cases (State.methodFound?_of_named hnamed hy).symm.trans q2
  cases hnamed.symm.trans q3
  have hselP : selectMethod e.platform s.vm cellB.cls mk = .method mk := by rw [Launch.admits_selectMethod X.admits]; exact q4
  obtain ⟨vm₁, X₁, hstep₁⟩ := X.invokevirtual hexec hown hlink hnamed hmethM hstM hkP hkPi hy (a := b) (cell := cellB) hcell
    (fun z h => by rw [h] at hobj; cases hobj) hselP hmethM habM hkP hkPi (g := g) hg (argsL := argsL) (rest := rest) (hlen _ hsigM) hstack hdg
  rcases hK m meth c ⟨T.setVm vm₁, locs, cells, slots⟩ { g with stack := rest } (.invokevirtual index) mk (Value.ref b :: argsL).toArray X₁ hg hsize hdg hW (X₁.named hnamed) (hpre vm₁ X₁.warmed) with ⟨v, B, X', hpost, hsteps⟩ | ⟨q, B, X', hpost, hsteps⟩
  · exact Or.inl ⟨v, vm₁, B, X₁.warmed, X', hpost, fun target h => hstep₁ _ fun acts => by rw [doInvoke_state]; exact hsteps.trans h⟩
  · exact Or.inr ⟨q, vm₁, B, X₁.warmed, X', hpost, hstep₁ _ fun acts => by rw [doInvoke_state]; exact hsteps⟩
theorem vx_callSX (X : Stand p l e R s m args below meth c T locs cells slots) (hexec : p.tables.exec = Jvm.exec) {own : String} {index : Nat} {y : MethodName} {bytes : ByteArray} {maxL : Nat} {ret : Option FieldType} {hh : List (Nat × Nat × Nat × Nat)}
    (hown : s.vm.findClass own = some m.cls) (hlink : (Cond.methodLink own index y).before args s = true) (hstat : (Cond.static y).before args s = true) (hinit : (Cond.initialized y.cls).before args s = true)
    (hcode : (Cond.codeWith y bytes maxL ret hh).before args s = true) (hy : y.cls ≠ "java/lang/invoke/MethodHandle" ∧ y.cls ≠ "java/lang/invoke/VarHandle")
    {W9 : Nat} {Pre : Pt → Array Value → Prop} {Post : Pt → Array Value → Option Value → Pt → Prop} {PostX : Pt → Array Value → Addr → Pt → Prop} (hK : vx_Back l R p e below s args y 3 W9 Pre Post PostX)
    {g : JFrame} (hg : g.method = m) (hsize : g.locals.size = c.maxLocals) {argsL rest : List Value} (hlen : ∀ sig, parseMethodDescriptor y.desc = some sig → argsL.length = sig.parameters.length)
    (hstack : g.stack = argsL.reverse ++ rest) (hW : 2 * g.monitorRoom + (rest.map fun v => v.category).sum ≤ W9) (hdg : decode c.code g.pc = .ok (.invokestatic index, 3))
    (hpre : ∀ vm₁, s.WarmedH vm₁ → Pre ⟨T.setVm vm₁, locs, cells, slots⟩ argsL.toArray) :
    (∃ (v : Option Value) (vm₁ : Vm) (B : Pt), s.WarmedH vm₁ ∧ Stand p l e R s m args below meth c B.U B.locs B.cells B.slots ∧ Post ⟨T.setVm vm₁, locs, cells, slots⟩ argsL.toArray v B ∧
      ∀ target, Steps p.tables e below (B.U.setTop { g with pc := g.pc + 3, stack := v.toList ++ rest }) target → Steps p.tables e below (T.setTop g) target) ∨
    (∃ (q : Addr) (vm₁ : Vm) (B : Pt), s.WarmedH vm₁ ∧ Stand p l e R s m args below meth c B.U B.locs B.cells B.slots ∧ PostX ⟨T.setVm vm₁, locs, cells, slots⟩ argsL.toArray q B ∧
      Steps p.tables e below (T.setTop g) ((B.U.setTop { g with stack := rest }).pushFrame (.throwing q))) := by
  obtain ⟨mk, methM, cM, hnamed, hmethM, -, -, -, -, -, -, hsigM⟩ := Cond.codeWith_spec hcode
  have hstatic : methM.isStatic = true := Cond.static_spec hnamed hmethM hstat
  obtain ⟨kP, hkP, -⟩ := className_of_methodNamed hnamed
  have hinitP : kP.init = .initialized := Cond.initialized_spec (findClass_of_methodNamed hnamed) hkP hinit
  obtain ⟨vm₁, X₁, hstep₁⟩ := X.invokestatic hexec hown hlink hnamed hmethM hstatic hkP hinitP hy (g := g) hg (argsL := argsL) (rest := rest) (hlen _ hsigM) hstack hdg
  rcases hK m meth c ⟨T.setVm vm₁, locs, cells, slots⟩ { g with stack := rest } (.invokestatic index) mk argsL.toArray X₁ hg hsize hdg hW (X₁.named hnamed) (hpre vm₁ X₁.warmed) with ⟨v, B, X', hpost, hsteps⟩ | ⟨q, B, X', hpost, hsteps⟩
  · exact Or.inl ⟨v, vm₁, B, X₁.warmed, X', hpost, fun target h => hstep₁ _ fun acts => by rw [doInvoke_state]; exact hsteps.trans h⟩
  · exact Or.inr ⟨q, vm₁, B, X₁.warmed, X', hpost, hstep₁ _ fun acts => by rw [doInvoke_state]; exact hsteps⟩
theorem vx_callVW (X : Stand p l e R s m args below meth c T locs cells slots) (hexec : p.tables.exec = Jvm.exec) {own C : String} {index : Nat} {y : MethodName} {bytes : ByteArray} {maxL : Nat} {ret : Option FieldType} {hh : List (Nat × Nat × Nat × Nat)}
    (hown : s.vm.findClass own = some m.cls) (hlink : (Cond.methodLink own index y).before args s = true) (hinst : (Cond.instanceMethod y).before args s = true) (hsel : (Cond.selects C y y).before args s = true)
    (hcode : (Cond.codeWith y bytes maxL ret hh).before args s = true) (hy : y.cls ≠ "java/lang/invoke/MethodHandle" ∧ y.cls ≠ "java/lang/invoke/VarHandle")
    {W9 : Nat} {Pre : Pt → Array Value → Prop} {Post : Pt → Array Value → Option Value → Pt → Prop} (hK : Back l R p e below s args y 3 W9 Pre Post)
    {b : Addr} {cellB : Cell} (hcell : T.heap[b]? = some cellB) (hobj : cellB.vm.isStatics = false) (hcls : s.vm.findClass C = some cellB.cls)
    {g : JFrame} (hg : g.method = m) (hsize : g.locals.size = c.maxLocals) {argsL rest : List Value} (hlen : ∀ sig, parseMethodDescriptor y.desc = some sig → argsL.length = sig.parameters.length)
    (hstack : g.stack = argsL.reverse ++ .ref b :: rest) (hW : 2 * g.monitorRoom + (rest.map fun v => v.category).sum ≤ W9) (hdg : decode c.code g.pc = .ok (.invokevirtual index, 3))
    (hpre : ∀ vm₁, s.WarmedH vm₁ → Pre ⟨T.setVm vm₁, locs, cells, slots⟩ (Value.ref b :: argsL).toArray) :
    ∃ (v : Option Value) (vm₁ : Vm) (B : Pt), s.WarmedH vm₁ ∧ Stand p l e R s m args below meth c B.U B.locs B.cells B.slots ∧ Post ⟨T.setVm vm₁, locs, cells, slots⟩ (Value.ref b :: argsL).toArray v B ∧
      ∀ target, Steps p.tables e below (B.U.setTop { g with pc := g.pc + 3, stack := v.toList ++ rest }) target → Steps p.tables e below (T.setTop g) target := by
  obtain ⟨mk, methM, hnamed, hmethM, hstM, habM⟩ := Cond.instanceMethod_spec hinst
  obtain ⟨m8, methM', cM, hn8, hmethM', -, -, -, -, -, -, hsigM⟩ := Cond.codeWith_spec hcode
  cases Option.some.inj (hn8.symm.trans hnamed)
  cases hmethM.symm.trans hmethM'
  obtain ⟨c2, r2, m2, q1, q2, q3, q4, kP, hkP, hkPi⟩ := Cond.selects_spec hsel
  cases hcls.symm.trans q1
  cases (State.methodFound?_of_named hnamed hy).symm.trans q2
  cases hnamed.symm.trans q3
  have hselP : selectMethod e.platform s.vm cellB.cls mk = .method mk := by rw [Launch.admits_selectMethod X.admits]; exact q4
  obtain ⟨vm₁, X₁, hstep₁⟩ := X.invokevirtual hexec hown hlink hnamed hmethM hstM hkP hkPi hy (a := b) (cell := cellB) hcell
    (fun z h => by rw [h] at hobj; cases hobj) hselP hmethM habM hkP hkPi (g := g) hg (argsL := argsL) (rest := rest) (hlen _ hsigM) hstack hdg
  obtain ⟨v, B, X', hpost, hsteps⟩ := hK m meth c ⟨T.setVm vm₁, locs, cells, slots⟩ { g with stack := rest } (.invokevirtual index) mk (Value.ref b :: argsL).toArray X₁ hg hsize hdg hW (X₁.named hnamed) (hpre vm₁ X₁.warmed)
  exact ⟨v, vm₁, B, X₁.warmed, X', hpost, fun target h => hstep₁ _ fun acts => by rw [doInvoke_state]; exact hsteps.trans h⟩
abbrev vx_CVW (R : Room) (s : State) (args : Array Value) (own C : String) (index : Nat) (y : MethodName) (bytes : ByteArray) (maxL : Nat) (ret : Option FieldType) (hh : List (Nat × Nat × Nat × Nat)) (ws : List Cond) (rm : Room) (mc ms n : Nat) : Prop :=
  (rm.cells = mc ∧ rm.slots = ms ∧ rm.frames + 1 ≤ R.frames ∧ 8 + (maxL + 11) + rm.locals ≤ R.locals ∧ (∀ w ∈ ws, ∀ (a' : Array Value) (U : State), s.WarmedH U.vm → w.before a' U = true) ∧ Cond.codeWith y bytes maxL ret hh ∈ ws) ∧
  (Cond.codeWith y bytes maxL ret hh).before args s = true ∧ (Cond.initialized y.cls).before args s = true ∧ (y.cls ≠ "java/lang/invoke/MethodHandle" ∧ y.cls ≠ "java/lang/invoke/VarHandle") ∧
  (∀ sig, parseMethodDescriptor y.desc = some sig → n = sig.parameters.length) ∧ (Cond.methodLink own index y).before args s = true ∧ (Cond.instanceMethod y).before args s = true ∧ (Cond.selects C y y).before args s = true
theorem vx_cwVW {own C : String} {index maxL mc ms : Nat} {y : MethodName} {bytes : ByteArray} {ret : Option FieldType} {hh : List (Nat × Nat × Nat × Nat)} {Ts ws ws' : List Cond} {rm : Room} (n : Nat) (ht : ∀ w ∈ Ts, w.before args s = true) (hT : GoodIn Ts (wsV own index C y ws)) (hw : ws = Cond.codeWith y bytes maxL ret hh :: ws') (hrc : rm.cells = mc) (hrs : rm.slots = ms)
    (hd : y.cls = C ∧ y.cls ≠ "java/lang/invoke/MethodHandle" ∧ y.cls ≠ "java/lang/invoke/VarHandle" ∧ (parseMethodDescriptor y.desc).map (fun d => d.parameters.length) = some n) (hR : rm.frames + 1 ≤ R.frames ∧ 8 + (maxL + 11) + rm.locals ≤ R.locals) :
    vx_CVW R s args own C index y bytes maxL ret hh ws rm mc ms n := by
  obtain ⟨hC, hd⟩ := hd
  subst hC
  have ok : ∀ w ∈ wsV own index y.cls y ws, w.before args s = true := fun w h => ht w (hT w h).1
  have hG : GoodIn Ts ws := fun w h => hT w (by unfold wsV; exact List.mem_append_right _ h)
  have hc : Cond.codeWith y bytes maxL ret hh ∈ ws := by rw [hw]; exact List.mem_cons_self
  refine ⟨⟨hrc, hrs, hR.1, hR.2, pay_in ht hG, hc⟩, ht _ (hG _ hc).1, ok _ (by simp [wsV]), ⟨hd.1, hd.2.1⟩, fun sig h => ?_, ok _ (by simp [wsV]), ok _ (by simp [wsV]), ok _ (by simp [wsV])⟩
  have h2 := hd.2.2
  rw [h] at h2
  exact (Option.some.inj h2).symm
theorem vx_runVW {y : MethodName} {bytes cc : ByteArray} {maxL nL mc ms n index : Nat} {ret : Option FieldType} {hh : List (Nat × Nat × Nat × Nat)} {ws : List Cond} {rm : Room} {Pc : Array Value → State → Prop} {Qc : Array Value → State → Outcome → State → Prop} {free : Addr → Prop} {Ts : List Cond} {own C : String} {b : Addr} {As rest : List Value} {g : JFrame}
    (S : CallFix p m c cc nL s args Ts own) (hM : Met l y ws rm Pc Qc mc ms free) (cw : vx_CVW R s args own C index y bytes maxL ret hh ws rm mc ms n) (hp : PreV s H C b Pc As)
    (hg : g.method = m) (hn : As.length = n) (hsize : g.locals.size = nL) (hstack : g.stack = As.reverse ++ .ref b :: rest) (hW : 2 * g.monitorRoom + (rest.map fun v => v.category).sum ≤ 8) (hdg : decode cc g.pc = .ok (.invokevirtual index, 3)) (hf : cells + mc ≤ R.cells ∧ slots + ms ≤ R.slots) :
    va_Run p l e R s m args below meth c H locs cells slots mc ms g rest (Qc (Value.ref b :: As).toArray) free := by
  obtain ⟨⟨hrc, hrs, hfr, hlo, hws, hcw⟩, hcode, hini, hy, hlen, hl, hin, hse⟩ := cw
  have hK : Back l R p e below s args y 3 8 (PreOf R mc ms Pc) (PostOf Qc mc ms free) := va_backW (hh := hh) (bytes := bytes) (maxL := maxL) (ret := ret) hM hp.1 hrc hrs hfr hlo hws hcw (fun a' U hW => word_at hW (Or.inl (by first | rfl | simp [Cond.onTables, Cond.keeps, Cond.steady])) hini)
  obtain ⟨hx, hb, hml, ho, -⟩ := S
  obtain ⟨-, ⟨cellB, hcB, hoB, hclB⟩, hPc⟩ := hp
  intro T hT X
  obtain ⟨v, vm₁, ⟨U', l2, c2, s2⟩, hW₁, X', ⟨g', mk, t, L, e1, e2, hq, h1, hL, h2, h3⟩, st⟩ := vx_callVW X hx (C := C) (hh := hh) (bytes := bytes) (maxL := maxL) (ret := ret) ho hl hin hse hcode hy hK (by rw [hT]; exact hcB) hoB hclB hg (hsize.trans hml.symm) (argsL := As) (rest := rest) (fun sig h => hn.trans (hlen sig h)) hstack hW (by rw [hb]; exact hdg)
    (fun vm₁ hW₁ => ⟨hf.1, hf.2, hPc (T.setVm vm₁) hT hW₁⟩)
  dsimp only [Pt.U, Pt.locs, Pt.cells, Pt.slots] at X' e1 e2 h1 h2 h3 st
  subst h1; subst h2; subst h3
  exact ⟨v, (T.setVm vm₁).calling g' mk (Value.ref b :: As).toArray, t, U', L, hT, X', hL, e1, e2, hq, st⟩
section
variable {y : MethodName} {bytes cc : ByteArray} {maxL nL mc ms n index : Nat} {ret : Option FieldType} {ws : List Cond} {rm : Room} {Pc : Array Value → State → Prop} {Qc : Array Value → State → Outcome → State → Prop} {XC : String → State → State → Prop} {free : Addr → Prop} {Ts : List Cond} {own C : String} {b : Addr} {As rest : List Value} {g : JFrame}
theorem vx_runVX {hh : List (Nat × Nat × Nat × Nat)} (S : CallFix p m c cc nL s args Ts own) (hM : vx_Met l y ws rm Pc Qc XC mc ms free) (cw : vx_CVW R s args own C index y bytes maxL ret hh ws rm mc ms n) (hp : PreV s H C b Pc As)
    (hg : g.method = m) (hn : As.length = n) (hsize : g.locals.size = nL) (hstack : g.stack = As.reverse ++ .ref b :: rest) (hW : 2 * g.monitorRoom + (rest.map fun v => v.category).sum ≤ 8) (hdg : decode cc g.pc = .ok (.invokevirtual index, 3)) (hf : cells + mc ≤ R.cells ∧ slots + ms ≤ R.slots) :
    vx_Run p l e R s m args below meth c H locs cells slots mc ms g rest (Qc (Value.ref b :: As).toArray) XC free := by
  obtain ⟨⟨hrc, hrs, hfr, hlo, hws, hcw⟩, hcode, hini, hy, hlen, hl, hin, hse⟩ := cw
  have hK : vx_Back l R p e below s args y 3 8 (PreOf R mc ms Pc) (PostOf Qc mc ms free) (vx_Post XC mc ms free) := vx_backW (hh := hh) (bytes := bytes) (maxL := maxL) (ret := ret) hM hp.1 hrc hrs hfr hlo hws hcw (fun a' U hW => word_at hW (Or.inl (by first | rfl | simp [Cond.onTables, Cond.keeps, Cond.steady])) hini)
  obtain ⟨hx, hb, hml, ho, -⟩ := S
  obtain ⟨-, ⟨cellB, hcB, hoB, hclB⟩, hPc⟩ := hp
  intro T hT X
  rcases vx_callVX X hx (C := C) (hh := hh) (bytes := bytes) (maxL := maxL) (ret := ret) ho hl hin hse hcode hy hK (by rw [hT]; exact hcB) hoB hclB hg (hsize.trans hml.symm) (argsL := As) (rest := rest) (fun sig h => hn.trans (hlen sig h)) hstack hW (by rw [hb]; exact hdg)
    (fun vm₁ hW₁ => ⟨hf.1, hf.2, hPc (T.setVm vm₁) hT hW₁⟩) with ⟨v, vm₁, ⟨U', l2, c2, s2⟩, hW₁, X', ⟨g', mk, t, L, e1, e2, hq, h1, hL, h2, h3⟩, st⟩ | ⟨q, vm₁, ⟨U', l2, c2, s2⟩, hW₁, X', ⟨g', mk, t, L, E, ce, e1, e2, hq, hce, hcv, hcl, h1, hL, h2, h3⟩, st⟩
  · dsimp only [Pt.U, Pt.locs, Pt.cells, Pt.slots] at X' e1 e2 h1 h2 h3 st
    subst h1; subst h2; subst h3
    exact Or.inl ⟨v, (T.setVm vm₁).calling g' mk (Value.ref b :: As).toArray, t, U', L, hT, X', hL, e1, e2, hq, st⟩
  · dsimp only [Pt.U, Pt.locs, Pt.cells, Pt.slots] at X' e1 e2 h1 h2 h3 st hcl
    subst h1; subst h2; subst h3
    exact Or.inr ⟨q, (T.setVm vm₁).calling g' mk (Value.ref b :: As).toArray, t, U', L, E, ce, hT, X', hL, e1, e2, hq, hce, hcv, vx_cls hW₁ hcl, st⟩
theorem vx_runSX {hh : List (Nat × Nat × Nat × Nat)} (S : CallFix p m c cc nL s args Ts own) (hM : vx_Met l y ws rm Pc Qc XC mc ms free) (cw : vx_CSW R s args own index y bytes maxL ret hh ws rm mc ms n) (hp : PreS s H Pc As)
    (hg : g.method = m) (hn : As.length = n) (hsize : g.locals.size = nL) (hstack : g.stack = As.reverse ++ rest) (hW : 2 * g.monitorRoom + (rest.map fun v => v.category).sum ≤ 8) (hdg : decode cc g.pc = .ok (.invokestatic index, 3)) (hf : cells + mc ≤ R.cells ∧ slots + ms ≤ R.slots) :
    vx_Run p l e R s m args below meth c H locs cells slots mc ms g rest (Qc As.toArray) XC free := by
  obtain ⟨⟨hrc, hrs, hfr, hlo, hws, hcw⟩, hcode, hini, hy, hlen, hl, hstt⟩ := cw
  have hK : vx_Back l R p e below s args y 3 8 (PreOf R mc ms Pc) (PostOf Qc mc ms free) (vx_Post XC mc ms free) := vx_backW (hh := hh) (bytes := bytes) (maxL := maxL) (ret := ret) hM hp.1 hrc hrs hfr hlo hws hcw (fun a' U hW => word_at hW (Or.inl (by first | rfl | simp [Cond.onTables, Cond.keeps, Cond.steady])) hini)
  obtain ⟨hx, hb, hml, ho, -⟩ := S
  intro T hT X
  rcases vx_callSX X hx (hh := hh) (bytes := bytes) (maxL := maxL) (ret := ret) ho hl hstt hini hcode hy hK hg (hsize.trans hml.symm) (argsL := As) (rest := rest) (fun sig h => hn.trans (hlen sig h)) hstack hW (by rw [hb]; exact hdg)
    (fun vm₁ hW₁ => ⟨hf.1, hf.2, hp.2 (T.setVm vm₁) hT hW₁⟩) with ⟨v, vm₁, ⟨U', l2, c2, s2⟩, hW₁, X', ⟨g', mk, t, L, e1, e2, hq, h1, hL, h2, h3⟩, st⟩ | ⟨q, vm₁, ⟨U', l2, c2, s2⟩, hW₁, X', ⟨g', mk, t, L, E, ce, e1, e2, hq, hce, hcv, hcl, h1, hL, h2, h3⟩, st⟩
  · dsimp only [Pt.U, Pt.locs, Pt.cells, Pt.slots] at X' e1 e2 h1 h2 h3 st
    subst h1; subst h2; subst h3
    exact Or.inl ⟨v, (T.setVm vm₁).calling g' mk As.toArray, t, U', L, hT, X', hL, e1, e2, hq, st⟩
  · dsimp only [Pt.U, Pt.locs, Pt.cells, Pt.slots] at X' e1 e2 h1 h2 h3 st hcl
    subst h1; subst h2; subst h3
    exact Or.inr ⟨q, (T.setVm vm₁).calling g' mk As.toArray, t, U', L, E, ce, hT, X', hL, e1, e2, hq, hce, hcv, vx_cls hW₁ hcl, st⟩
end
end VXH
theorem vx_ofWH {l : Launch} {y : MethodName} {ws ws' : List Cond} {rm : Room} {Pc : Array Value → State → Prop} {Qc : Array Value → State → Outcome → State → Prop} {XC : String → State → State → Prop} {mc ms : Nat} {free : Addr → Prop} {cc : ByteArray} {maxL : Nat} {ret : Option FieldType} {hh : List (Nat × Nat × Nat × Nat)}
    (hy : plainName y.cls = true) (hw : ws = Cond.codeWith y cc maxL ret hh :: ws')
    (body : ∀ p e s m args below meth c s₁, BodyLoose p l y (headSpec ws rm) cc maxL ret e s m args below meth c s₁ → c.maxLocals = maxL → Pc args s →
      W p l e (headSpec ws rm).room s m args below meth c s.heap [] 0 0 (vx_MQ below Qc XC args s mc ms free) (entryFrame m args maxL)) : vx_Met l y ws rm Pc Qc XC mc ms free := by
  refine MetFree.of_bodyS (code := cc) (maxLocals := maxL) (ret := ret) hy ?_ ?_
  · intro args s m h hn
    obtain ⟨m9, meth, c, hn9, h1, h2, h3, h4, -, h5, h6, -⟩ := Cond.codeWith_spec (atoms_spec (ws := ws) h _ (by rw [hw]; exact List.mem_cons_self))
    cases hn.symm.trans hn9
    exact ⟨meth, c, h1, h2, h3, h4, h5, h6⟩
  · intro p e s m args below meth c s₁ B hml hP _
    have hh0 : s₁.heap = s.heap := by rw [B.state]; rfl
    obtain ⟨t, a1, o, b1, b2, b3⟩ := body p e s m args below meth c s₁ B hml hP s₁ hh0 (Stand.of_body B)
    exact ⟨t, o, a1, b1, b2, b3⟩
/-! ===== END ===== -/
end
section
def rn_K : String := "RescueDesk$Copier"
def tf_K : u_T := fun k => match k with
  | 0 => ("RescueDesk$Copier", "disk", "LRescueDesk$Disk;", true)
  | 1 => ("RescueDesk$Copier", "map", "LRescueDesk$SectorMap;", true)
  | 2 => ("RescueDesk$Copier", "phaseNow", "I", false)
  | 3 => ("RescueDesk$Copier", "position", "I", false)
  | 4 => ("RescueDesk$Copier", "leap", "I", false)
  | 5 => ("RescueDesk$Copier", "round", "I", false)
  | 6 => ("RescueDesk$Copier", "retryRounds", "I", false)
  | _ => ("RescueDesk$Copier", "trimsLast", "Z", false)
def ty_K : Nat → FieldType := fun k => match k with
  | 0 => .object "RescueDesk$Disk"
  | 1 => .object "RescueDesk$SectorMap"
  | 2 => .int
  | 3 => .int
  | 4 => .int
  | 5 => .int
  | 6 => .int
  | _ => .boolean
theorem nm_K : ∀ a, a < 8 → ∀ b, b < 8 → a ≠ b → (tf_K a).2.1 ≠ (tf_K b).2.1 := by decide +kernel
theorem tyok_K : ∀ k, k < 8 → parseFieldDescriptor (tf_K k).2.2.1 = some (ty_K k) := by decide +kernel
def rn_D : String := "RescueDesk$Disk"
def tf_D : u_T := fun k => match k with
  | 0 => ("RescueDesk$Disk", "words", "[I", true)
  | 1 => ("RescueDesk$Disk", "failuresLeft", "[I", true)
  | 2 => ("RescueDesk$Disk", "readCounts", "[I", true)
  | 3 => ("RescueDesk$Disk", "target", "[I", true)
  | 4 => ("RescueDesk$Disk", "sectors", "I", false)
  | 5 => ("RescueDesk$Disk", "stretches", "I", false)
  | _ => ("RescueDesk$Disk", "failedStretches", "I", false)
def ty_D : Nat → FieldType := fun k => match k with
  | 0 => .array .int
  | 1 => .array .int
  | 2 => .array .int
  | 3 => .array .int
  | 4 => .int
  | 5 => .int
  | _ => .int
theorem nm_D : ∀ a, a < 7 → ∀ b, b < 7 → a ≠ b → (tf_D a).2.1 ≠ (tf_D b).2.1 := by decide +kernel
theorem tyok_D : ∀ k, k < 7 → parseFieldDescriptor (tf_D k).2.2.1 = some (ty_D k) := by decide +kernel
def rn_V : String := "RescueDesk$Saves"
def tf_V : u_T := fun k => match k with
  | 0 => ("RescueDesk$Saves", "slots", "[[I", true)
  | 1 => ("RescueDesk$Saves", "drawn", "[I", true)
  | _ => ("RescueDesk$Saves", "lastNumber", "I", false)
def ty_V : Nat → FieldType := fun k => match k with
  | 0 => .array (.array .int)
  | 1 => .array .int
  | _ => .int
theorem nm_V : ∀ a, a < 3 → ∀ b, b < 3 → a ≠ b → (tf_V a).2.1 ≠ (tf_V b).2.1 := by decide +kernel
theorem tyok_V : ∀ k, k < 3 → parseFieldDescriptor (tf_V k).2.2.1 = some (ty_V k) := by decide +kernel
def rn_S : String := "RescueDesk$SectorMap"
def tf_S : u_T := fun k => match k with
  | 0 => ("RescueDesk$SectorMap", "states", "[I", true)
  | _ => ("RescueDesk$SectorMap", "sectors", "I", false)
def ty_S : Nat → FieldType := fun k => match k with
  | 0 => .array .int
  | _ => .int
theorem nm_S : ∀ a, a < 2 → ∀ b, b < 2 → a ≠ b → (tf_S a).2.1 ≠ (tf_S b).2.1 := by decide +kernel
theorem tyok_S : ∀ k, k < 2 → parseFieldDescriptor (tf_S k).2.2.1 = some (ty_S k) := by decide +kernel
def rn_R : String := "RescueDesk"
def tf_R : u_T := fun k => match k with
  | 0 => ("RescueDesk", "disk", "LRescueDesk$Disk;", true)
  | 1 => ("RescueDesk", "map", "LRescueDesk$SectorMap;", true)
  | 2 => ("RescueDesk", "copier", "LRescueDesk$Copier;", true)
  | _ => ("RescueDesk", "saves", "LRescueDesk$Saves;", true)
def ty_R : Nat → FieldType := fun k => match k with
  | 0 => .object "RescueDesk$Disk"
  | 1 => .object "RescueDesk$SectorMap"
  | 2 => .object "RescueDesk$Copier"
  | _ => .object "RescueDesk$Saves"
theorem nm_R : ∀ a, a < 4 → ∀ b, b < 4 → a ≠ b → (tf_R a).2.1 ≠ (tf_R b).2.1 := by decide +kernel
theorem tyok_R : ∀ k, k < 4 → parseFieldDescriptor (tf_R k).2.2.1 = some (ty_R k) := by decide +kernel
def rn_M : String := "RescueDeskModel"
def tf_M : u_T := fun k => match k with
  | 0 => ("RescueDeskModel", "code", "I", false)
  | 1 => ("RescueDeskModel", "sectors", "I", false)
  | 2 => ("RescueDeskModel", "words", "[I", true)
  | 3 => ("RescueDeskModel", "failures", "[I", true)
  | 4 => ("RescueDeskModel", "reads", "[I", true)
  | 5 => ("RescueDeskModel", "target", "[I", true)
  | 6 => ("RescueDeskModel", "made", "I", false)
  | 7 => ("RescueDeskModel", "failed", "I", false)
  | 8 => ("RescueDeskModel", "phase", "I", false)
  | 9 => ("RescueDeskModel", "retries", "I", false)
  | 10 => ("RescueDeskModel", "states", "[I", true)
  | 11 => ("RescueDeskModel", "position", "I", false)
  | 12 => ("RescueDeskModel", "leap", "I", false)
  | 13 => ("RescueDeskModel", "round", "I", false)
  | 14 => ("RescueDeskModel", "backwards", "Z", false)
  | 15 => ("RescueDeskModel", "from", "I", false)
  | 16 => ("RescueDeskModel", "to", "I", false)
  | 17 => ("RescueDeskModel", "number", "I", false)
  | 18 => ("RescueDeskModel", "slots", "[I", true)
  | 19 => ("RescueDeskModel", "image", "[I", true)
  | _ => ("RescueDeskModel", "size", "I", false)
def ty_M : Nat → FieldType := fun k => match k with
  | 0 => .int
  | 1 => .int
  | 2 => .array .int
  | 3 => .array .int
  | 4 => .array .int
  | 5 => .array .int
  | 6 => .int
  | 7 => .int
  | 8 => .int
  | 9 => .int
  | 10 => .array .int
  | 11 => .int
  | 12 => .int
  | 13 => .int
  | 14 => .boolean
  | 15 => .int
  | 16 => .int
  | 17 => .int
  | 18 => .array .int
  | 19 => .array .int
  | _ => .int
theorem nm_M : ∀ a, a < 21 → ∀ b, b < 21 → a ≠ b → (tf_M a).2.1 ≠ (tf_M b).2.1 := by decide +kernel
theorem tyok_M : ∀ k, k < 21 → parseFieldDescriptor (tf_M k).2.2.1 = some (ty_M k) := by decide +kernel
def rn_L : String := "RescueDeskLaw"
abbrev b_R_init : ByteArray := prog_1_method_1_code
def y_R_init : MethodName := ⟨rn_R, "<init>", "()V"⟩
abbrev b_R_source : ByteArray := prog_1_method_2_code
def y_R_source : MethodName := ⟨rn_R, "source", "(I)V"⟩
abbrev b_R_sector : ByteArray := prog_1_method_3_code
def y_R_sector : MethodName := ⟨rn_R, "sector", "(III)V"⟩
abbrev b_R_begin : ByteArray := prog_1_method_4_code
def y_R_begin : MethodName := ⟨rn_R, "begin", "(I)V"⟩
abbrev b_R_step : ByteArray := prog_1_method_5_code
def y_R_step : MethodName := ⟨rn_R, "step", "()I"⟩
abbrev b_R_run : ByteArray := prog_1_method_6_code
def y_R_run : MethodName := ⟨rn_R, "run", "(I)I"⟩
abbrev b_R_save : ByteArray := prog_1_method_7_code
def y_R_save : MethodName := ⟨rn_R, "save", "()I"⟩
abbrev b_R_stop : ByteArray := prog_1_method_8_code
def y_R_stop : MethodName := ⟨rn_R, "stop", "(I)I"⟩
abbrev b_R_resume : ByteArray := prog_1_method_9_code
def y_R_resume : MethodName := ⟨rn_R, "resume", "()I"⟩
abbrev b_R_poke : ByteArray := prog_1_method_10_code
def y_R_poke : MethodName := ⟨rn_R, "poke", "(III)V"⟩
abbrev b_R_second : ByteArray := prog_1_method_11_code
def y_R_second : MethodName := ⟨rn_R, "second", "(II)Z"⟩
abbrev b_R_state : ByteArray := prog_1_method_12_code
def y_R_state : MethodName := ⟨rn_R, "state", "(I)I"⟩
abbrev b_R_count : ByteArray := prog_1_method_13_code
def y_R_count : MethodName := ⟨rn_R, "count", "(I)I"⟩
abbrev b_R_part : ByteArray := prog_1_method_14_code
def y_R_part : MethodName := ⟨rn_R, "part", "(II)I"⟩
abbrev b_R_phase : ByteArray := prog_1_method_15_code
def y_R_phase : MethodName := ⟨rn_R, "phase", "()I"⟩
abbrev b_R_out : ByteArray := prog_1_method_16_code
def y_R_out : MethodName := ⟨rn_R, "out", "(I)I"⟩
abbrev b_R_reads : ByteArray := prog_1_method_17_code
def y_R_reads : MethodName := ⟨rn_R, "reads", "(I)I"⟩
abbrev b_R_made : ByteArray := prog_1_method_18_code
def y_R_made : MethodName := ⟨rn_R, "made", "(Z)I"⟩
abbrev b_R_image : ByteArray := prog_1_method_19_code
def y_R_image : MethodName := ⟨rn_R, "image", "(II)I"⟩
abbrev b_M_init : ByteArray := prog_7_method_1_code
def y_M_init : MethodName := ⟨rn_M, "<init>", "()V"⟩
abbrev b_M_thrown : ByteArray := prog_7_method_2_code
def y_M_thrown : MethodName := ⟨rn_M, "thrown", "()I"⟩
abbrev b_M_goesOn : ByteArray := prog_7_method_3_code
def y_M_goesOn : MethodName := ⟨rn_M, "goesOn", "()Z"⟩
abbrev b_M_source : ByteArray := prog_7_method_4_code
def y_M_source : MethodName := ⟨rn_M, "source", "(I)V"⟩
abbrev b_M_isSector : ByteArray := prog_7_method_5_code
def y_M_isSector : MethodName := ⟨rn_M, "isSector", "(I)Z"⟩
abbrev b_M_sector : ByteArray := prog_7_method_6_code
def y_M_sector : MethodName := ⟨rn_M, "sector", "(III)V"⟩
abbrev b_M_reading : ByteArray := prog_7_method_7_code
def y_M_reading : MethodName := ⟨rn_M, "reading", "()Z"⟩
abbrev b_M_enter : ByteArray := prog_7_method_8_code
def y_M_enter : MethodName := ⟨rn_M, "enter", "(I)V"⟩
abbrev b_M_begin : ByteArray := prog_7_method_9_code
def y_M_begin : MethodName := ⟨rn_M, "begin", "(I)V"⟩
abbrev b_M_firstIn : ByteArray := prog_7_method_10_code
def y_M_firstIn : MethodName := ⟨rn_M, "firstIn", "(II)I"⟩
abbrev b_M_lastIn : ByteArray := prog_7_method_11_code
def y_M_lastIn : MethodName := ⟨rn_M, "lastIn", "(II)I"⟩
abbrev b_M_find : ByteArray := prog_7_method_12_code
def y_M_find : MethodName := ⟨rn_M, "find", "()Z"⟩
abbrev b_M_findBad : ByteArray := prog_7_method_13_code
def y_M_findBad : MethodName := ⟨rn_M, "findBad", "()I"⟩
abbrev b_M_mark : ByteArray := prog_7_method_14_code
def y_M_mark : MethodName := ⟨rn_M, "mark", "(I)V"⟩
abbrev b_M_trimmed : ByteArray := prog_7_method_15_code
def y_M_trimmed : MethodName := ⟨rn_M, "trimmed", "(Z)V"⟩
abbrev b_M_work : ByteArray := prog_7_method_16_code
def y_M_work : MethodName := ⟨rn_M, "work", "()V"⟩
abbrev b_M_one : ByteArray := prog_7_method_17_code
def y_M_one : MethodName := ⟨rn_M, "one", "()I"⟩
abbrev b_M_step : ByteArray := prog_7_method_18_code
def y_M_step : MethodName := ⟨rn_M, "step", "()I"⟩
abbrev b_M_run : ByteArray := prog_7_method_19_code
def y_M_run : MethodName := ⟨rn_M, "run", "(I)I"⟩
abbrev b_M_put : ByteArray := prog_7_method_20_code
def y_M_put : MethodName := ⟨rn_M, "put", "(I)V"⟩
abbrev b_M_endOf : ByteArray := prog_7_method_21_code
def y_M_endOf : MethodName := ⟨rn_M, "endOf", "(I)I"⟩
abbrev b_M_runs : ByteArray := prog_7_method_22_code
def y_M_runs : MethodName := ⟨rn_M, "runs", "()I"⟩
abbrev b_M_next : ByteArray := prog_7_method_23_code
def y_M_next : MethodName := ⟨rn_M, "next", "(I)I"⟩
abbrev b_M_makeImage : ByteArray := prog_7_method_24_code
def y_M_makeImage : MethodName := ⟨rn_M, "makeImage", "(I)V"⟩
abbrev b_M_write : ByteArray := prog_7_method_25_code
def y_M_write : MethodName := ⟨rn_M, "write", "(I)V"⟩
abbrev b_M_save : ByteArray := prog_7_method_26_code
def y_M_save : MethodName := ⟨rn_M, "save", "()I"⟩
abbrev b_M_stop : ByteArray := prog_7_method_27_code
def y_M_stop : MethodName := ⟨rn_M, "stop", "(I)I"⟩
abbrev b_M_at : ByteArray := prog_7_method_28_code
def y_M_at : MethodName := ⟨rn_M, "at", "(II)I"⟩
abbrev b_M_isWhole : ByteArray := prog_7_method_29_code
def y_M_isWhole : MethodName := ⟨rn_M, "isWhole", "(I)Z"⟩
abbrev b_M_resume : ByteArray := prog_7_method_30_code
def y_M_resume : MethodName := ⟨rn_M, "resume", "()I"⟩
abbrev b_M_poke : ByteArray := prog_7_method_31_code
def y_M_poke : MethodName := ⟨rn_M, "poke", "(III)V"⟩
abbrev b_M_second : ByteArray := prog_7_method_32_code
def y_M_second : MethodName := ⟨rn_M, "second", "(II)Z"⟩
abbrev b_M_state : ByteArray := prog_7_method_33_code
def y_M_state : MethodName := ⟨rn_M, "state", "(I)I"⟩
abbrev b_M_count : ByteArray := prog_7_method_34_code
def y_M_count : MethodName := ⟨rn_M, "count", "(I)I"⟩
abbrev b_M_part : ByteArray := prog_7_method_35_code
def y_M_part : MethodName := ⟨rn_M, "part", "(II)I"⟩
abbrev b_M_phase : ByteArray := prog_7_method_36_code
def y_M_phase : MethodName := ⟨rn_M, "phase", "()I"⟩
abbrev b_M_out : ByteArray := prog_7_method_37_code
def y_M_out : MethodName := ⟨rn_M, "out", "(I)I"⟩
abbrev b_M_reads : ByteArray := prog_7_method_38_code
def y_M_reads : MethodName := ⟨rn_M, "reads", "(I)I"⟩
abbrev b_M_made : ByteArray := prog_7_method_39_code
def y_M_made : MethodName := ⟨rn_M, "made", "(Z)I"⟩
abbrev b_M_image : ByteArray := prog_7_method_40_code
def y_M_image : MethodName := ⟨rn_M, "image", "(II)I"⟩
abbrev b_K_init : ByteArray := prog_2_method_1_code
def y_K_init : MethodName := ⟨rn_K, "<init>", "(LRescueDesk$Disk;LRescueDesk$SectorMap;)V"⟩
abbrev b_K_currentPhase : ByteArray := prog_2_method_2_code
def y_K_currentPhase : MethodName := ⟨rn_K, "currentPhase", "()I"⟩
abbrev b_K_goesOn : ByteArray := prog_2_method_3_code
def y_K_goesOn : MethodName := ⟨rn_K, "goesOn", "()Z"⟩
abbrev b_K_forget : ByteArray := prog_2_method_4_code
def y_K_forget : MethodName := ⟨rn_K, "forget", "()V"⟩
abbrev b_K_halt : ByteArray := prog_2_method_5_code
def y_K_halt : MethodName := ⟨rn_K, "halt", "()V"⟩
abbrev b_K_start : ByteArray := prog_2_method_6_code
def y_K_start : MethodName := ⟨rn_K, "start", "(I)V"⟩
abbrev b_K_enter : ByteArray := prog_2_method_7_code
def y_K_enter : MethodName := ⟨rn_K, "enter", "(I)V"⟩
abbrev b_K_makeStep : ByteArray := prog_2_method_8_code
def y_K_makeStep : MethodName := ⟨rn_K, "makeStep", "()I"⟩
abbrev b_K_readIn : ByteArray := prog_2_method_9_code
def y_K_readIn : MethodName := ⟨rn_K, "readIn", "(I)Z"⟩
abbrev b_K_readForward : ByteArray := prog_2_method_10_code
def y_K_readForward : MethodName := ⟨rn_K, "readForward", "(Z)Z"⟩
abbrev b_K_readBackward : ByteArray := prog_2_method_11_code
def y_K_readBackward : MethodName := ⟨rn_K, "readBackward", "()Z"⟩
abbrev b_K_takeLeap : ByteArray := prog_2_method_12_code
def y_K_takeLeap : MethodName := ⟨rn_K, "takeLeap", "(Z)I"⟩
abbrev b_K_trim : ByteArray := prog_2_method_13_code
def y_K_trim : MethodName := ⟨rn_K, "trim", "()Z"⟩
abbrev b_K_scrape : ByteArray := prog_2_method_14_code
def y_K_scrape : MethodName := ⟨rn_K, "scrape", "()Z"⟩
abbrev b_K_retry : ByteArray := prog_2_method_15_code
def y_K_retry : MethodName := ⟨rn_K, "retry", "()Z"⟩
abbrev b_K_nextBad : ByteArray := prog_2_method_16_code
def y_K_nextBad : MethodName := ⟨rn_K, "nextBad", "()I"⟩
abbrev b_K_enterRound : ByteArray := prog_2_method_17_code
def y_K_enterRound : MethodName := ⟨rn_K, "enterRound", "(I)V"⟩
abbrev b_K_goesUp : ByteArray := prog_2_method_18_code
def y_K_goesUp : MethodName := ⟨rn_K, "goesUp", "(I)Z"⟩
abbrev b_K_rescue : ByteArray := prog_2_method_19_code
def y_K_rescue : MethodName := ⟨rn_K, "rescue", "(III)Z"⟩
abbrev b_D_init : ByteArray := prog_3_method_1_code
def y_D_init : MethodName := ⟨rn_D, "<init>", "()V"⟩
abbrev b_D_lay : ByteArray := prog_3_method_2_code
def y_D_lay : MethodName := ⟨rn_D, "lay", "(I)V"⟩
abbrev b_D_size : ByteArray := prog_3_method_3_code
def y_D_size : MethodName := ⟨rn_D, "size", "()I"⟩
abbrev b_D_has : ByteArray := prog_3_method_4_code
def y_D_has : MethodName := ⟨rn_D, "has", "(I)Z"⟩
abbrev b_D_put : ByteArray := prog_3_method_5_code
def y_D_put : MethodName := ⟨rn_D, "put", "(III)V"⟩
abbrev b_D_deliver : ByteArray := prog_3_method_6_code
def y_D_deliver : MethodName := ⟨rn_D, "deliver", "(II)V"⟩
abbrev b_D_wordOut : ByteArray := prog_3_method_7_code
def y_D_wordOut : MethodName := ⟨rn_D, "wordOut", "(I)I"⟩
abbrev b_D_readsOf : ByteArray := prog_3_method_8_code
def y_D_readsOf : MethodName := ⟨rn_D, "readsOf", "(I)I"⟩
abbrev b_D_stretchesRead : ByteArray := prog_3_method_9_code
def y_D_stretchesRead : MethodName := ⟨rn_D, "stretchesRead", "(Z)I"⟩
abbrev b_D_readStretch : ByteArray := prog_3_method_10_code
def y_D_readStretch : MethodName := ⟨rn_D, "readStretch", "(II)Z"⟩
abbrev b_V_init : ByteArray := prog_4_method_1_code
def y_V_init : MethodName := ⟨rn_V, "<init>", "()V"⟩
abbrev b_V_wipe : ByteArray := prog_4_method_2_code
def y_V_wipe : MethodName := ⟨rn_V, "wipe", "()V"⟩
abbrev b_V_has : ByteArray := prog_4_method_3_code
def y_V_has : MethodName := ⟨rn_V, "has", "(II)Z"⟩
abbrev b_V_byteAt : ByteArray := prog_4_method_4_code
def y_V_byteAt : MethodName := ⟨rn_V, "byteAt", "(II)I"⟩
abbrev b_V_put : ByteArray := prog_4_method_5_code
def y_V_put : MethodName := ⟨rn_V, "put", "(III)V"⟩
abbrev b_V_write : ByteArray := prog_4_method_6_code
def y_V_write : MethodName := ⟨rn_V, "write", "(LRescueDesk$SectorMap;I)I"⟩
abbrev b_V_draw : ByteArray := prog_4_method_7_code
def y_V_draw : MethodName := ⟨rn_V, "draw", "(LRescueDesk$SectorMap;)I"⟩
abbrev b_V_placeOfRun : ByteArray := prog_4_method_8_code
def y_V_placeOfRun : MethodName := ⟨rn_V, "placeOfRun", "(I)I"⟩
abbrev b_V_sumBefore : ByteArray := prog_4_method_9_code
def y_V_sumBefore : MethodName := ⟨rn_V, "sumBefore", "([II)I"⟩
abbrev b_V_behindNumber : ByteArray := prog_4_method_10_code
def y_V_behindNumber : MethodName := ⟨rn_V, "behindNumber", "(I)I"⟩
abbrev b_V_newestWhole : ByteArray := prog_4_method_11_code
def y_V_newestWhole : MethodName := ⟨rn_V, "newestWhole", "(I)I"⟩
abbrev b_V_isWhole : ByteArray := prog_4_method_12_code
def y_V_isWhole : MethodName := ⟨rn_V, "isWhole", "(II)Z"⟩
abbrev b_V_hasRuns : ByteArray := prog_4_method_13_code
def y_V_hasRuns : MethodName := ⟨rn_V, "hasRuns", "(III)Z"⟩
abbrev b_V_load : ByteArray := prog_4_method_14_code
def y_V_load : MethodName := ⟨rn_V, "load", "(ILRescueDesk$SectorMap;)V"⟩
abbrev b_S_init : ByteArray := prog_5_method_1_code
def y_S_init : MethodName := ⟨rn_S, "<init>", "()V"⟩
abbrev b_S_clear : ByteArray := prog_5_method_2_code
def y_S_clear : MethodName := ⟨rn_S, "clear", "(I)V"⟩
abbrev b_S_size : ByteArray := prog_5_method_3_code
def y_S_size : MethodName := ⟨rn_S, "size", "()I"⟩
abbrev b_S_stateOf : ByteArray := prog_5_method_4_code
def y_S_stateOf : MethodName := ⟨rn_S, "stateOf", "(I)I"⟩
abbrev b_S_mark : ByteArray := prog_5_method_5_code
def y_S_mark : MethodName := ⟨rn_S, "mark", "(III)V"⟩
abbrev b_S_countOf : ByteArray := prog_5_method_6_code
def y_S_countOf : MethodName := ⟨rn_S, "countOf", "(I)I"⟩
abbrev b_S_firstFrom : ByteArray := prog_5_method_7_code
def y_S_firstFrom : MethodName := ⟨rn_S, "firstFrom", "(II)I"⟩
abbrev b_S_lastBelow : ByteArray := prog_5_method_8_code
def y_S_lastBelow : MethodName := ⟨rn_S, "lastBelow", "(II)I"⟩
abbrev b_S_behindStretch : ByteArray := prog_5_method_9_code
def y_S_behindStretch : MethodName := ⟨rn_S, "behindStretch", "(II)I"⟩
abbrev b_S_firstOfStretch : ByteArray := prog_5_method_10_code
def y_S_firstOfStretch : MethodName := ⟨rn_S, "firstOfStretch", "(II)I"⟩
abbrev b_S_startsRun : ByteArray := prog_5_method_11_code
def y_S_startsRun : MethodName := ⟨rn_S, "startsRun", "(I)Z"⟩
abbrev b_S_firstOfRun : ByteArray := prog_5_method_12_code
def y_S_firstOfRun : MethodName := ⟨rn_S, "firstOfRun", "(I)I"⟩
abbrev b_L_source : ByteArray := method_3_code
def y_L_source : MethodName := ⟨rn_L, "source", "(LRescueDesk;I)I"⟩
abbrev b_L_sector : ByteArray := method_4_code
def y_L_sector : MethodName := ⟨rn_L, "sector", "(LRescueDesk;III)I"⟩
abbrev b_L_begin : ByteArray := method_5_code
def y_L_begin : MethodName := ⟨rn_L, "begin", "(LRescueDesk;I)I"⟩
abbrev b_L_step : ByteArray := method_6_code
def y_L_step : MethodName := ⟨rn_L, "step", "(LRescueDesk;[J)I"⟩
abbrev b_L_run : ByteArray := method_7_code
def y_L_run : MethodName := ⟨rn_L, "run", "(LRescueDesk;I[J)I"⟩
abbrev b_L_save : ByteArray := method_8_code
def y_L_save : MethodName := ⟨rn_L, "save", "(LRescueDesk;[J)I"⟩
abbrev b_L_stop : ByteArray := method_9_code
def y_L_stop : MethodName := ⟨rn_L, "stop", "(LRescueDesk;I[J)I"⟩
abbrev b_L_resume : ByteArray := method_10_code
def y_L_resume : MethodName := ⟨rn_L, "resume", "(LRescueDesk;[J)I"⟩
abbrev b_L_poke : ByteArray := method_11_code
def y_L_poke : MethodName := ⟨rn_L, "poke", "(LRescueDesk;III)I"⟩
abbrev b_L_second : ByteArray := method_12_code
def y_L_second : MethodName := ⟨rn_L, "second", "(LRescueDesk;II[J)I"⟩
abbrev jClasses : List vw_C := [(rn_K, tf_K, 8), (rn_D, tf_D, 7), (rn_V, tf_V, 3), (rn_S, tf_S, 2), (rn_R, tf_R, 4), (rn_M, tf_M, 21)]
end
section
/-! The walk of a method over a world that is one list of cells: jv_V is the kit's W for every heap that holds the world and every locals that hold the listed values. One row an instruction. -/
section JV
variable {p : Program} {l : Launch} {e : Env} {R : Room} {s : State} {m : MethodId} {args : Array Value} {below : List Frame} {meth : Method} {c : Code} {cells slots : Nat} {Q : State → Prop}
variable {cc : ByteArray} {pc : Nat} {st : List Value} {D : va_G} {cl : List vw_C} {A : Nat → Prop} {tys : List (ClassId × FieldType)} {ws : va_W} {nL : Nat} {lv : List (Nat × Value)}
def jv_V (p : Program) (l : Launch) (e : Env) (R : Room) (s : State) (m : MethodId) (args : Array Value) (below : List Frame) (meth : Method) (c : Code) (D : va_G) (cl : List vw_C) (A : Nat → Prop) (nL cells slots : Nat) (Q : State → Prop) (ws : va_W) (lv : List (Nat × Value)) (pc : Nat) (st : List Value) : Prop :=
  ∀ (H : Heap) (locs : List Loc) (ls : Array Slot), va_P D cl ws H → va_D A ws → va_S A s.heap H locs → lv_has ls nL lv → W p l e R s m args below meth c H locs cells slots Q (F0 m pc ls st)
abbrev jv_B (p : Program) (c : Code) (cc : ByteArray) : Prop := p.tables.exec = Jvm.exec ∧ c.code = cc
/-- the listed locals in another order, or fewer -/
theorem jv_sub {lv' : List (Nat × Value)} (ks : List Nat) (hl : lv_pick lv ks = lv') (k : jv_V p l e R s m args below meth c D cl A nL cells slots Q ws lv' pc st) : jv_V p l e R s m args below meth c D cl A nL cells slots Q ws lv pc st := fun H locs ls a b d h => k H locs ls a b d (lv_sub h ks hl)
/-- the world's cells in another order, or fewer -/
theorem jv_ws {ws' : va_W} (is : List Nat) (hn : va_nd is = true) (hs : is.filterMap (fun i => ws[i]?) = ws') (hs2 : is.map (fun i => ws[i]?) = ws'.map some) (k : jv_V p l e R s m args below meth c D cl A nL cells slots Q ws' lv pc st) : jv_V p l e R s m args below meth c D cl A nL cells slots Q ws lv pc st := fun H locs ls a b d h => k H locs ls (a.sub is hs) (b.sub is hn hs2) d h
theorem jv_widen {k n : Nat} (h1 : cells ≤ k) (h2 : slots ≤ n) (kk : jv_V p l e R s m args below meth c D cl A nL k n Q ws lv pc st) : jv_V p l e R s m args below meth c D cl A nL cells slots Q ws lv pc st := fun H locs ls a b d h => W.widen h1 h2 (kk H locs ls a b d h)
theorem jv_iconst (B : jv_B p c cc) {n : Int} {v : Int32} (hd : decode cc pc = .ok (.iconst n, 1)) (hv : Int32.ofInt n = v)
    (k : jv_V p l e R s m args below meth c D cl A nL cells slots Q ws lv (pc + 1) (.int v :: st)) : jv_V p l e R s m args below meth c D cl A nL cells slots Q ws lv pc (st) := fun H locs ls a b d h => lv_iconst B.1 B.2 hd hv (k H locs ls a b d h)
theorem jv_bipush (B : jv_B p c cc) {n : Int} {v : Int32} (hd : decode cc pc = .ok (.bipush n, 2)) (hv : (Int8.ofInt n).toInt32 = v)
    (k : jv_V p l e R s m args below meth c D cl A nL cells slots Q ws lv (pc + 2) (.int v :: st)) : jv_V p l e R s m args below meth c D cl A nL cells slots Q ws lv pc (st) := fun H locs ls a b d h => lv_bipush B.1 B.2 hd hv (k H locs ls a b d h)
theorem jv_sipush (B : jv_B p c cc) {n : Int} {v : Int32} (hd : decode cc pc = .ok (.sipush n, 3)) (hv : (Int16.ofInt n).toInt32 = v)
    (k : jv_V p l e R s m args below meth c D cl A nL cells slots Q ws lv (pc + 3) (.int v :: st)) : jv_V p l e R s m args below meth c D cl A nL cells slots Q ws lv pc (st) := fun H locs ls a b d h => lv_sipush B.1 B.2 hd hv (k H locs ls a b d h)
theorem jv_lconst (B : jv_B p c cc) {n : Fin 2} {v : Int64} (hd : decode cc pc = .ok (.lconst n, 1)) (hv : Int64.ofNat (n : Nat) = v)
    (k : jv_V p l e R s m args below meth c D cl A nL cells slots Q ws lv (pc + 1) (.long v :: st)) : jv_V p l e R s m args below meth c D cl A nL cells slots Q ws lv pc (st) := fun H locs ls a b d h => lv_lconst B.1 B.2 hd hv (k H locs ls a b d h)
theorem jv_iload_n (B : jv_B p c cc) {j : Fin 4} {i : Nat} {x : Int32} (hd : decode cc pc = .ok (.iload_n j, 1)) (hi : (j : Nat) = i) (n : Nat) (hn : lv[n]? = some (i, .int x))
    (k : jv_V p l e R s m args below meth c D cl A nL cells slots Q ws lv (pc + 1) (.int x :: st)) : jv_V p l e R s m args below meth c D cl A nL cells slots Q ws lv pc (st) := fun H locs ls a b d h => lv_iload_n B.1 B.2 hd hi (lv_at h n hn) (k H locs ls a b d h)
theorem jv_iload (B : jv_B p c cc) {i : Nat} {x : Int32} (hd : decode cc pc = .ok (.iload i, 2)) (n : Nat) (hn : lv[n]? = some (i, .int x))
    (k : jv_V p l e R s m args below meth c D cl A nL cells slots Q ws lv (pc + 2) (.int x :: st)) : jv_V p l e R s m args below meth c D cl A nL cells slots Q ws lv pc (st) := fun H locs ls a b d h => lv_iload B.1 B.2 hd (lv_at h n hn) (k H locs ls a b d h)
theorem jv_lload_n (B : jv_B p c cc) {j : Fin 4} {i : Nat} {x : Int64} (hd : decode cc pc = .ok (.lload_n j, 1)) (hi : (j : Nat) = i) (n : Nat) (hn : lv[n]? = some (i, .long x))
    (k : jv_V p l e R s m args below meth c D cl A nL cells slots Q ws lv (pc + 1) (.long x :: st)) : jv_V p l e R s m args below meth c D cl A nL cells slots Q ws lv pc (st) := fun H locs ls a b d h => lv_lload_n B.1 B.2 hd hi (lv_at h n hn) (k H locs ls a b d h)
theorem jv_lload (B : jv_B p c cc) {i : Nat} {x : Int64} (hd : decode cc pc = .ok (.lload i, 2)) (n : Nat) (hn : lv[n]? = some (i, .long x))
    (k : jv_V p l e R s m args below meth c D cl A nL cells slots Q ws lv (pc + 2) (.long x :: st)) : jv_V p l e R s m args below meth c D cl A nL cells slots Q ws lv pc (st) := fun H locs ls a b d h => lv_lload B.1 B.2 hd (lv_at h n hn) (k H locs ls a b d h)
theorem jv_aload_n (B : jv_B p c cc) {j : Fin 4} {i : Nat} {x : Nat} (hd : decode cc pc = .ok (.aload_n j, 1)) (hi : (j : Nat) = i) (n : Nat) (hn : lv[n]? = some (i, .ref x))
    (k : jv_V p l e R s m args below meth c D cl A nL cells slots Q ws lv (pc + 1) (.ref x :: st)) : jv_V p l e R s m args below meth c D cl A nL cells slots Q ws lv pc (st) := fun H locs ls a b d h => lv_aload_n B.1 B.2 hd hi (lv_at h n hn) (k H locs ls a b d h)
theorem jv_aload (B : jv_B p c cc) {i : Nat} {x : Nat} (hd : decode cc pc = .ok (.aload i, 2)) (n : Nat) (hn : lv[n]? = some (i, .ref x))
    (k : jv_V p l e R s m args below meth c D cl A nL cells slots Q ws lv (pc + 2) (.ref x :: st)) : jv_V p l e R s m args below meth c D cl A nL cells slots Q ws lv pc (st) := fun H locs ls a b d h => lv_aload B.1 B.2 hd (lv_at h n hn) (k H locs ls a b d h)
theorem jv_istore_n (B : jv_B p c cc) {j : Fin 4} {i : Nat} {x : Int32} {lv' : List (Nat × Value)} (hd : decode cc pc = .ok (.istore_n j, 1)) (hi : (j : Nat) = i) (hn : i < nL) (hl : (i, Value.int x) :: lv.filter (fun q => !(q.1 == i) && !(q.1 + 1 == i && q.2.category == 2)) = lv')
    (k : jv_V p l e R s m args below meth c D cl A nL cells slots Q ws lv' (pc + 1) (st)) : jv_V p l e R s m args below meth c D cl A nL cells slots Q ws lv pc (.int x :: st) := fun H locs ls a b d h => lv_istore_n B.1 B.2 hd hi h hn hl (fun ls' h' => k H locs ls' a b d h')
theorem jv_istore (B : jv_B p c cc) {i : Nat} {x : Int32} {lv' : List (Nat × Value)} (hd : decode cc pc = .ok (.istore i, 2)) (hn : i < nL) (hl : (i, Value.int x) :: lv.filter (fun q => !(q.1 == i) && !(q.1 + 1 == i && q.2.category == 2)) = lv')
    (k : jv_V p l e R s m args below meth c D cl A nL cells slots Q ws lv' (pc + 2) (st)) : jv_V p l e R s m args below meth c D cl A nL cells slots Q ws lv pc (.int x :: st) := fun H locs ls a b d h => lv_istore B.1 B.2 hd h hn hl (fun ls' h' => k H locs ls' a b d h')
theorem jv_astore_n (B : jv_B p c cc) {j : Fin 4} {i : Nat} {x : Nat} {lv' : List (Nat × Value)} (hd : decode cc pc = .ok (.astore_n j, 1)) (hi : (j : Nat) = i) (hn : i < nL) (hl : (i, Value.ref x) :: lv.filter (fun q => !(q.1 == i) && !(q.1 + 1 == i && q.2.category == 2)) = lv')
    (k : jv_V p l e R s m args below meth c D cl A nL cells slots Q ws lv' (pc + 1) (st)) : jv_V p l e R s m args below meth c D cl A nL cells slots Q ws lv pc (.ref x :: st) := fun H locs ls a b d h => lv_astore_n B.1 B.2 hd hi h hn hl (fun ls' h' => k H locs ls' a b d h')
theorem jv_astore (B : jv_B p c cc) {i : Nat} {x : Nat} {lv' : List (Nat × Value)} (hd : decode cc pc = .ok (.astore i, 2)) (hn : i < nL) (hl : (i, Value.ref x) :: lv.filter (fun q => !(q.1 == i) && !(q.1 + 1 == i && q.2.category == 2)) = lv')
    (k : jv_V p l e R s m args below meth c D cl A nL cells slots Q ws lv' (pc + 2) (st)) : jv_V p l e R s m args below meth c D cl A nL cells slots Q ws lv pc (.ref x :: st) := fun H locs ls a b d h => lv_astore B.1 B.2 hd h hn hl (fun ls' h' => k H locs ls' a b d h')
theorem jv_iinc (B : jv_B p c cc) {i n9 : Nat} {n : Int} {x v : Int32} {lv' : List (Nat × Value)} (hd : decode cc pc = .ok (.iinc i n, 3)) (hk : lv[n9]? = some (i, .int x)) (hv : x + Int32.ofInt n = v) (hn : i < nL) (hl : (i, Value.int v) :: lv.filter (fun q => !(q.1 == i) && !(q.1 + 1 == i && q.2.category == 2)) = lv')
    (k : jv_V p l e R s m args below meth c D cl A nL cells slots Q ws lv' (pc + 3) (st)) : jv_V p l e R s m args below meth c D cl A nL cells slots Q ws lv pc (st) := fun H locs ls a b d h => lv_iinc B.1 B.2 hd h hk hv hn hl (fun ls' h' => k H locs ls' a b d h')
theorem jv_iadd (B : jv_B p c cc) {x y : Int32} (hd : decode cc pc = .ok (.iadd, 1))
    (k : jv_V p l e R s m args below meth c D cl A nL cells slots Q ws lv (pc + 1) (.int (x + y) :: st)) : jv_V p l e R s m args below meth c D cl A nL cells slots Q ws lv pc (.int y :: .int x :: st) := fun H locs ls a b d h => lv_iadd B.1 B.2 hd (k H locs ls a b d h)
theorem jv_isub (B : jv_B p c cc) {x y : Int32} (hd : decode cc pc = .ok (.isub, 1))
    (k : jv_V p l e R s m args below meth c D cl A nL cells slots Q ws lv (pc + 1) (.int (x - y) :: st)) : jv_V p l e R s m args below meth c D cl A nL cells slots Q ws lv pc (.int y :: .int x :: st) := fun H locs ls a b d h => lv_isub B.1 B.2 hd (k H locs ls a b d h)
theorem jv_imul (B : jv_B p c cc) {x y : Int32} (hd : decode cc pc = .ok (.imul, 1))
    (k : jv_V p l e R s m args below meth c D cl A nL cells slots Q ws lv (pc + 1) (.int (x * y) :: st)) : jv_V p l e R s m args below meth c D cl A nL cells slots Q ws lv pc (.int y :: .int x :: st) := fun H locs ls a b d h => lv_imul B.1 B.2 hd (k H locs ls a b d h)
theorem jv_iand (B : jv_B p c cc) {x y : Int32} (hd : decode cc pc = .ok (.iand, 1))
    (k : jv_V p l e R s m args below meth c D cl A nL cells slots Q ws lv (pc + 1) (.int (x &&& y) :: st)) : jv_V p l e R s m args below meth c D cl A nL cells slots Q ws lv pc (.int y :: .int x :: st) := fun H locs ls a b d h => lv_iand B.1 B.2 hd (k H locs ls a b d h)
theorem jv_ior (B : jv_B p c cc) {x y : Int32} (hd : decode cc pc = .ok (.ior, 1))
    (k : jv_V p l e R s m args below meth c D cl A nL cells slots Q ws lv (pc + 1) (.int (x ||| y) :: st)) : jv_V p l e R s m args below meth c D cl A nL cells slots Q ws lv pc (.int y :: .int x :: st) := fun H locs ls a b d h => lv_ior B.1 B.2 hd (k H locs ls a b d h)
theorem jv_ixor (B : jv_B p c cc) {x y : Int32} (hd : decode cc pc = .ok (.ixor, 1))
    (k : jv_V p l e R s m args below meth c D cl A nL cells slots Q ws lv (pc + 1) (.int (x ^^^ y) :: st)) : jv_V p l e R s m args below meth c D cl A nL cells slots Q ws lv pc (.int y :: .int x :: st) := fun H locs ls a b d h => lv_ixor B.1 B.2 hd (k H locs ls a b d h)
theorem jv_idiv (B : jv_B p c cc) {x y : Int32} (hd : decode cc pc = .ok (.idiv, 1)) (hne : ¬ y = 0)
    (k : jv_V p l e R s m args below meth c D cl A nL cells slots Q ws lv (pc + 1) (.int (x / y) :: st)) : jv_V p l e R s m args below meth c D cl A nL cells slots Q ws lv pc (.int y :: .int x :: st) := fun H locs ls a b d h => lv_idiv B.1 B.2 hd hne (k H locs ls a b d h)
theorem jv_irem (B : jv_B p c cc) {x y : Int32} (hd : decode cc pc = .ok (.irem, 1)) (hne : ¬ y = 0)
    (k : jv_V p l e R s m args below meth c D cl A nL cells slots Q ws lv (pc + 1) (.int (x - x / y * y) :: st)) : jv_V p l e R s m args below meth c D cl A nL cells slots Q ws lv pc (.int y :: .int x :: st) := fun H locs ls a b d h => lv_irem B.1 B.2 hd hne (k H locs ls a b d h)
theorem jv_i2l (B : jv_B p c cc) {x : Int32} {v : Int64} (hd : decode cc pc = .ok (.i2l, 1)) (hv : x.toInt64 = v)
    (k : jv_V p l e R s m args below meth c D cl A nL cells slots Q ws lv (pc + 1) (.long v :: st)) : jv_V p l e R s m args below meth c D cl A nL cells slots Q ws lv pc (.int x :: st) := fun H locs ls a b d h => lv_i2l B.1 B.2 hd hv (k H locs ls a b d h)
theorem jv_dup (B : jv_B p c cc) {va : Value} (hd : decode cc pc = .ok (.dup, 1)) (ha : va.category = 1)
    (k : jv_V p l e R s m args below meth c D cl A nL cells slots Q ws lv (pc + 1) (va :: va :: st)) : jv_V p l e R s m args below meth c D cl A nL cells slots Q ws lv pc (va :: st) := fun H locs ls a b d h => lv_dup B.1 B.2 hd ha (k H locs ls a b d h)
theorem jv_pop (B : jv_B p c cc) {va : Value} (hd : decode cc pc = .ok (.pop, 1)) (ha : va.category = 1)
    (k : jv_V p l e R s m args below meth c D cl A nL cells slots Q ws lv (pc + 1) (st)) : jv_V p l e R s m args below meth c D cl A nL cells slots Q ws lv pc (va :: st) := fun H locs ls a b d h => lv_pop B.1 B.2 hd ha (k H locs ls a b d h)
theorem jv_dup_x1 (B : jv_B p c cc) {va vb : Value} (hd : decode cc pc = .ok (.dup_x1, 1)) (ha : va.category = 1) (hb : vb.category = 1)
    (k : jv_V p l e R s m args below meth c D cl A nL cells slots Q ws lv (pc + 1) (va :: vb :: va :: st)) : jv_V p l e R s m args below meth c D cl A nL cells slots Q ws lv pc (va :: vb :: st) := fun H locs ls a b d h => lv_dup_x1 B.1 B.2 hd ha hb (k H locs ls a b d h)
theorem jv_dup2 (B : jv_B p c cc) {va vb : Value} (hd : decode cc pc = .ok (.dup2, 1)) (ha : va.category = 1) (hb : vb.category = 1)
    (k : jv_V p l e R s m args below meth c D cl A nL cells slots Q ws lv (pc + 1) (va :: vb :: va :: vb :: st)) : jv_V p l e R s m args below meth c D cl A nL cells slots Q ws lv pc (va :: vb :: st) := fun H locs ls a b d h => lv_dup2_11 B.1 B.2 hd ha hb (k H locs ls a b d h)
theorem jv_if_eq (B : jv_B p c cc) {x : Int32} {off : Int} {tgt : Nat} (hd : decode cc pc = .ok (.ifCond .eq off, 3)) (ht : (pc : Int) + off = (tgt : Int))
    (kt : x = 0 → jv_V p l e R s m args below meth c D cl A nL cells slots Q ws lv tgt st) (kf : ¬ x = 0 → jv_V p l e R s m args below meth c D cl A nL cells slots Q ws lv (pc + 3) st) : jv_V p l e R s m args below meth c D cl A nL cells slots Q ws lv pc (.int x :: st) := fun H locs ls a b d h => lv_if_eq B.1 B.2 hd ht (fun q => kt q H locs ls a b d h) (fun q => kf q H locs ls a b d h)
theorem jv_if_ne (B : jv_B p c cc) {x : Int32} {off : Int} {tgt : Nat} (hd : decode cc pc = .ok (.ifCond .ne off, 3)) (ht : (pc : Int) + off = (tgt : Int))
    (kt : ¬ x = 0 → jv_V p l e R s m args below meth c D cl A nL cells slots Q ws lv tgt st) (kf : x = 0 → jv_V p l e R s m args below meth c D cl A nL cells slots Q ws lv (pc + 3) st) : jv_V p l e R s m args below meth c D cl A nL cells slots Q ws lv pc (.int x :: st) := fun H locs ls a b d h => lv_if_ne B.1 B.2 hd ht (fun q => kt q H locs ls a b d h) (fun q => kf q H locs ls a b d h)
theorem jv_if_lt (B : jv_B p c cc) {x : Int32} {off : Int} {tgt : Nat} (hd : decode cc pc = .ok (.ifCond .lt off, 3)) (ht : (pc : Int) + off = (tgt : Int))
    (kt : x < 0 → jv_V p l e R s m args below meth c D cl A nL cells slots Q ws lv tgt st) (kf : ¬ x < 0 → jv_V p l e R s m args below meth c D cl A nL cells slots Q ws lv (pc + 3) st) : jv_V p l e R s m args below meth c D cl A nL cells slots Q ws lv pc (.int x :: st) := fun H locs ls a b d h => lv_if_lt B.1 B.2 hd ht (fun q => kt q H locs ls a b d h) (fun q => kf q H locs ls a b d h)
theorem jv_if_ge (B : jv_B p c cc) {x : Int32} {off : Int} {tgt : Nat} (hd : decode cc pc = .ok (.ifCond .ge off, 3)) (ht : (pc : Int) + off = (tgt : Int))
    (kt : 0 ≤ x → jv_V p l e R s m args below meth c D cl A nL cells slots Q ws lv tgt st) (kf : ¬ 0 ≤ x → jv_V p l e R s m args below meth c D cl A nL cells slots Q ws lv (pc + 3) st) : jv_V p l e R s m args below meth c D cl A nL cells slots Q ws lv pc (.int x :: st) := fun H locs ls a b d h => lv_if_ge B.1 B.2 hd ht (fun q => kt q H locs ls a b d h) (fun q => kf q H locs ls a b d h)
theorem jv_if_gt (B : jv_B p c cc) {x : Int32} {off : Int} {tgt : Nat} (hd : decode cc pc = .ok (.ifCond .gt off, 3)) (ht : (pc : Int) + off = (tgt : Int))
    (kt : 0 < x → jv_V p l e R s m args below meth c D cl A nL cells slots Q ws lv tgt st) (kf : ¬ 0 < x → jv_V p l e R s m args below meth c D cl A nL cells slots Q ws lv (pc + 3) st) : jv_V p l e R s m args below meth c D cl A nL cells slots Q ws lv pc (.int x :: st) := fun H locs ls a b d h => lv_if_gt B.1 B.2 hd ht (fun q => kt q H locs ls a b d h) (fun q => kf q H locs ls a b d h)
theorem jv_if_le (B : jv_B p c cc) {x : Int32} {off : Int} {tgt : Nat} (hd : decode cc pc = .ok (.ifCond .le off, 3)) (ht : (pc : Int) + off = (tgt : Int))
    (kt : x ≤ 0 → jv_V p l e R s m args below meth c D cl A nL cells slots Q ws lv tgt st) (kf : ¬ x ≤ 0 → jv_V p l e R s m args below meth c D cl A nL cells slots Q ws lv (pc + 3) st) : jv_V p l e R s m args below meth c D cl A nL cells slots Q ws lv pc (.int x :: st) := fun H locs ls a b d h => lv_if_le B.1 B.2 hd ht (fun q => kt q H locs ls a b d h) (fun q => kf q H locs ls a b d h)
theorem jv_icmp_eq (B : jv_B p c cc) {x y : Int32} {off : Int} {tgt : Nat} (hd : decode cc pc = .ok (.if_icmp .eq off, 3)) (ht : (pc : Int) + off = (tgt : Int))
    (kt : x = y → jv_V p l e R s m args below meth c D cl A nL cells slots Q ws lv tgt st) (kf : ¬ x = y → jv_V p l e R s m args below meth c D cl A nL cells slots Q ws lv (pc + 3) st) : jv_V p l e R s m args below meth c D cl A nL cells slots Q ws lv pc (.int y :: .int x :: st) := fun H locs ls a b d h => lv_icmp_eq B.1 B.2 hd ht (fun q => kt q H locs ls a b d h) (fun q => kf q H locs ls a b d h)
theorem jv_icmp_ne (B : jv_B p c cc) {x y : Int32} {off : Int} {tgt : Nat} (hd : decode cc pc = .ok (.if_icmp .ne off, 3)) (ht : (pc : Int) + off = (tgt : Int))
    (kt : ¬ x = y → jv_V p l e R s m args below meth c D cl A nL cells slots Q ws lv tgt st) (kf : x = y → jv_V p l e R s m args below meth c D cl A nL cells slots Q ws lv (pc + 3) st) : jv_V p l e R s m args below meth c D cl A nL cells slots Q ws lv pc (.int y :: .int x :: st) := fun H locs ls a b d h => lv_icmp_ne B.1 B.2 hd ht (fun q => kt q H locs ls a b d h) (fun q => kf q H locs ls a b d h)
theorem jv_icmp_lt (B : jv_B p c cc) {x y : Int32} {off : Int} {tgt : Nat} (hd : decode cc pc = .ok (.if_icmp .lt off, 3)) (ht : (pc : Int) + off = (tgt : Int))
    (kt : x < y → jv_V p l e R s m args below meth c D cl A nL cells slots Q ws lv tgt st) (kf : ¬ x < y → jv_V p l e R s m args below meth c D cl A nL cells slots Q ws lv (pc + 3) st) : jv_V p l e R s m args below meth c D cl A nL cells slots Q ws lv pc (.int y :: .int x :: st) := fun H locs ls a b d h => lv_icmp_lt B.1 B.2 hd ht (fun q => kt q H locs ls a b d h) (fun q => kf q H locs ls a b d h)
theorem jv_icmp_ge (B : jv_B p c cc) {x y : Int32} {off : Int} {tgt : Nat} (hd : decode cc pc = .ok (.if_icmp .ge off, 3)) (ht : (pc : Int) + off = (tgt : Int))
    (kt : y ≤ x → jv_V p l e R s m args below meth c D cl A nL cells slots Q ws lv tgt st) (kf : ¬ y ≤ x → jv_V p l e R s m args below meth c D cl A nL cells slots Q ws lv (pc + 3) st) : jv_V p l e R s m args below meth c D cl A nL cells slots Q ws lv pc (.int y :: .int x :: st) := fun H locs ls a b d h => lv_icmp_ge B.1 B.2 hd ht (fun q => kt q H locs ls a b d h) (fun q => kf q H locs ls a b d h)
theorem jv_icmp_gt (B : jv_B p c cc) {x y : Int32} {off : Int} {tgt : Nat} (hd : decode cc pc = .ok (.if_icmp .gt off, 3)) (ht : (pc : Int) + off = (tgt : Int))
    (kt : y < x → jv_V p l e R s m args below meth c D cl A nL cells slots Q ws lv tgt st) (kf : ¬ y < x → jv_V p l e R s m args below meth c D cl A nL cells slots Q ws lv (pc + 3) st) : jv_V p l e R s m args below meth c D cl A nL cells slots Q ws lv pc (.int y :: .int x :: st) := fun H locs ls a b d h => lv_icmp_gt B.1 B.2 hd ht (fun q => kt q H locs ls a b d h) (fun q => kf q H locs ls a b d h)
theorem jv_icmp_le (B : jv_B p c cc) {x y : Int32} {off : Int} {tgt : Nat} (hd : decode cc pc = .ok (.if_icmp .le off, 3)) (ht : (pc : Int) + off = (tgt : Int))
    (kt : x ≤ y → jv_V p l e R s m args below meth c D cl A nL cells slots Q ws lv tgt st) (kf : ¬ x ≤ y → jv_V p l e R s m args below meth c D cl A nL cells slots Q ws lv (pc + 3) st) : jv_V p l e R s m args below meth c D cl A nL cells slots Q ws lv pc (.int y :: .int x :: st) := fun H locs ls a b d h => lv_icmp_le B.1 B.2 hd ht (fun q => kt q H locs ls a b d h) (fun q => kf q H locs ls a b d h)
theorem jv_goto (B : jv_B p c cc) {off : Int} {tgt : Nat} (hd : decode cc pc = .ok (.goto off, 3)) (ht : (pc : Int) + off = (tgt : Int)) (k : jv_V p l e R s m args below meth c D cl A nL cells slots Q ws lv tgt st) : jv_V p l e R s m args below meth c D cl A nL cells slots Q ws lv pc st := fun H locs ls a b d h => lv_goto B.1 B.2 hd ht (k H locs ls a b d h)
theorem jv_iald (B : jv_B p c cc) (hK : va_K D cl tys s) (q0 t0 : Nat) {a : Nat} {cA : ClassId} {n : Nat} {f : Nat → Int32} (ha : ws[q0]? = some (a, .inl (cA, n, .inl f))) (ht : tys[t0]? = some (cA, .int)) {i : Int32} (hi : vp_in i n) (hd : decode cc pc = .ok (.iaload, 1))
    (k : jv_V p l e R s m args below meth c D cl A nL cells slots Q ws lv (pc + 1) (.int (f i.toNatClampNeg) :: st)) : jv_V p l e R s m args below meth c D cl A nL cells slots Q ws lv pc (.int i :: .ref a :: st) := fun H locs ls a9 b d h => va_iald B.1 B.2 hK a9 q0 t0 ha ht hi hd (k H locs ls a9 b d h)
theorem jv_iast (B : jv_B p c cc) (hK : va_K D cl tys s) (q0 t0 : Nat) {a : Nat} {cA : ClassId} {n : Nat} {f : Nat → Int32} {ws' : va_W} (ha : ws[q0]? = some (a, .inl (cA, n, .inl f))) (ht : tys[t0]? = some (cA, .int)) {i x : Int32} (hi : vp_in i n) (hd : decode cc pc = .ok (.iastore, 1)) (hw : ws.set q0 (a, .inl (cA, n, .inl (upd f i.toNatClampNeg x))) = ws')
    (k : jv_V p l e R s m args below meth c D cl A nL cells slots Q ws' lv (pc + 1) st) : jv_V p l e R s m args below meth c D cl A nL cells slots Q ws lv pc (.int x :: .int i :: .ref a :: st) := fun H locs ls a9 b d h => va_iast B.1 B.2 hK a9 b d q0 t0 ha ht hi hd (fun H1 locs1 a1 b1 d1 => k H1 locs1 ls (hw ▸ a1) (hw ▸ b1) d1 h)
theorem jv_alen (B : jv_B p c cc) (hK : va_K D cl tys s) (q0 t0 : Nat) {a : Nat} {cA : ClassId} {x : vp_A} (ha : ws[q0]? = some (a, .inl (cA, x))) {ty : FieldType} (ht : tys[t0]? = some (cA, ty)) {v : Int32} (hv : Int32.ofNat x.1 = v) (hd : decode cc pc = .ok (.arraylength, 1))
    (k : jv_V p l e R s m args below meth c D cl A nL cells slots Q ws lv (pc + 1) (.int v :: st)) : jv_V p l e R s m args below meth c D cl A nL cells slots Q ws lv pc (.ref a :: st) := fun H locs ls a9 b d h => va_alen B.1 B.2 hK a9 q0 t0 ha ht hv hd (k H locs ls a9 b d h)
/-- what a method of ours finds at its start: its world, its cells apart and in A, and all that is new is in A -/
def jv_Pre (D : va_G) (cl : List vw_C) (tys : List (ClassId × FieldType)) (A : Nat → Prop) (ws : va_W) (av : List Value) : Array Value → State → Prop := va_Pc av (fun U => va_P D cl ws U.heap ∧ va_K D cl tys U ∧ va_D A ws ∧ ∀ q : Nat, U.heap.size ≤ q → A q)
/-- what it leaves: the world of u -/
def jv_End {S : Type} (D : va_G) (cl : List vw_C) (tys : List (ClassId × FieldType)) (A : Nat → Prop) (wf : S → va_W) (u : S) (t : State) : Prop := va_P D cl (wf u) t.heap ∧ va_K D cl tys t ∧ va_D A (wf u)
theorem jv_blind {av : List Value} : FrameBlind (jv_Pre D cl tys A ws av) := fun a U g mk q => ⟨q.1, q.2.1, va_K.moved (u := U) (U := U.calling g mk a) (Vm.Alike.refl U.vm) q.2.2.1, q.2.2.2⟩
theorem jv_pre {H : Heap} {locs : List Loc} {av : List Value} (hK : va_K D cl tys s) (hA : ∀ q : Nat, s.heap.size ≤ q → A q) (hP : va_P D cl ws H) (hD : va_D A ws) (hS : va_S A s.heap H locs) : ∀ U : State, U.heap = H → s.WarmedH U.vm → jv_Pre D cl tys A ws av av.toArray U := fun U hU hW => ⟨rfl, by rw [hU]; exact hP, va_K.moved hW.alike hK, hD, fun q hq => hA q (Nat.le_trans hS.1 (by rw [hU] at hq; exact hq))⟩
/-- all that a walk knows from its entry on -/
abbrev jv_C (p : Program) (s : State) (m : MethodId) (args : Array Value) (meth : Method) (c : Code) (cc : ByteArray) (nL : Nat) (ret : Option FieldType) (y : MethodName) (wl : List Cond) (D : va_G) (cl : List vw_C) (tys : List (ClassId × FieldType)) (A : Nat → Prop) : Prop :=
  jv_B p c cc ∧ c.maxLocals = nL ∧ s.vm.findClass y.cls = some m.cls ∧ (∀ w ∈ wl, w.before args s = true) ∧ va_K D cl tys s ∧ (∀ q : Nat, s.heap.size ≤ q → A q) ∧ meth.sig.returnType = ret ∧ meth.locks = false ∧ meth.name = y.name
theorem jv_ofW {y : MethodName} {wl wl' : List Cond} {rm : Room} {av : List Value} {Qc : Array Value → State → Outcome → State → Prop} {mc ms maxL : Nat} {ret : Option FieldType} (hy : plainName y.cls = true) (hw : wl = Cond.code y cc maxL ret :: wl') (hlen : (lg_sl av).length ≤ maxL)
    (body : ∀ (p : Program) (e : Env) (s : State) (m : MethodId) (below : List Frame) (meth : Method) (c : Code), jv_C p s m av.toArray meth c cc maxL ret y wl D cl tys A → jv_V p l e rm s m av.toArray below meth c D cl A maxL 0 0 (MQ below Qc av.toArray s mc ms A) ws (lv_args 0 av) 0 []) : Met l y wl rm (jv_Pre D cl tys A ws av) Qc mc ms A := by
  refine Met.ofW (cc := cc) (maxL := maxL) (ret := ret) hy hw ?_
  intro p e s m args below meth c s₁ B hml hv
  obtain ⟨rfl, hP, hK, hD, hA⟩ := hv
  have hts := atoms_spec (ws := wl) B.pre
  have hown : s.vm.findClass y.cls = some m.cls := findClass_of_methodNamed B.named
  have hl := lv_entry av (n := maxL) hlen
  rw [lg_entry_eq]
  exact body p e s m below meth c ⟨⟨B.exec, B.bytes⟩, hml, hown, hts, hK, hA, B.returns, B.notSynchronized, (name_of_methodNamed B.named B.method).1⟩ s.heap [] _ hP hD va_S.rf hl
theorem jv_iret {S : Type} {wf : S → va_W} {post : Int32 → S → Prop} {v : Int32} {ty : FieldType} (B : jv_B p c cc) (hr : meth.sig.returnType = some ty) (hn : narrow ty (.int v) = .int v) (hlocks : meth.locks = false) (hK : va_K D cl tys s) (u : S) (hw : wf u = ws) (hp : post v u) (hd : decode cc pc = .ok (.ireturn, 1)) :
    jv_V p l e R s m args below meth c D cl A nL cells slots (MQ below (va_Qi post (jv_End D cl tys A wf) A) args s cells slots A) ws lv pc [.int v] := by
  intro H locs ls hP hD hS hl
  subst hw
  exact W.zret B.1 B.2 hr hn (fun t ht hW => ⟨⟨v, u, rfl, hp, by rw [ht]; exact hP, va_K.moved hW.alike hK, hD⟩, hS.F ht⟩) hS.2.2 hd hlocks
theorem jv_vret {S : Type} {wf : S → va_W} {post : S → Prop} (B : jv_B p c cc) (hr : meth.sig.returnType = none) (hlocks : meth.locks = false) (hK : va_K D cl tys s) (u : S) (hw : wf u = ws) (hp : post u) (hd : decode cc pc = .ok (.return_, 1)) :
    jv_V p l e R s m args below meth c D cl A nL cells slots (MQ below (va_Qv post (jv_End D cl tys A wf) A) args s cells slots A) ws lv pc [] := by
  intro H locs ls hP hD hS hl
  subst hw
  exact W.vret B.1 B.2 hr (fun t ht hW => ⟨⟨u, rfl, hp, by rw [ht]; exact hP, va_K.moved hW.alike hK, hD⟩, hS.F ht⟩) hS.2.2 hd hlocks
section JVC
variable {S : Type} {wf : S → va_W} {y : MethodName} {bytes : ByteArray} {maxL mc ms n index : Nat} {ret : Option FieldType} {wl Ts : List Cond} {rm : Room} {own C : String} {b : Addr} {As : List Value}
theorem jv_civ {post : Int32 → S → Prop} (B : jv_B p c cc) (hml : c.maxLocals = nL) (hown : s.vm.findClass own = some m.cls) (hts : ∀ w ∈ Ts, w.before args s = true) (hK : va_K D cl tys s) (hA : ∀ q : Nat, s.heap.size ≤ q → A q)
    (hM : Met l y wl rm (jv_Pre D cl tys A ws (.ref b :: As)) (va_Qi post (jv_End D cl tys A wf) A) mc ms A) (cw : CallW R s args own C index y bytes maxL ret wl rm mc ms n) (q0 ci : Nat) {q : vw_C} {fs : List Value} (hc : cl[ci]? = some q) (hq : q.1 = C) (he : ws[q0]? = some (b, .inr (ci, fs)))
    (hn : As.length = n) (hW : (st.map fun v => v.category).sum ≤ 8) (hd : decode cc pc = .ok (.invokevirtual index, 3)) (hf : cells + mc ≤ R.cells ∧ slots + ms ≤ R.slots) {st0 : List Value} (hst : st0 = As.reverse ++ .ref b :: st)
    (k : ∀ (r : Int32) (u : S), post r u → jv_V p l e R s m args below meth c D cl A nL (cells + mc) (slots + ms) Q (wf u) lv (pc + 3) (.int r :: st)) : jv_V p l e R s m args below meth c D cl A nL cells slots Q ws lv pc st0 := by
  subst hq
  intro H locs ls hP hD hS hl
  exact va_calli (va_runV (As := As) (rest := st) ⟨B.1, B.2, hml, hown, hts⟩ hM cw ⟨jv_blind, va_recv hK hP hc he, jv_pre hK hA hP hD hS⟩ rfl hn hl.1 hst (lv_room hW) hd hf) hS (fun _ _ h => h) (fun _ h => h) (fun r u t H1 locs1 ht hvm hp hB hz hk hS1 => k r u hp H1 locs1 ls (ht ▸ hB.1) hB.2.2 hS1 hl)
theorem jv_cvv {post : S → Prop} (B : jv_B p c cc) (hml : c.maxLocals = nL) (hown : s.vm.findClass own = some m.cls) (hts : ∀ w ∈ Ts, w.before args s = true) (hK : va_K D cl tys s) (hA : ∀ q : Nat, s.heap.size ≤ q → A q)
    (hM : Met l y wl rm (jv_Pre D cl tys A ws (.ref b :: As)) (va_Qv post (jv_End D cl tys A wf) A) mc ms A) (cw : CallW R s args own C index y bytes maxL ret wl rm mc ms n) (q0 ci : Nat) {q : vw_C} {fs : List Value} (hc : cl[ci]? = some q) (hq : q.1 = C) (he : ws[q0]? = some (b, .inr (ci, fs)))
    (hn : As.length = n) (hW : (st.map fun v => v.category).sum ≤ 8) (hd : decode cc pc = .ok (.invokevirtual index, 3)) (hf : cells + mc ≤ R.cells ∧ slots + ms ≤ R.slots) {st0 : List Value} (hst : st0 = As.reverse ++ .ref b :: st)
    (k : ∀ u : S, post u → jv_V p l e R s m args below meth c D cl A nL (cells + mc) (slots + ms) Q (wf u) lv (pc + 3) st) : jv_V p l e R s m args below meth c D cl A nL cells slots Q ws lv pc st0 := by
  subst hq
  intro H locs ls hP hD hS hl
  exact va_callv (va_runV (As := As) (rest := st) ⟨B.1, B.2, hml, hown, hts⟩ hM cw ⟨jv_blind, va_recv hK hP hc he, jv_pre hK hA hP hD hS⟩ rfl hn hl.1 hst (lv_room hW) hd hf) hS (fun _ _ h => h) (fun _ h => h) (fun u t H1 locs1 ht hvm hp hB hz hk hS1 => k u hp H1 locs1 ls (ht ▸ hB.1) hB.2.2 hS1 hl)
theorem jv_cis {post : Int32 → S → Prop} (B : jv_B p c cc) (hml : c.maxLocals = nL) (hown : s.vm.findClass own = some m.cls) (hts : ∀ w ∈ Ts, w.before args s = true) (hK : va_K D cl tys s) (hA : ∀ q : Nat, s.heap.size ≤ q → A q)
    (hM : Met l y wl rm (jv_Pre D cl tys A ws As) (va_Qi post (jv_End D cl tys A wf) A) mc ms A) (cw : CallB R s args own index y bytes maxL ret wl rm mc ms n ∧ (Cond.static y).before args s = true)
    (hn : As.length = n) (hW : (st.map fun v => v.category).sum ≤ 8) (hd : decode cc pc = .ok (.invokestatic index, 3)) (hf : cells + mc ≤ R.cells ∧ slots + ms ≤ R.slots) {st0 : List Value} (hst : st0 = As.reverse ++ st)
    (k : ∀ (r : Int32) (u : S), post r u → jv_V p l e R s m args below meth c D cl A nL (cells + mc) (slots + ms) Q (wf u) lv (pc + 3) (.int r :: st)) : jv_V p l e R s m args below meth c D cl A nL cells slots Q ws lv pc st0 := by
  intro H locs ls hP hD hS hl
  exact va_calli (va_runS (As := As) (rest := st) ⟨B.1, B.2, hml, hown, hts⟩ hM cw ⟨jv_blind, jv_pre hK hA hP hD hS⟩ rfl hn hl.1 hst (lv_room hW) hd hf) hS (fun _ _ h => h) (fun _ h => h) (fun r u t H1 locs1 ht hvm hp hB hz hk hS1 => k r u hp H1 locs1 ls (ht ▸ hB.1) hB.2.2 hS1 hl)
theorem jv_cvs {post : S → Prop} (B : jv_B p c cc) (hml : c.maxLocals = nL) (hown : s.vm.findClass own = some m.cls) (hts : ∀ w ∈ Ts, w.before args s = true) (hK : va_K D cl tys s) (hA : ∀ q : Nat, s.heap.size ≤ q → A q)
    (hM : Met l y wl rm (jv_Pre D cl tys A ws As) (va_Qv post (jv_End D cl tys A wf) A) mc ms A) (cw : CallB R s args own index y bytes maxL ret wl rm mc ms n ∧ (Cond.static y).before args s = true)
    (hn : As.length = n) (hW : (st.map fun v => v.category).sum ≤ 8) (hd : decode cc pc = .ok (.invokestatic index, 3)) (hf : cells + mc ≤ R.cells ∧ slots + ms ≤ R.slots) {st0 : List Value} (hst : st0 = As.reverse ++ st)
    (k : ∀ u : S, post u → jv_V p l e R s m args below meth c D cl A nL (cells + mc) (slots + ms) Q (wf u) lv (pc + 3) st) : jv_V p l e R s m args below meth c D cl A nL cells slots Q ws lv pc st0 := by
  intro H locs ls hP hD hS hl
  exact va_callv (va_runS (As := As) (rest := st) ⟨B.1, B.2, hml, hown, hts⟩ hM cw ⟨jv_blind, jv_pre hK hA hP hD hS⟩ rfl hn hl.1 hst (lv_room hW) hd hf) hS (fun _ _ h => h) (fun _ h => h) (fun u t H1 locs1 ht hvm hp hB hz hk hS1 => k u hp H1 locs1 ls (ht ▸ hB.1) hB.2.2 hS1 hl)
end JVC
/-- a field read, a field written -/
theorem jv_get (B : jv_B p c cc) {own ref C : String} {T : u_T} {N ci index : Nat} {Ts : List Cond} (hts : ∀ w ∈ Ts, w.before args s = true) (hin : ∀ w ∈ u_ws C T N, w ∈ Ts) (hown : s.vm.findClass own = some m.cls) (hK : va_K D cl tys s) (q0 : Nat) {a : Nat} {fs : List Value} (he : ws[q0]? = some (a, .inr (ci, fs))) (hc : cl[ci]? = some (C, T, N)) (k : Nat) (hk : k < N) (hlink : (Cond.fieldLink own index ref (T k).2.1 (T k).2.2.1).before args s = true) (hsame : ∀ x, s.fieldFound? (T k).1 (T k).2.1 (T k).2.2.1 = some x → s.fieldFound? ref (T k).2.1 (T k).2.2.1 = some x) {v : Value} (hv : fs[k]? = some v) (hd : decode cc pc = .ok (.getfield index, 3))
    (kk : jv_V p l e R s m args below meth c D cl A nL cells slots Q ws lv (pc + 3) (v :: st)) : jv_V p l e R s m args below meth c D cl A nL cells slots Q ws lv pc (.ref a :: st) := fun H locs ls a9 b d h => va_get B.1 B.2 hts hin hown hK a9 q0 he hc k hk hlink hsame hv hd (kk H locs ls a9 b d h)
theorem jv_put (B : jv_B p c cc) {own ref C : String} {T : u_T} {N ci index : Nat} {Ts : List Cond} (hts : ∀ w ∈ Ts, w.before args s = true) (hin : ∀ w ∈ u_ws C T N, w ∈ Ts) (ty0 : Nat → FieldType) (hty : ∀ k, k < N → parseFieldDescriptor (T k).2.2.1 = some (ty0 k)) (hnm : ∀ a, a < N → ∀ b, b < N → a ≠ b → (T a).2.1 ≠ (T b).2.1) (hown : s.vm.findClass own = some m.cls) (hK : va_K D cl tys s) (q0 : Nat) {a : Nat} {fs : List Value} (he : ws[q0]? = some (a, .inr (ci, fs))) (hc : cl[ci]? = some (C, T, N)) (k : Nat) (hk : k < N) (hlink : (Cond.fieldLink own index ref (T k).2.1 (T k).2.2.1).before args s = true) (hsame : ∀ x, s.fieldFound? (T k).1 (T k).2.1 (T k).2.2.1 = some x → s.fieldFound? ref (T k).2.1 (T k).2.2.1 = some x) (hfin : (T k).2.2.2 = false) {ty : FieldType} {v : Value} (hd9 : parseFieldDescriptor (T k).2.2.1 = some ty) (hn : narrow ty v = v) (hfit : fits ty v = true) (hl : k < fs.length)
    (hd : decode cc pc = .ok (.putfield index, 3)) {ws' : va_W} (hw : ws.set q0 (a, .inr (ci, fs.set k v)) = ws') (kk : jv_V p l e R s m args below meth c D cl A nL cells slots Q ws' lv (pc + 3) st) : jv_V p l e R s m args below meth c D cl A nL cells slots Q ws lv pc (v :: .ref a :: st) := fun H locs ls a9 b d h => va_put B.1 B.2 hts hin ty0 hty hnm hown hK a9 b d q0 he hc k hk hlink hsame hfin hd9 hn hfit hl hd (fun H1 locs1 a1 b1 d1 => kk H1 locs1 ls (hw ▸ a1) (hw ▸ b1) d1 h)
theorem jv_putF (B : jv_B p c cc) {own ref C : String} {T : u_T} {N ci index : Nat} {Ts : List Cond} (hts : ∀ w ∈ Ts, w.before args s = true) (hin : ∀ w ∈ u_ws C T N, w ∈ Ts) (ty0 : Nat → FieldType) (hty : ∀ k, k < N → parseFieldDescriptor (T k).2.2.1 = some (ty0 k)) (hnm : ∀ a, a < N → ∀ b, b < N → a ≠ b → (T a).2.1 ≠ (T b).2.1) (hown : s.vm.findClass own = some m.cls) (hK : va_K D cl tys s) (q0 : Nat) {a : Nat} {fs : List Value} (he : ws[q0]? = some (a, .inr (ci, fs))) (hc : cl[ci]? = some (C, T, N)) (k : Nat) (hk : k < N) (hlink : (Cond.fieldLink own index ref (T k).2.1 (T k).2.2.1).before args s = true) (hsame : ∀ x, s.fieldFound? (T k).1 (T k).2.1 (T k).2.2.1 = some x → s.fieldFound? ref (T k).2.1 (T k).2.2.1 = some x) (hfin : (T k).2.2.2 = true) (hin2 : meth.name = "<init>") (hdecl : (T k).1 = own) {ty : FieldType} {v : Value} (hd9 : parseFieldDescriptor (T k).2.2.1 = some ty) (hn : narrow ty v = v) (hfit : fits ty v = true) (hl : k < fs.length)
    (hd : decode cc pc = .ok (.putfield index, 3)) {ws' : va_W} (hw : ws.set q0 (a, .inr (ci, fs.set k v)) = ws') (kk : jv_V p l e R s m args below meth c D cl A nL cells slots Q ws' lv (pc + 3) st) : jv_V p l e R s m args below meth c D cl A nL cells slots Q ws lv pc (v :: .ref a :: st) := fun H locs ls a9 b d h => va_putF B.1 B.2 hts hin ty0 hty hnm hown hK a9 b d q0 he hc k hk hlink hsame hfin hin2 hdecl hd9 hn hfit hl hd (fun H1 locs1 a1 b1 d1 => kk H1 locs1 ls (hw ▸ a1) (hw ▸ b1) d1 h)
end JV
end
section
abbrev jS : Type := Nat → Nat → Int32
/-- one number of one cell; the first n places of an array; a stretch out of another array -/
def up2 (σ : jS) (i j : Nat) (v : Int32) : jS := fun a => if a = i then (fun b => if b = j then v else σ a b) else σ a
def upA (σ : jS) (i n : Nat) (v : Int32) : jS := fun a => if a = i then (fun b => if b < n then v else σ a b) else σ a
def upC (σ : jS) (i k sp dp n : Nat) : jS := fun a => if a = i then va_cpy (σ k) (σ a) sp dp n else σ a
abbrev jTy (cI cA cL : ClassId) : List (ClassId × FieldType) := [(cI, .int), (cA, .array .int), (cL, .long)]
abbrev rmk (d mc ms : Nat) : Room := { frames := d, cells := mc, slots := ms, locals := 32 * d }
/-- the words of the tables that stay -/
def wb : List Cond := lw_tbl.filter goodWord
theorem wb_good {w : Cond} (h : w ∈ wb) : (w.onTables && w.keeps) = true ∨ ∃ ty, w = .arrayClass ty := good_of_word (List.mem_filter.mp h).2
theorem wb_t {w : Cond} (i : Nat) (h : tables_1[i]? = some w) (hg : goodWord w = true) : w ∈ wb := List.mem_filter.mpr ⟨List.mem_append_right _ (List.mem_of_getElem? h), hg⟩
theorem wb_s {w : Cond} (i : Nat) (h : (k2_sels lw_privs)[i]? = some w) (hg : goodWord w = true) : w ∈ wb := List.mem_filter.mpr ⟨List.mem_append_left _ (List.mem_of_getElem? h), hg⟩
theorem gw_V {own C : String} {idx maxL : Nat} {y : MethodName} {cc : ByteArray} {ret : Option FieldType} (h1 : Cond.methodLink own idx y ∈ wb) (h2 : Cond.instanceMethod y ∈ wb) (h3 : Cond.selects C y y ∈ wb) (h4 : Cond.initialized C ∈ wb) (h5 : Cond.code y cc maxL ret ∈ wb) : GoodIn wb (wsV own idx C y (Cond.code y cc maxL ret :: wb)) := by
  intro w hw
  have h : w ∈ wb := by
    simp only [wsV, List.cons_append, List.nil_append, List.mem_cons] at hw
    rcases hw with rfl | rfl | rfl | rfl | rfl | hw
    · exact h1
    · exact h2
    · exact h3
    · exact h4
    · exact h5
    · exact hw
  exact ⟨h, wb_good h⟩
theorem gw_S {own : String} {idx maxL : Nat} {y : MethodName} {cc : ByteArray} {ret : Option FieldType} (h1 : Cond.methodLink own idx y ∈ wb) (h2 : Cond.static y ∈ wb) (h4 : Cond.initialized own ∈ wb) (h5 : Cond.code y cc maxL ret ∈ wb) : GoodIn wb (wsS own idx y (Cond.code y cc maxL ret :: wb)) := by
  intro w hw
  have h : w ∈ wb := by
    simp only [wsS, List.cons_append, List.nil_append, List.mem_cons] at hw
    rcases hw with rfl | rfl | rfl | rfl | hw
    · exact h1
    · exact h2
    · exact h4
    · exact h5
    · exact hw
  exact ⟨h, wb_good h⟩
/-- the world of the class -/
def cw (ad : Nat → Nat) (cI cA : ClassId) (σ : jS) (F : va_W) : va_W :=
  (ad 0, .inr (4, [.ref (ad 1), .ref (ad 6), .ref (ad 8), .ref (ad 9)])) ::
  (ad 1, .inr (1, [.ref (ad 2), .ref (ad 3), .ref (ad 4), .ref (ad 5), .int (σ 1 4), .int (σ 1 5), .int (σ 1 6)])) ::
  (ad 2, .inl (cI, 64, .inl (σ 2))) ::
  (ad 3, .inl (cI, 64, .inl (σ 3))) ::
  (ad 4, .inl (cI, 64, .inl (σ 4))) ::
  (ad 5, .inl (cI, 64, .inl (σ 5))) ::
  (ad 6, .inr (3, [.ref (ad 7), .int (σ 6 1)])) ::
  (ad 7, .inl (cI, 64, .inl (σ 7))) ::
  (ad 8, .inr (0, [.ref (ad 1), .ref (ad 6), .int (σ 8 2), .int (σ 8 3), .int (σ 8 4), .int (σ 8 5), .int (σ 8 6), .int (σ 8 7)])) ::
  (ad 9, .inr (2, [.ref (ad 10), .ref (ad 13), .int (σ 9 2)])) ::
  (ad 10, .inl (cA, 2, .inr (.inr (.inr (.inr (fun j => if j < 2 then some (ad (11 + j)) else none)))))) ::
  (ad 11, .inl (cI, 140, .inl (σ 11))) ::
  (ad 12, .inl (cI, 140, .inl (σ 12))) ::
  (ad 13, .inl (cI, 140, .inl (σ 13))) :: F
/-- the world of the reference -/
def mw (ad : Nat → Nat) (cI cA : ClassId) (σ : jS) (F : va_W) : va_W :=
  (ad 0, .inr (5, [.int (σ 0 0), .int (σ 0 1), .ref (ad 1), .ref (ad 2), .ref (ad 3), .ref (ad 4), .int (σ 0 6), .int (σ 0 7), .int (σ 0 8), .int (σ 0 9), .ref (ad 5), .int (σ 0 11), .int (σ 0 12), .int (σ 0 13), .int (σ 0 14), .int (σ 0 15), .int (σ 0 16), .int (σ 0 17), .ref (ad 6), .ref (ad 7), .int (σ 0 20)])) ::
  (ad 1, .inl (cI, 64, .inl (σ 1))) ::
  (ad 2, .inl (cI, 64, .inl (σ 2))) ::
  (ad 3, .inl (cI, 64, .inl (σ 3))) ::
  (ad 4, .inl (cI, 64, .inl (σ 4))) ::
  (ad 5, .inl (cI, 64, .inl (σ 5))) ::
  (ad 6, .inl (cI, 280, .inl (σ 6))) ::
  (ad 7, .inl (cI, 140, .inl (σ 7))) :: F
theorem kw_29 : Cond.fieldLink rn_D 9 "RescueDesk$Disk" "words" "[I" ∈ wb := wb_t 29 (by decide +kernel) (by decide +kernel)
theorem kw_30 : Cond.fieldLink rn_D 15 "RescueDesk$Disk" "failuresLeft" "[I" ∈ wb := wb_t 30 (by decide +kernel) (by decide +kernel)
theorem kw_31 : Cond.fieldLink rn_D 18 "RescueDesk$Disk" "readCounts" "[I" ∈ wb := wb_t 31 (by decide +kernel) (by decide +kernel)
theorem kw_32 : Cond.fieldLink rn_D 21 "RescueDesk$Disk" "target" "[I" ∈ wb := wb_t 32 (by decide +kernel) (by decide +kernel)
theorem kw_33 : Cond.fieldLink rn_D 24 "RescueDesk$Disk" "sectors" "I" ∈ wb := wb_t 33 (by decide +kernel) (by decide +kernel)
theorem kw_34 : Cond.fieldLink rn_D 28 "RescueDesk$Disk" "stretches" "I" ∈ wb := wb_t 34 (by decide +kernel) (by decide +kernel)
theorem kw_35 : Cond.fieldLink rn_D 31 "RescueDesk$Disk" "failedStretches" "I" ∈ wb := wb_t 35 (by decide +kernel) (by decide +kernel)
theorem kw_36 : Cond.laysFinal "RescueDesk$Disk" "RescueDesk$Disk" "words" "[I" ∈ wb := wb_t 36 (by decide +kernel) (by decide +kernel)
theorem kw_38 : Cond.laysFinal "RescueDesk$Disk" "RescueDesk$Disk" "failuresLeft" "[I" ∈ wb := wb_t 38 (by decide +kernel) (by decide +kernel)
theorem kw_40 : Cond.laysFinal "RescueDesk$Disk" "RescueDesk$Disk" "readCounts" "[I" ∈ wb := wb_t 40 (by decide +kernel) (by decide +kernel)
theorem kw_42 : Cond.laysFinal "RescueDesk$Disk" "RescueDesk$Disk" "target" "[I" ∈ wb := wb_t 42 (by decide +kernel) (by decide +kernel)
theorem kw_44 : Cond.lays "RescueDesk$Disk" "RescueDesk$Disk" "sectors" "I" ∈ wb := wb_t 44 (by decide +kernel) (by decide +kernel)
theorem kw_46 : Cond.lays "RescueDesk$Disk" "RescueDesk$Disk" "stretches" "I" ∈ wb := wb_t 46 (by decide +kernel) (by decide +kernel)
theorem kw_48 : Cond.lays "RescueDesk$Disk" "RescueDesk$Disk" "failedStretches" "I" ∈ wb := wb_t 48 (by decide +kernel) (by decide +kernel)
theorem kw_58 : Cond.fieldLink rn_S 9 "RescueDesk$SectorMap" "states" "[I" ∈ wb := wb_t 58 (by decide +kernel) (by decide +kernel)
theorem kw_59 : Cond.fieldLink rn_S 24 "RescueDesk$SectorMap" "sectors" "I" ∈ wb := wb_t 59 (by decide +kernel) (by decide +kernel)
theorem kw_60 : Cond.laysFinal "RescueDesk$SectorMap" "RescueDesk$SectorMap" "states" "[I" ∈ wb := wb_t 60 (by decide +kernel) (by decide +kernel)
theorem kw_62 : Cond.lays "RescueDesk$SectorMap" "RescueDesk$SectorMap" "sectors" "I" ∈ wb := wb_t 62 (by decide +kernel) (by decide +kernel)
theorem kw_71 : Cond.fieldLink rn_K 9 "RescueDesk$Copier" "disk" "LRescueDesk$Disk;" ∈ wb := wb_t 71 (by decide +kernel) (by decide +kernel)
theorem kw_72 : Cond.fieldLink rn_K 15 "RescueDesk$Copier" "map" "LRescueDesk$SectorMap;" ∈ wb := wb_t 72 (by decide +kernel) (by decide +kernel)
theorem kw_73 : Cond.fieldLink rn_K 19 "RescueDesk$Copier" "phaseNow" "I" ∈ wb := wb_t 73 (by decide +kernel) (by decide +kernel)
theorem kw_74 : Cond.fieldLink rn_K 39 "RescueDesk$Copier" "position" "I" ∈ wb := wb_t 74 (by decide +kernel) (by decide +kernel)
theorem kw_75 : Cond.fieldLink rn_K 30 "RescueDesk$Copier" "leap" "I" ∈ wb := wb_t 75 (by decide +kernel) (by decide +kernel)
theorem kw_76 : Cond.fieldLink rn_K 42 "RescueDesk$Copier" "round" "I" ∈ wb := wb_t 76 (by decide +kernel) (by decide +kernel)
theorem kw_77 : Cond.fieldLink rn_K 23 "RescueDesk$Copier" "retryRounds" "I" ∈ wb := wb_t 77 (by decide +kernel) (by decide +kernel)
theorem kw_78 : Cond.fieldLink rn_K 45 "RescueDesk$Copier" "trimsLast" "Z" ∈ wb := wb_t 78 (by decide +kernel) (by decide +kernel)
theorem kw_79 : Cond.laysFinal "RescueDesk$Copier" "RescueDesk$Copier" "disk" "LRescueDesk$Disk;" ∈ wb := wb_t 79 (by decide +kernel) (by decide +kernel)
theorem kw_81 : Cond.laysFinal "RescueDesk$Copier" "RescueDesk$Copier" "map" "LRescueDesk$SectorMap;" ∈ wb := wb_t 81 (by decide +kernel) (by decide +kernel)
theorem kw_83 : Cond.lays "RescueDesk$Copier" "RescueDesk$Copier" "phaseNow" "I" ∈ wb := wb_t 83 (by decide +kernel) (by decide +kernel)
theorem kw_85 : Cond.lays "RescueDesk$Copier" "RescueDesk$Copier" "position" "I" ∈ wb := wb_t 85 (by decide +kernel) (by decide +kernel)
theorem kw_87 : Cond.lays "RescueDesk$Copier" "RescueDesk$Copier" "leap" "I" ∈ wb := wb_t 87 (by decide +kernel) (by decide +kernel)
theorem kw_89 : Cond.lays "RescueDesk$Copier" "RescueDesk$Copier" "round" "I" ∈ wb := wb_t 89 (by decide +kernel) (by decide +kernel)
theorem kw_91 : Cond.lays "RescueDesk$Copier" "RescueDesk$Copier" "retryRounds" "I" ∈ wb := wb_t 91 (by decide +kernel) (by decide +kernel)
theorem kw_93 : Cond.lays "RescueDesk$Copier" "RescueDesk$Copier" "trimsLast" "Z" ∈ wb := wb_t 93 (by decide +kernel) (by decide +kernel)
theorem kw_104 : Cond.fieldLink rn_V 11 "RescueDesk$Saves" "slots" "[[I" ∈ wb := wb_t 104 (by decide +kernel) (by decide +kernel)
theorem kw_105 : Cond.fieldLink rn_V 16 "RescueDesk$Saves" "drawn" "[I" ∈ wb := wb_t 105 (by decide +kernel) (by decide +kernel)
theorem kw_106 : Cond.fieldLink rn_V 20 "RescueDesk$Saves" "lastNumber" "I" ∈ wb := wb_t 106 (by decide +kernel) (by decide +kernel)
theorem kw_107 : Cond.laysFinal "RescueDesk$Saves" "RescueDesk$Saves" "slots" "[[I" ∈ wb := wb_t 107 (by decide +kernel) (by decide +kernel)
theorem kw_109 : Cond.laysFinal "RescueDesk$Saves" "RescueDesk$Saves" "drawn" "[I" ∈ wb := wb_t 109 (by decide +kernel) (by decide +kernel)
theorem kw_111 : Cond.lays "RescueDesk$Saves" "RescueDesk$Saves" "lastNumber" "I" ∈ wb := wb_t 111 (by decide +kernel) (by decide +kernel)
theorem kw_114 : Cond.fieldLink rn_R 10 "RescueDesk" "disk" "LRescueDesk$Disk;" ∈ wb := wb_t 114 (by decide +kernel) (by decide +kernel)
theorem kw_115 : Cond.fieldLink rn_R 19 "RescueDesk" "map" "LRescueDesk$SectorMap;" ∈ wb := wb_t 115 (by decide +kernel) (by decide +kernel)
theorem kw_116 : Cond.fieldLink rn_R 28 "RescueDesk" "copier" "LRescueDesk$Copier;" ∈ wb := wb_t 116 (by decide +kernel) (by decide +kernel)
theorem kw_117 : Cond.fieldLink rn_R 35 "RescueDesk" "saves" "LRescueDesk$Saves;" ∈ wb := wb_t 117 (by decide +kernel) (by decide +kernel)
theorem kw_118 : Cond.laysFinal "RescueDesk" "RescueDesk" "disk" "LRescueDesk$Disk;" ∈ wb := wb_t 118 (by decide +kernel) (by decide +kernel)
theorem kw_120 : Cond.laysFinal "RescueDesk" "RescueDesk" "map" "LRescueDesk$SectorMap;" ∈ wb := wb_t 120 (by decide +kernel) (by decide +kernel)
theorem kw_122 : Cond.laysFinal "RescueDesk" "RescueDesk" "copier" "LRescueDesk$Copier;" ∈ wb := wb_t 122 (by decide +kernel) (by decide +kernel)
theorem kw_124 : Cond.laysFinal "RescueDesk" "RescueDesk" "saves" "LRescueDesk$Saves;" ∈ wb := wb_t 124 (by decide +kernel) (by decide +kernel)
theorem kw_562 : Cond.fieldLink rn_M 35 "RescueDeskModel" "code" "I" ∈ wb := wb_t 562 (by decide +kernel) (by decide +kernel)
theorem kw_563 : Cond.fieldLink rn_M 38 "RescueDeskModel" "sectors" "I" ∈ wb := wb_t 563 (by decide +kernel) (by decide +kernel)
theorem kw_564 : Cond.fieldLink rn_M 7 "RescueDeskModel" "words" "[I" ∈ wb := wb_t 564 (by decide +kernel) (by decide +kernel)
theorem kw_565 : Cond.fieldLink rn_M 13 "RescueDeskModel" "failures" "[I" ∈ wb := wb_t 565 (by decide +kernel) (by decide +kernel)
theorem kw_566 : Cond.fieldLink rn_M 16 "RescueDeskModel" "reads" "[I" ∈ wb := wb_t 566 (by decide +kernel) (by decide +kernel)
theorem kw_567 : Cond.fieldLink rn_M 19 "RescueDeskModel" "target" "[I" ∈ wb := wb_t 567 (by decide +kernel) (by decide +kernel)
theorem kw_568 : Cond.fieldLink rn_M 41 "RescueDeskModel" "made" "I" ∈ wb := wb_t 568 (by decide +kernel) (by decide +kernel)
theorem kw_569 : Cond.fieldLink rn_M 44 "RescueDeskModel" "failed" "I" ∈ wb := wb_t 569 (by decide +kernel) (by decide +kernel)
theorem kw_570 : Cond.fieldLink rn_M 22 "RescueDeskModel" "phase" "I" ∈ wb := wb_t 570 (by decide +kernel) (by decide +kernel)
theorem kw_571 : Cond.fieldLink rn_M 73 "RescueDeskModel" "retries" "I" ∈ wb := wb_t 571 (by decide +kernel) (by decide +kernel)
theorem kw_572 : Cond.fieldLink rn_M 26 "RescueDeskModel" "states" "[I" ∈ wb := wb_t 572 (by decide +kernel) (by decide +kernel)
theorem kw_573 : Cond.fieldLink rn_M 60 "RescueDeskModel" "position" "I" ∈ wb := wb_t 573 (by decide +kernel) (by decide +kernel)
theorem kw_574 : Cond.fieldLink rn_M 63 "RescueDeskModel" "leap" "I" ∈ wb := wb_t 574 (by decide +kernel) (by decide +kernel)
theorem kw_575 : Cond.fieldLink rn_M 66 "RescueDeskModel" "round" "I" ∈ wb := wb_t 575 (by decide +kernel) (by decide +kernel)
theorem kw_576 : Cond.fieldLink rn_M 69 "RescueDeskModel" "backwards" "Z" ∈ wb := wb_t 576 (by decide +kernel) (by decide +kernel)
theorem kw_577 : Cond.fieldLink rn_M 54 "RescueDeskModel" "from" "I" ∈ wb := wb_t 577 (by decide +kernel) (by decide +kernel)
theorem kw_578 : Cond.fieldLink rn_M 57 "RescueDeskModel" "to" "I" ∈ wb := wb_t 578 (by decide +kernel) (by decide +kernel)
theorem kw_579 : Cond.fieldLink rn_M 47 "RescueDeskModel" "number" "I" ∈ wb := wb_t 579 (by decide +kernel) (by decide +kernel)
theorem kw_580 : Cond.fieldLink rn_M 29 "RescueDeskModel" "slots" "[I" ∈ wb := wb_t 580 (by decide +kernel) (by decide +kernel)
theorem kw_581 : Cond.fieldLink rn_M 32 "RescueDeskModel" "image" "[I" ∈ wb := wb_t 581 (by decide +kernel) (by decide +kernel)
theorem kw_582 : Cond.fieldLink rn_M 114 "RescueDeskModel" "size" "I" ∈ wb := wb_t 582 (by decide +kernel) (by decide +kernel)
theorem kw_583 : Cond.lays "RescueDeskModel" "RescueDeskModel" "code" "I" ∈ wb := wb_t 583 (by decide +kernel) (by decide +kernel)
theorem kw_585 : Cond.lays "RescueDeskModel" "RescueDeskModel" "sectors" "I" ∈ wb := wb_t 585 (by decide +kernel) (by decide +kernel)
theorem kw_587 : Cond.laysFinal "RescueDeskModel" "RescueDeskModel" "words" "[I" ∈ wb := wb_t 587 (by decide +kernel) (by decide +kernel)
theorem kw_589 : Cond.laysFinal "RescueDeskModel" "RescueDeskModel" "failures" "[I" ∈ wb := wb_t 589 (by decide +kernel) (by decide +kernel)
theorem kw_591 : Cond.laysFinal "RescueDeskModel" "RescueDeskModel" "reads" "[I" ∈ wb := wb_t 591 (by decide +kernel) (by decide +kernel)
theorem kw_593 : Cond.laysFinal "RescueDeskModel" "RescueDeskModel" "target" "[I" ∈ wb := wb_t 593 (by decide +kernel) (by decide +kernel)
theorem kw_595 : Cond.lays "RescueDeskModel" "RescueDeskModel" "made" "I" ∈ wb := wb_t 595 (by decide +kernel) (by decide +kernel)
theorem kw_597 : Cond.lays "RescueDeskModel" "RescueDeskModel" "failed" "I" ∈ wb := wb_t 597 (by decide +kernel) (by decide +kernel)
theorem kw_599 : Cond.lays "RescueDeskModel" "RescueDeskModel" "phase" "I" ∈ wb := wb_t 599 (by decide +kernel) (by decide +kernel)
theorem kw_601 : Cond.lays "RescueDeskModel" "RescueDeskModel" "retries" "I" ∈ wb := wb_t 601 (by decide +kernel) (by decide +kernel)
theorem kw_603 : Cond.laysFinal "RescueDeskModel" "RescueDeskModel" "states" "[I" ∈ wb := wb_t 603 (by decide +kernel) (by decide +kernel)
theorem kw_605 : Cond.lays "RescueDeskModel" "RescueDeskModel" "position" "I" ∈ wb := wb_t 605 (by decide +kernel) (by decide +kernel)
theorem kw_607 : Cond.lays "RescueDeskModel" "RescueDeskModel" "leap" "I" ∈ wb := wb_t 607 (by decide +kernel) (by decide +kernel)
theorem kw_609 : Cond.lays "RescueDeskModel" "RescueDeskModel" "round" "I" ∈ wb := wb_t 609 (by decide +kernel) (by decide +kernel)
theorem kw_611 : Cond.lays "RescueDeskModel" "RescueDeskModel" "backwards" "Z" ∈ wb := wb_t 611 (by decide +kernel) (by decide +kernel)
theorem kw_613 : Cond.lays "RescueDeskModel" "RescueDeskModel" "from" "I" ∈ wb := wb_t 613 (by decide +kernel) (by decide +kernel)
theorem kw_615 : Cond.lays "RescueDeskModel" "RescueDeskModel" "to" "I" ∈ wb := wb_t 615 (by decide +kernel) (by decide +kernel)
theorem kw_617 : Cond.lays "RescueDeskModel" "RescueDeskModel" "number" "I" ∈ wb := wb_t 617 (by decide +kernel) (by decide +kernel)
theorem kw_619 : Cond.laysFinal "RescueDeskModel" "RescueDeskModel" "slots" "[I" ∈ wb := wb_t 619 (by decide +kernel) (by decide +kernel)
theorem kw_621 : Cond.laysFinal "RescueDeskModel" "RescueDeskModel" "image" "[I" ∈ wb := wb_t 621 (by decide +kernel) (by decide +kernel)
theorem kw_623 : Cond.lays "RescueDeskModel" "RescueDeskModel" "size" "I" ∈ wb := wb_t 623 (by decide +kernel) (by decide +kernel)
section JW
variable {p : Program} {l : Launch} {e : Env} {R : Room} {s : State} {m : MethodId} {args : Array Value} {below : List Frame} {meth : Method} {c : Code} {cells slots : Nat} {Q : State → Prop}
variable {cc : ByteArray} {pc : Nat} {st : List Value} {D : va_G} {A : Nat → Prop} {nL : Nat} {lv : List (Nat × Value)} {ad : Nat → Nat} {cI cA cL : ClassId} {σ : jS} {F : va_W}
theorem in_K : ∀ w ∈ u_ws rn_K tf_K 8, w ∈ wb := by
  intro w hw
  obtain ⟨j, hj, rfl⟩ := List.mem_map.mp hw
  have hj := List.mem_range.mp hj
  match j, hj with
  | 0, _ => exact kw_79
  | 1, _ => exact kw_81
  | 2, _ => exact kw_83
  | 3, _ => exact kw_85
  | 4, _ => exact kw_87
  | 5, _ => exact kw_89
  | 6, _ => exact kw_91
  | 7, _ => exact kw_93
  | j + 8, hj => omega
theorem fg_K_disk (B : jv_B p c cc) (hts : ∀ w ∈ wb, w.before args s = true) (hown : s.vm.findClass rn_K = some m.cls) (hK : va_K D jClasses (jTy cI cA cL) s) (hd : decode cc pc = .ok (.getfield 9, 3))
    (kk : jv_V p l e R s m args below meth c D jClasses A nL cells slots Q (cw ad cI cA σ F) lv (pc + 3) (.ref (ad 1) :: st)) : jv_V p l e R s m args below meth c D jClasses A nL cells slots Q (cw ad cI cA σ F) lv pc (.ref (ad 8) :: st) := jv_get B hts in_K hown hK 8 rfl rfl 0 (by decide) (hts _ kw_71) (fun _ h => h) rfl hd kk
theorem fg_K_map (B : jv_B p c cc) (hts : ∀ w ∈ wb, w.before args s = true) (hown : s.vm.findClass rn_K = some m.cls) (hK : va_K D jClasses (jTy cI cA cL) s) (hd : decode cc pc = .ok (.getfield 15, 3))
    (kk : jv_V p l e R s m args below meth c D jClasses A nL cells slots Q (cw ad cI cA σ F) lv (pc + 3) (.ref (ad 6) :: st)) : jv_V p l e R s m args below meth c D jClasses A nL cells slots Q (cw ad cI cA σ F) lv pc (.ref (ad 8) :: st) := jv_get B hts in_K hown hK 8 rfl rfl 1 (by decide) (hts _ kw_72) (fun _ h => h) rfl hd kk
theorem fg_K_phaseNow (B : jv_B p c cc) (hts : ∀ w ∈ wb, w.before args s = true) (hown : s.vm.findClass rn_K = some m.cls) (hK : va_K D jClasses (jTy cI cA cL) s) (hd : decode cc pc = .ok (.getfield 19, 3))
    (kk : jv_V p l e R s m args below meth c D jClasses A nL cells slots Q (cw ad cI cA σ F) lv (pc + 3) (.int (σ 8 2) :: st)) : jv_V p l e R s m args below meth c D jClasses A nL cells slots Q (cw ad cI cA σ F) lv pc (.ref (ad 8) :: st) := jv_get B hts in_K hown hK 8 rfl rfl 2 (by decide) (hts _ kw_73) (fun _ h => h) rfl hd kk
theorem fs_K_phaseNow (B : jv_B p c cc) (hts : ∀ w ∈ wb, w.before args s = true) (hown : s.vm.findClass rn_K = some m.cls) (hK : va_K D jClasses (jTy cI cA cL) s) {v : Int32} (hd : decode cc pc = .ok (.putfield 19, 3))
    (kk : jv_V p l e R s m args below meth c D jClasses A nL cells slots Q (cw ad cI cA (up2 σ 8 2 v) F) lv (pc + 3) st) : jv_V p l e R s m args below meth c D jClasses A nL cells slots Q (cw ad cI cA σ F) lv pc (.int v :: .ref (ad 8) :: st) := jv_put (ty := .int) (ci := 0) (fs := [.ref (ad 1), .ref (ad 6), .int (σ 8 2), .int (σ 8 3), .int (σ 8 4), .int (σ 8 5), .int (σ 8 6), .int (σ 8 7)]) (ws' := cw ad cI cA (up2 σ 8 2 v) F) B hts in_K ty_K tyok_K nm_K hown hK 8 rfl rfl 2 (by decide) (hts _ kw_73) (fun _ h => h) rfl (by decide +kernel) rfl rfl (Nat.le_of_ble_eq_true rfl) hd rfl kk
theorem fg_K_position (B : jv_B p c cc) (hts : ∀ w ∈ wb, w.before args s = true) (hown : s.vm.findClass rn_K = some m.cls) (hK : va_K D jClasses (jTy cI cA cL) s) (hd : decode cc pc = .ok (.getfield 39, 3))
    (kk : jv_V p l e R s m args below meth c D jClasses A nL cells slots Q (cw ad cI cA σ F) lv (pc + 3) (.int (σ 8 3) :: st)) : jv_V p l e R s m args below meth c D jClasses A nL cells slots Q (cw ad cI cA σ F) lv pc (.ref (ad 8) :: st) := jv_get B hts in_K hown hK 8 rfl rfl 3 (by decide) (hts _ kw_74) (fun _ h => h) rfl hd kk
theorem fs_K_position (B : jv_B p c cc) (hts : ∀ w ∈ wb, w.before args s = true) (hown : s.vm.findClass rn_K = some m.cls) (hK : va_K D jClasses (jTy cI cA cL) s) {v : Int32} (hd : decode cc pc = .ok (.putfield 39, 3))
    (kk : jv_V p l e R s m args below meth c D jClasses A nL cells slots Q (cw ad cI cA (up2 σ 8 3 v) F) lv (pc + 3) st) : jv_V p l e R s m args below meth c D jClasses A nL cells slots Q (cw ad cI cA σ F) lv pc (.int v :: .ref (ad 8) :: st) := jv_put (ty := .int) (ci := 0) (fs := [.ref (ad 1), .ref (ad 6), .int (σ 8 2), .int (σ 8 3), .int (σ 8 4), .int (σ 8 5), .int (σ 8 6), .int (σ 8 7)]) (ws' := cw ad cI cA (up2 σ 8 3 v) F) B hts in_K ty_K tyok_K nm_K hown hK 8 rfl rfl 3 (by decide) (hts _ kw_74) (fun _ h => h) rfl (by decide +kernel) rfl rfl (Nat.le_of_ble_eq_true rfl) hd rfl kk
theorem fg_K_leap (B : jv_B p c cc) (hts : ∀ w ∈ wb, w.before args s = true) (hown : s.vm.findClass rn_K = some m.cls) (hK : va_K D jClasses (jTy cI cA cL) s) (hd : decode cc pc = .ok (.getfield 30, 3))
    (kk : jv_V p l e R s m args below meth c D jClasses A nL cells slots Q (cw ad cI cA σ F) lv (pc + 3) (.int (σ 8 4) :: st)) : jv_V p l e R s m args below meth c D jClasses A nL cells slots Q (cw ad cI cA σ F) lv pc (.ref (ad 8) :: st) := jv_get B hts in_K hown hK 8 rfl rfl 4 (by decide) (hts _ kw_75) (fun _ h => h) rfl hd kk
theorem fs_K_leap (B : jv_B p c cc) (hts : ∀ w ∈ wb, w.before args s = true) (hown : s.vm.findClass rn_K = some m.cls) (hK : va_K D jClasses (jTy cI cA cL) s) {v : Int32} (hd : decode cc pc = .ok (.putfield 30, 3))
    (kk : jv_V p l e R s m args below meth c D jClasses A nL cells slots Q (cw ad cI cA (up2 σ 8 4 v) F) lv (pc + 3) st) : jv_V p l e R s m args below meth c D jClasses A nL cells slots Q (cw ad cI cA σ F) lv pc (.int v :: .ref (ad 8) :: st) := jv_put (ty := .int) (ci := 0) (fs := [.ref (ad 1), .ref (ad 6), .int (σ 8 2), .int (σ 8 3), .int (σ 8 4), .int (σ 8 5), .int (σ 8 6), .int (σ 8 7)]) (ws' := cw ad cI cA (up2 σ 8 4 v) F) B hts in_K ty_K tyok_K nm_K hown hK 8 rfl rfl 4 (by decide) (hts _ kw_75) (fun _ h => h) rfl (by decide +kernel) rfl rfl (Nat.le_of_ble_eq_true rfl) hd rfl kk
theorem fg_K_round (B : jv_B p c cc) (hts : ∀ w ∈ wb, w.before args s = true) (hown : s.vm.findClass rn_K = some m.cls) (hK : va_K D jClasses (jTy cI cA cL) s) (hd : decode cc pc = .ok (.getfield 42, 3))
    (kk : jv_V p l e R s m args below meth c D jClasses A nL cells slots Q (cw ad cI cA σ F) lv (pc + 3) (.int (σ 8 5) :: st)) : jv_V p l e R s m args below meth c D jClasses A nL cells slots Q (cw ad cI cA σ F) lv pc (.ref (ad 8) :: st) := jv_get B hts in_K hown hK 8 rfl rfl 5 (by decide) (hts _ kw_76) (fun _ h => h) rfl hd kk
theorem fs_K_round (B : jv_B p c cc) (hts : ∀ w ∈ wb, w.before args s = true) (hown : s.vm.findClass rn_K = some m.cls) (hK : va_K D jClasses (jTy cI cA cL) s) {v : Int32} (hd : decode cc pc = .ok (.putfield 42, 3))
    (kk : jv_V p l e R s m args below meth c D jClasses A nL cells slots Q (cw ad cI cA (up2 σ 8 5 v) F) lv (pc + 3) st) : jv_V p l e R s m args below meth c D jClasses A nL cells slots Q (cw ad cI cA σ F) lv pc (.int v :: .ref (ad 8) :: st) := jv_put (ty := .int) (ci := 0) (fs := [.ref (ad 1), .ref (ad 6), .int (σ 8 2), .int (σ 8 3), .int (σ 8 4), .int (σ 8 5), .int (σ 8 6), .int (σ 8 7)]) (ws' := cw ad cI cA (up2 σ 8 5 v) F) B hts in_K ty_K tyok_K nm_K hown hK 8 rfl rfl 5 (by decide) (hts _ kw_76) (fun _ h => h) rfl (by decide +kernel) rfl rfl (Nat.le_of_ble_eq_true rfl) hd rfl kk
theorem fg_K_retryRounds (B : jv_B p c cc) (hts : ∀ w ∈ wb, w.before args s = true) (hown : s.vm.findClass rn_K = some m.cls) (hK : va_K D jClasses (jTy cI cA cL) s) (hd : decode cc pc = .ok (.getfield 23, 3))
    (kk : jv_V p l e R s m args below meth c D jClasses A nL cells slots Q (cw ad cI cA σ F) lv (pc + 3) (.int (σ 8 6) :: st)) : jv_V p l e R s m args below meth c D jClasses A nL cells slots Q (cw ad cI cA σ F) lv pc (.ref (ad 8) :: st) := jv_get B hts in_K hown hK 8 rfl rfl 6 (by decide) (hts _ kw_77) (fun _ h => h) rfl hd kk
theorem fs_K_retryRounds (B : jv_B p c cc) (hts : ∀ w ∈ wb, w.before args s = true) (hown : s.vm.findClass rn_K = some m.cls) (hK : va_K D jClasses (jTy cI cA cL) s) {v : Int32} (hd : decode cc pc = .ok (.putfield 23, 3))
    (kk : jv_V p l e R s m args below meth c D jClasses A nL cells slots Q (cw ad cI cA (up2 σ 8 6 v) F) lv (pc + 3) st) : jv_V p l e R s m args below meth c D jClasses A nL cells slots Q (cw ad cI cA σ F) lv pc (.int v :: .ref (ad 8) :: st) := jv_put (ty := .int) (ci := 0) (fs := [.ref (ad 1), .ref (ad 6), .int (σ 8 2), .int (σ 8 3), .int (σ 8 4), .int (σ 8 5), .int (σ 8 6), .int (σ 8 7)]) (ws' := cw ad cI cA (up2 σ 8 6 v) F) B hts in_K ty_K tyok_K nm_K hown hK 8 rfl rfl 6 (by decide) (hts _ kw_77) (fun _ h => h) rfl (by decide +kernel) rfl rfl (Nat.le_of_ble_eq_true rfl) hd rfl kk
theorem fg_K_trimsLast (B : jv_B p c cc) (hts : ∀ w ∈ wb, w.before args s = true) (hown : s.vm.findClass rn_K = some m.cls) (hK : va_K D jClasses (jTy cI cA cL) s) (hd : decode cc pc = .ok (.getfield 45, 3))
    (kk : jv_V p l e R s m args below meth c D jClasses A nL cells slots Q (cw ad cI cA σ F) lv (pc + 3) (.int (σ 8 7) :: st)) : jv_V p l e R s m args below meth c D jClasses A nL cells slots Q (cw ad cI cA σ F) lv pc (.ref (ad 8) :: st) := jv_get B hts in_K hown hK 8 rfl rfl 7 (by decide) (hts _ kw_78) (fun _ h => h) rfl hd kk
theorem fs_K_trimsLast (B : jv_B p c cc) (hts : ∀ w ∈ wb, w.before args s = true) (hown : s.vm.findClass rn_K = some m.cls) (hK : va_K D jClasses (jTy cI cA cL) s) {v : Int32} (hz : v = 0 ∨ v = 1) (hd : decode cc pc = .ok (.putfield 45, 3))
    (kk : jv_V p l e R s m args below meth c D jClasses A nL cells slots Q (cw ad cI cA (up2 σ 8 7 v) F) lv (pc + 3) st) : jv_V p l e R s m args below meth c D jClasses A nL cells slots Q (cw ad cI cA σ F) lv pc (.int v :: .ref (ad 8) :: st) := jv_put (ty := .boolean) (ci := 0) (fs := [.ref (ad 1), .ref (ad 6), .int (σ 8 2), .int (σ 8 3), .int (σ 8 4), .int (σ 8 5), .int (σ 8 6), .int (σ 8 7)]) (ws' := cw ad cI cA (up2 σ 8 7 v) F) B hts in_K ty_K tyok_K nm_K hown hK 8 rfl rfl 7 (by decide) (hts _ kw_78) (fun _ h => h) rfl (by decide +kernel) (by rcases hz with rfl | rfl <;> rfl) (by rcases hz with rfl | rfl <;> rfl) (Nat.le_of_ble_eq_true rfl) hd rfl kk
theorem in_D : ∀ w ∈ u_ws rn_D tf_D 7, w ∈ wb := by
  intro w hw
  obtain ⟨j, hj, rfl⟩ := List.mem_map.mp hw
  have hj := List.mem_range.mp hj
  match j, hj with
  | 0, _ => exact kw_36
  | 1, _ => exact kw_38
  | 2, _ => exact kw_40
  | 3, _ => exact kw_42
  | 4, _ => exact kw_44
  | 5, _ => exact kw_46
  | 6, _ => exact kw_48
  | j + 7, hj => omega
theorem fg_D_words (B : jv_B p c cc) (hts : ∀ w ∈ wb, w.before args s = true) (hown : s.vm.findClass rn_D = some m.cls) (hK : va_K D jClasses (jTy cI cA cL) s) (hd : decode cc pc = .ok (.getfield 9, 3))
    (kk : jv_V p l e R s m args below meth c D jClasses A nL cells slots Q (cw ad cI cA σ F) lv (pc + 3) (.ref (ad 2) :: st)) : jv_V p l e R s m args below meth c D jClasses A nL cells slots Q (cw ad cI cA σ F) lv pc (.ref (ad 1) :: st) := jv_get B hts in_D hown hK 1 rfl rfl 0 (by decide) (hts _ kw_29) (fun _ h => h) rfl hd kk
theorem fg_D_failuresLeft (B : jv_B p c cc) (hts : ∀ w ∈ wb, w.before args s = true) (hown : s.vm.findClass rn_D = some m.cls) (hK : va_K D jClasses (jTy cI cA cL) s) (hd : decode cc pc = .ok (.getfield 15, 3))
    (kk : jv_V p l e R s m args below meth c D jClasses A nL cells slots Q (cw ad cI cA σ F) lv (pc + 3) (.ref (ad 3) :: st)) : jv_V p l e R s m args below meth c D jClasses A nL cells slots Q (cw ad cI cA σ F) lv pc (.ref (ad 1) :: st) := jv_get B hts in_D hown hK 1 rfl rfl 1 (by decide) (hts _ kw_30) (fun _ h => h) rfl hd kk
theorem fg_D_readCounts (B : jv_B p c cc) (hts : ∀ w ∈ wb, w.before args s = true) (hown : s.vm.findClass rn_D = some m.cls) (hK : va_K D jClasses (jTy cI cA cL) s) (hd : decode cc pc = .ok (.getfield 18, 3))
    (kk : jv_V p l e R s m args below meth c D jClasses A nL cells slots Q (cw ad cI cA σ F) lv (pc + 3) (.ref (ad 4) :: st)) : jv_V p l e R s m args below meth c D jClasses A nL cells slots Q (cw ad cI cA σ F) lv pc (.ref (ad 1) :: st) := jv_get B hts in_D hown hK 1 rfl rfl 2 (by decide) (hts _ kw_31) (fun _ h => h) rfl hd kk
theorem fg_D_target (B : jv_B p c cc) (hts : ∀ w ∈ wb, w.before args s = true) (hown : s.vm.findClass rn_D = some m.cls) (hK : va_K D jClasses (jTy cI cA cL) s) (hd : decode cc pc = .ok (.getfield 21, 3))
    (kk : jv_V p l e R s m args below meth c D jClasses A nL cells slots Q (cw ad cI cA σ F) lv (pc + 3) (.ref (ad 5) :: st)) : jv_V p l e R s m args below meth c D jClasses A nL cells slots Q (cw ad cI cA σ F) lv pc (.ref (ad 1) :: st) := jv_get B hts in_D hown hK 1 rfl rfl 3 (by decide) (hts _ kw_32) (fun _ h => h) rfl hd kk
theorem fg_D_sectors (B : jv_B p c cc) (hts : ∀ w ∈ wb, w.before args s = true) (hown : s.vm.findClass rn_D = some m.cls) (hK : va_K D jClasses (jTy cI cA cL) s) (hd : decode cc pc = .ok (.getfield 24, 3))
    (kk : jv_V p l e R s m args below meth c D jClasses A nL cells slots Q (cw ad cI cA σ F) lv (pc + 3) (.int (σ 1 4) :: st)) : jv_V p l e R s m args below meth c D jClasses A nL cells slots Q (cw ad cI cA σ F) lv pc (.ref (ad 1) :: st) := jv_get B hts in_D hown hK 1 rfl rfl 4 (by decide) (hts _ kw_33) (fun _ h => h) rfl hd kk
theorem fs_D_sectors (B : jv_B p c cc) (hts : ∀ w ∈ wb, w.before args s = true) (hown : s.vm.findClass rn_D = some m.cls) (hK : va_K D jClasses (jTy cI cA cL) s) {v : Int32} (hd : decode cc pc = .ok (.putfield 24, 3))
    (kk : jv_V p l e R s m args below meth c D jClasses A nL cells slots Q (cw ad cI cA (up2 σ 1 4 v) F) lv (pc + 3) st) : jv_V p l e R s m args below meth c D jClasses A nL cells slots Q (cw ad cI cA σ F) lv pc (.int v :: .ref (ad 1) :: st) := jv_put (ty := .int) (ci := 1) (fs := [.ref (ad 2), .ref (ad 3), .ref (ad 4), .ref (ad 5), .int (σ 1 4), .int (σ 1 5), .int (σ 1 6)]) (ws' := cw ad cI cA (up2 σ 1 4 v) F) B hts in_D ty_D tyok_D nm_D hown hK 1 rfl rfl 4 (by decide) (hts _ kw_33) (fun _ h => h) rfl (by decide +kernel) rfl rfl (Nat.le_of_ble_eq_true rfl) hd rfl kk
theorem fg_D_stretches (B : jv_B p c cc) (hts : ∀ w ∈ wb, w.before args s = true) (hown : s.vm.findClass rn_D = some m.cls) (hK : va_K D jClasses (jTy cI cA cL) s) (hd : decode cc pc = .ok (.getfield 28, 3))
    (kk : jv_V p l e R s m args below meth c D jClasses A nL cells slots Q (cw ad cI cA σ F) lv (pc + 3) (.int (σ 1 5) :: st)) : jv_V p l e R s m args below meth c D jClasses A nL cells slots Q (cw ad cI cA σ F) lv pc (.ref (ad 1) :: st) := jv_get B hts in_D hown hK 1 rfl rfl 5 (by decide) (hts _ kw_34) (fun _ h => h) rfl hd kk
theorem fs_D_stretches (B : jv_B p c cc) (hts : ∀ w ∈ wb, w.before args s = true) (hown : s.vm.findClass rn_D = some m.cls) (hK : va_K D jClasses (jTy cI cA cL) s) {v : Int32} (hd : decode cc pc = .ok (.putfield 28, 3))
    (kk : jv_V p l e R s m args below meth c D jClasses A nL cells slots Q (cw ad cI cA (up2 σ 1 5 v) F) lv (pc + 3) st) : jv_V p l e R s m args below meth c D jClasses A nL cells slots Q (cw ad cI cA σ F) lv pc (.int v :: .ref (ad 1) :: st) := jv_put (ty := .int) (ci := 1) (fs := [.ref (ad 2), .ref (ad 3), .ref (ad 4), .ref (ad 5), .int (σ 1 4), .int (σ 1 5), .int (σ 1 6)]) (ws' := cw ad cI cA (up2 σ 1 5 v) F) B hts in_D ty_D tyok_D nm_D hown hK 1 rfl rfl 5 (by decide) (hts _ kw_34) (fun _ h => h) rfl (by decide +kernel) rfl rfl (Nat.le_of_ble_eq_true rfl) hd rfl kk
theorem fg_D_failedStretches (B : jv_B p c cc) (hts : ∀ w ∈ wb, w.before args s = true) (hown : s.vm.findClass rn_D = some m.cls) (hK : va_K D jClasses (jTy cI cA cL) s) (hd : decode cc pc = .ok (.getfield 31, 3))
    (kk : jv_V p l e R s m args below meth c D jClasses A nL cells slots Q (cw ad cI cA σ F) lv (pc + 3) (.int (σ 1 6) :: st)) : jv_V p l e R s m args below meth c D jClasses A nL cells slots Q (cw ad cI cA σ F) lv pc (.ref (ad 1) :: st) := jv_get B hts in_D hown hK 1 rfl rfl 6 (by decide) (hts _ kw_35) (fun _ h => h) rfl hd kk
theorem fs_D_failedStretches (B : jv_B p c cc) (hts : ∀ w ∈ wb, w.before args s = true) (hown : s.vm.findClass rn_D = some m.cls) (hK : va_K D jClasses (jTy cI cA cL) s) {v : Int32} (hd : decode cc pc = .ok (.putfield 31, 3))
    (kk : jv_V p l e R s m args below meth c D jClasses A nL cells slots Q (cw ad cI cA (up2 σ 1 6 v) F) lv (pc + 3) st) : jv_V p l e R s m args below meth c D jClasses A nL cells slots Q (cw ad cI cA σ F) lv pc (.int v :: .ref (ad 1) :: st) := jv_put (ty := .int) (ci := 1) (fs := [.ref (ad 2), .ref (ad 3), .ref (ad 4), .ref (ad 5), .int (σ 1 4), .int (σ 1 5), .int (σ 1 6)]) (ws' := cw ad cI cA (up2 σ 1 6 v) F) B hts in_D ty_D tyok_D nm_D hown hK 1 rfl rfl 6 (by decide) (hts _ kw_35) (fun _ h => h) rfl (by decide +kernel) rfl rfl (Nat.le_of_ble_eq_true rfl) hd rfl kk
theorem in_V : ∀ w ∈ u_ws rn_V tf_V 3, w ∈ wb := by
  intro w hw
  obtain ⟨j, hj, rfl⟩ := List.mem_map.mp hw
  have hj := List.mem_range.mp hj
  match j, hj with
  | 0, _ => exact kw_107
  | 1, _ => exact kw_109
  | 2, _ => exact kw_111
  | j + 3, hj => omega
theorem fg_V_slots (B : jv_B p c cc) (hts : ∀ w ∈ wb, w.before args s = true) (hown : s.vm.findClass rn_V = some m.cls) (hK : va_K D jClasses (jTy cI cA cL) s) (hd : decode cc pc = .ok (.getfield 11, 3))
    (kk : jv_V p l e R s m args below meth c D jClasses A nL cells slots Q (cw ad cI cA σ F) lv (pc + 3) (.ref (ad 10) :: st)) : jv_V p l e R s m args below meth c D jClasses A nL cells slots Q (cw ad cI cA σ F) lv pc (.ref (ad 9) :: st) := jv_get B hts in_V hown hK 9 rfl rfl 0 (by decide) (hts _ kw_104) (fun _ h => h) rfl hd kk
theorem fg_V_drawn (B : jv_B p c cc) (hts : ∀ w ∈ wb, w.before args s = true) (hown : s.vm.findClass rn_V = some m.cls) (hK : va_K D jClasses (jTy cI cA cL) s) (hd : decode cc pc = .ok (.getfield 16, 3))
    (kk : jv_V p l e R s m args below meth c D jClasses A nL cells slots Q (cw ad cI cA σ F) lv (pc + 3) (.ref (ad 13) :: st)) : jv_V p l e R s m args below meth c D jClasses A nL cells slots Q (cw ad cI cA σ F) lv pc (.ref (ad 9) :: st) := jv_get B hts in_V hown hK 9 rfl rfl 1 (by decide) (hts _ kw_105) (fun _ h => h) rfl hd kk
theorem fg_V_lastNumber (B : jv_B p c cc) (hts : ∀ w ∈ wb, w.before args s = true) (hown : s.vm.findClass rn_V = some m.cls) (hK : va_K D jClasses (jTy cI cA cL) s) (hd : decode cc pc = .ok (.getfield 20, 3))
    (kk : jv_V p l e R s m args below meth c D jClasses A nL cells slots Q (cw ad cI cA σ F) lv (pc + 3) (.int (σ 9 2) :: st)) : jv_V p l e R s m args below meth c D jClasses A nL cells slots Q (cw ad cI cA σ F) lv pc (.ref (ad 9) :: st) := jv_get B hts in_V hown hK 9 rfl rfl 2 (by decide) (hts _ kw_106) (fun _ h => h) rfl hd kk
theorem fs_V_lastNumber (B : jv_B p c cc) (hts : ∀ w ∈ wb, w.before args s = true) (hown : s.vm.findClass rn_V = some m.cls) (hK : va_K D jClasses (jTy cI cA cL) s) {v : Int32} (hd : decode cc pc = .ok (.putfield 20, 3))
    (kk : jv_V p l e R s m args below meth c D jClasses A nL cells slots Q (cw ad cI cA (up2 σ 9 2 v) F) lv (pc + 3) st) : jv_V p l e R s m args below meth c D jClasses A nL cells slots Q (cw ad cI cA σ F) lv pc (.int v :: .ref (ad 9) :: st) := jv_put (ty := .int) (ci := 2) (fs := [.ref (ad 10), .ref (ad 13), .int (σ 9 2)]) (ws' := cw ad cI cA (up2 σ 9 2 v) F) B hts in_V ty_V tyok_V nm_V hown hK 9 rfl rfl 2 (by decide) (hts _ kw_106) (fun _ h => h) rfl (by decide +kernel) rfl rfl (Nat.le_of_ble_eq_true rfl) hd rfl kk
theorem in_S : ∀ w ∈ u_ws rn_S tf_S 2, w ∈ wb := by
  intro w hw
  obtain ⟨j, hj, rfl⟩ := List.mem_map.mp hw
  have hj := List.mem_range.mp hj
  match j, hj with
  | 0, _ => exact kw_60
  | 1, _ => exact kw_62
  | j + 2, hj => omega
theorem fg_S_states (B : jv_B p c cc) (hts : ∀ w ∈ wb, w.before args s = true) (hown : s.vm.findClass rn_S = some m.cls) (hK : va_K D jClasses (jTy cI cA cL) s) (hd : decode cc pc = .ok (.getfield 9, 3))
    (kk : jv_V p l e R s m args below meth c D jClasses A nL cells slots Q (cw ad cI cA σ F) lv (pc + 3) (.ref (ad 7) :: st)) : jv_V p l e R s m args below meth c D jClasses A nL cells slots Q (cw ad cI cA σ F) lv pc (.ref (ad 6) :: st) := jv_get B hts in_S hown hK 6 rfl rfl 0 (by decide) (hts _ kw_58) (fun _ h => h) rfl hd kk
theorem fg_S_sectors (B : jv_B p c cc) (hts : ∀ w ∈ wb, w.before args s = true) (hown : s.vm.findClass rn_S = some m.cls) (hK : va_K D jClasses (jTy cI cA cL) s) (hd : decode cc pc = .ok (.getfield 24, 3))
    (kk : jv_V p l e R s m args below meth c D jClasses A nL cells slots Q (cw ad cI cA σ F) lv (pc + 3) (.int (σ 6 1) :: st)) : jv_V p l e R s m args below meth c D jClasses A nL cells slots Q (cw ad cI cA σ F) lv pc (.ref (ad 6) :: st) := jv_get B hts in_S hown hK 6 rfl rfl 1 (by decide) (hts _ kw_59) (fun _ h => h) rfl hd kk
theorem fs_S_sectors (B : jv_B p c cc) (hts : ∀ w ∈ wb, w.before args s = true) (hown : s.vm.findClass rn_S = some m.cls) (hK : va_K D jClasses (jTy cI cA cL) s) {v : Int32} (hd : decode cc pc = .ok (.putfield 24, 3))
    (kk : jv_V p l e R s m args below meth c D jClasses A nL cells slots Q (cw ad cI cA (up2 σ 6 1 v) F) lv (pc + 3) st) : jv_V p l e R s m args below meth c D jClasses A nL cells slots Q (cw ad cI cA σ F) lv pc (.int v :: .ref (ad 6) :: st) := jv_put (ty := .int) (ci := 3) (fs := [.ref (ad 7), .int (σ 6 1)]) (ws' := cw ad cI cA (up2 σ 6 1 v) F) B hts in_S ty_S tyok_S nm_S hown hK 6 rfl rfl 1 (by decide) (hts _ kw_59) (fun _ h => h) rfl (by decide +kernel) rfl rfl (Nat.le_of_ble_eq_true rfl) hd rfl kk
theorem in_R : ∀ w ∈ u_ws rn_R tf_R 4, w ∈ wb := by
  intro w hw
  obtain ⟨j, hj, rfl⟩ := List.mem_map.mp hw
  have hj := List.mem_range.mp hj
  match j, hj with
  | 0, _ => exact kw_118
  | 1, _ => exact kw_120
  | 2, _ => exact kw_122
  | 3, _ => exact kw_124
  | j + 4, hj => omega
theorem fg_R_disk (B : jv_B p c cc) (hts : ∀ w ∈ wb, w.before args s = true) (hown : s.vm.findClass rn_R = some m.cls) (hK : va_K D jClasses (jTy cI cA cL) s) (hd : decode cc pc = .ok (.getfield 10, 3))
    (kk : jv_V p l e R s m args below meth c D jClasses A nL cells slots Q (cw ad cI cA σ F) lv (pc + 3) (.ref (ad 1) :: st)) : jv_V p l e R s m args below meth c D jClasses A nL cells slots Q (cw ad cI cA σ F) lv pc (.ref (ad 0) :: st) := jv_get B hts in_R hown hK 0 rfl rfl 0 (by decide) (hts _ kw_114) (fun _ h => h) rfl hd kk
theorem fg_R_map (B : jv_B p c cc) (hts : ∀ w ∈ wb, w.before args s = true) (hown : s.vm.findClass rn_R = some m.cls) (hK : va_K D jClasses (jTy cI cA cL) s) (hd : decode cc pc = .ok (.getfield 19, 3))
    (kk : jv_V p l e R s m args below meth c D jClasses A nL cells slots Q (cw ad cI cA σ F) lv (pc + 3) (.ref (ad 6) :: st)) : jv_V p l e R s m args below meth c D jClasses A nL cells slots Q (cw ad cI cA σ F) lv pc (.ref (ad 0) :: st) := jv_get B hts in_R hown hK 0 rfl rfl 1 (by decide) (hts _ kw_115) (fun _ h => h) rfl hd kk
theorem fg_R_copier (B : jv_B p c cc) (hts : ∀ w ∈ wb, w.before args s = true) (hown : s.vm.findClass rn_R = some m.cls) (hK : va_K D jClasses (jTy cI cA cL) s) (hd : decode cc pc = .ok (.getfield 28, 3))
    (kk : jv_V p l e R s m args below meth c D jClasses A nL cells slots Q (cw ad cI cA σ F) lv (pc + 3) (.ref (ad 8) :: st)) : jv_V p l e R s m args below meth c D jClasses A nL cells slots Q (cw ad cI cA σ F) lv pc (.ref (ad 0) :: st) := jv_get B hts in_R hown hK 0 rfl rfl 2 (by decide) (hts _ kw_116) (fun _ h => h) rfl hd kk
theorem fg_R_saves (B : jv_B p c cc) (hts : ∀ w ∈ wb, w.before args s = true) (hown : s.vm.findClass rn_R = some m.cls) (hK : va_K D jClasses (jTy cI cA cL) s) (hd : decode cc pc = .ok (.getfield 35, 3))
    (kk : jv_V p l e R s m args below meth c D jClasses A nL cells slots Q (cw ad cI cA σ F) lv (pc + 3) (.ref (ad 9) :: st)) : jv_V p l e R s m args below meth c D jClasses A nL cells slots Q (cw ad cI cA σ F) lv pc (.ref (ad 0) :: st) := jv_get B hts in_R hown hK 0 rfl rfl 3 (by decide) (hts _ kw_117) (fun _ h => h) rfl hd kk
theorem in_M : ∀ w ∈ u_ws rn_M tf_M 21, w ∈ wb := by
  intro w hw
  obtain ⟨j, hj, rfl⟩ := List.mem_map.mp hw
  have hj := List.mem_range.mp hj
  match j, hj with
  | 0, _ => exact kw_583
  | 1, _ => exact kw_585
  | 2, _ => exact kw_587
  | 3, _ => exact kw_589
  | 4, _ => exact kw_591
  | 5, _ => exact kw_593
  | 6, _ => exact kw_595
  | 7, _ => exact kw_597
  | 8, _ => exact kw_599
  | 9, _ => exact kw_601
  | 10, _ => exact kw_603
  | 11, _ => exact kw_605
  | 12, _ => exact kw_607
  | 13, _ => exact kw_609
  | 14, _ => exact kw_611
  | 15, _ => exact kw_613
  | 16, _ => exact kw_615
  | 17, _ => exact kw_617
  | 18, _ => exact kw_619
  | 19, _ => exact kw_621
  | 20, _ => exact kw_623
  | j + 21, hj => omega
theorem fg_M_code (B : jv_B p c cc) (hts : ∀ w ∈ wb, w.before args s = true) (hown : s.vm.findClass rn_M = some m.cls) (hK : va_K D jClasses (jTy cI cA cL) s) (hd : decode cc pc = .ok (.getfield 35, 3))
    (kk : jv_V p l e R s m args below meth c D jClasses A nL cells slots Q (mw ad cI cA σ F) lv (pc + 3) (.int (σ 0 0) :: st)) : jv_V p l e R s m args below meth c D jClasses A nL cells slots Q (mw ad cI cA σ F) lv pc (.ref (ad 0) :: st) := jv_get B hts in_M hown hK 0 rfl rfl 0 (by decide) (hts _ kw_562) (fun _ h => h) rfl hd kk
theorem fs_M_code (B : jv_B p c cc) (hts : ∀ w ∈ wb, w.before args s = true) (hown : s.vm.findClass rn_M = some m.cls) (hK : va_K D jClasses (jTy cI cA cL) s) {v : Int32} (hd : decode cc pc = .ok (.putfield 35, 3))
    (kk : jv_V p l e R s m args below meth c D jClasses A nL cells slots Q (mw ad cI cA (up2 σ 0 0 v) F) lv (pc + 3) st) : jv_V p l e R s m args below meth c D jClasses A nL cells slots Q (mw ad cI cA σ F) lv pc (.int v :: .ref (ad 0) :: st) := jv_put (ty := .int) (ci := 5) (fs := [.int (σ 0 0), .int (σ 0 1), .ref (ad 1), .ref (ad 2), .ref (ad 3), .ref (ad 4), .int (σ 0 6), .int (σ 0 7), .int (σ 0 8), .int (σ 0 9), .ref (ad 5), .int (σ 0 11), .int (σ 0 12), .int (σ 0 13), .int (σ 0 14), .int (σ 0 15), .int (σ 0 16), .int (σ 0 17), .ref (ad 6), .ref (ad 7), .int (σ 0 20)]) (ws' := mw ad cI cA (up2 σ 0 0 v) F) B hts in_M ty_M tyok_M nm_M hown hK 0 rfl rfl 0 (by decide) (hts _ kw_562) (fun _ h => h) rfl (by decide +kernel) rfl rfl (Nat.le_of_ble_eq_true rfl) hd rfl kk
theorem fg_M_sectors (B : jv_B p c cc) (hts : ∀ w ∈ wb, w.before args s = true) (hown : s.vm.findClass rn_M = some m.cls) (hK : va_K D jClasses (jTy cI cA cL) s) (hd : decode cc pc = .ok (.getfield 38, 3))
    (kk : jv_V p l e R s m args below meth c D jClasses A nL cells slots Q (mw ad cI cA σ F) lv (pc + 3) (.int (σ 0 1) :: st)) : jv_V p l e R s m args below meth c D jClasses A nL cells slots Q (mw ad cI cA σ F) lv pc (.ref (ad 0) :: st) := jv_get B hts in_M hown hK 0 rfl rfl 1 (by decide) (hts _ kw_563) (fun _ h => h) rfl hd kk
theorem fs_M_sectors (B : jv_B p c cc) (hts : ∀ w ∈ wb, w.before args s = true) (hown : s.vm.findClass rn_M = some m.cls) (hK : va_K D jClasses (jTy cI cA cL) s) {v : Int32} (hd : decode cc pc = .ok (.putfield 38, 3))
    (kk : jv_V p l e R s m args below meth c D jClasses A nL cells slots Q (mw ad cI cA (up2 σ 0 1 v) F) lv (pc + 3) st) : jv_V p l e R s m args below meth c D jClasses A nL cells slots Q (mw ad cI cA σ F) lv pc (.int v :: .ref (ad 0) :: st) := jv_put (ty := .int) (ci := 5) (fs := [.int (σ 0 0), .int (σ 0 1), .ref (ad 1), .ref (ad 2), .ref (ad 3), .ref (ad 4), .int (σ 0 6), .int (σ 0 7), .int (σ 0 8), .int (σ 0 9), .ref (ad 5), .int (σ 0 11), .int (σ 0 12), .int (σ 0 13), .int (σ 0 14), .int (σ 0 15), .int (σ 0 16), .int (σ 0 17), .ref (ad 6), .ref (ad 7), .int (σ 0 20)]) (ws' := mw ad cI cA (up2 σ 0 1 v) F) B hts in_M ty_M tyok_M nm_M hown hK 0 rfl rfl 1 (by decide) (hts _ kw_563) (fun _ h => h) rfl (by decide +kernel) rfl rfl (Nat.le_of_ble_eq_true rfl) hd rfl kk
theorem fg_M_words (B : jv_B p c cc) (hts : ∀ w ∈ wb, w.before args s = true) (hown : s.vm.findClass rn_M = some m.cls) (hK : va_K D jClasses (jTy cI cA cL) s) (hd : decode cc pc = .ok (.getfield 7, 3))
    (kk : jv_V p l e R s m args below meth c D jClasses A nL cells slots Q (mw ad cI cA σ F) lv (pc + 3) (.ref (ad 1) :: st)) : jv_V p l e R s m args below meth c D jClasses A nL cells slots Q (mw ad cI cA σ F) lv pc (.ref (ad 0) :: st) := jv_get B hts in_M hown hK 0 rfl rfl 2 (by decide) (hts _ kw_564) (fun _ h => h) rfl hd kk
theorem fg_M_failures (B : jv_B p c cc) (hts : ∀ w ∈ wb, w.before args s = true) (hown : s.vm.findClass rn_M = some m.cls) (hK : va_K D jClasses (jTy cI cA cL) s) (hd : decode cc pc = .ok (.getfield 13, 3))
    (kk : jv_V p l e R s m args below meth c D jClasses A nL cells slots Q (mw ad cI cA σ F) lv (pc + 3) (.ref (ad 2) :: st)) : jv_V p l e R s m args below meth c D jClasses A nL cells slots Q (mw ad cI cA σ F) lv pc (.ref (ad 0) :: st) := jv_get B hts in_M hown hK 0 rfl rfl 3 (by decide) (hts _ kw_565) (fun _ h => h) rfl hd kk
theorem fg_M_reads (B : jv_B p c cc) (hts : ∀ w ∈ wb, w.before args s = true) (hown : s.vm.findClass rn_M = some m.cls) (hK : va_K D jClasses (jTy cI cA cL) s) (hd : decode cc pc = .ok (.getfield 16, 3))
    (kk : jv_V p l e R s m args below meth c D jClasses A nL cells slots Q (mw ad cI cA σ F) lv (pc + 3) (.ref (ad 3) :: st)) : jv_V p l e R s m args below meth c D jClasses A nL cells slots Q (mw ad cI cA σ F) lv pc (.ref (ad 0) :: st) := jv_get B hts in_M hown hK 0 rfl rfl 4 (by decide) (hts _ kw_566) (fun _ h => h) rfl hd kk
theorem fg_M_target (B : jv_B p c cc) (hts : ∀ w ∈ wb, w.before args s = true) (hown : s.vm.findClass rn_M = some m.cls) (hK : va_K D jClasses (jTy cI cA cL) s) (hd : decode cc pc = .ok (.getfield 19, 3))
    (kk : jv_V p l e R s m args below meth c D jClasses A nL cells slots Q (mw ad cI cA σ F) lv (pc + 3) (.ref (ad 4) :: st)) : jv_V p l e R s m args below meth c D jClasses A nL cells slots Q (mw ad cI cA σ F) lv pc (.ref (ad 0) :: st) := jv_get B hts in_M hown hK 0 rfl rfl 5 (by decide) (hts _ kw_567) (fun _ h => h) rfl hd kk
theorem fg_M_made (B : jv_B p c cc) (hts : ∀ w ∈ wb, w.before args s = true) (hown : s.vm.findClass rn_M = some m.cls) (hK : va_K D jClasses (jTy cI cA cL) s) (hd : decode cc pc = .ok (.getfield 41, 3))
    (kk : jv_V p l e R s m args below meth c D jClasses A nL cells slots Q (mw ad cI cA σ F) lv (pc + 3) (.int (σ 0 6) :: st)) : jv_V p l e R s m args below meth c D jClasses A nL cells slots Q (mw ad cI cA σ F) lv pc (.ref (ad 0) :: st) := jv_get B hts in_M hown hK 0 rfl rfl 6 (by decide) (hts _ kw_568) (fun _ h => h) rfl hd kk
theorem fs_M_made (B : jv_B p c cc) (hts : ∀ w ∈ wb, w.before args s = true) (hown : s.vm.findClass rn_M = some m.cls) (hK : va_K D jClasses (jTy cI cA cL) s) {v : Int32} (hd : decode cc pc = .ok (.putfield 41, 3))
    (kk : jv_V p l e R s m args below meth c D jClasses A nL cells slots Q (mw ad cI cA (up2 σ 0 6 v) F) lv (pc + 3) st) : jv_V p l e R s m args below meth c D jClasses A nL cells slots Q (mw ad cI cA σ F) lv pc (.int v :: .ref (ad 0) :: st) := jv_put (ty := .int) (ci := 5) (fs := [.int (σ 0 0), .int (σ 0 1), .ref (ad 1), .ref (ad 2), .ref (ad 3), .ref (ad 4), .int (σ 0 6), .int (σ 0 7), .int (σ 0 8), .int (σ 0 9), .ref (ad 5), .int (σ 0 11), .int (σ 0 12), .int (σ 0 13), .int (σ 0 14), .int (σ 0 15), .int (σ 0 16), .int (σ 0 17), .ref (ad 6), .ref (ad 7), .int (σ 0 20)]) (ws' := mw ad cI cA (up2 σ 0 6 v) F) B hts in_M ty_M tyok_M nm_M hown hK 0 rfl rfl 6 (by decide) (hts _ kw_568) (fun _ h => h) rfl (by decide +kernel) rfl rfl (Nat.le_of_ble_eq_true rfl) hd rfl kk
theorem fg_M_failed (B : jv_B p c cc) (hts : ∀ w ∈ wb, w.before args s = true) (hown : s.vm.findClass rn_M = some m.cls) (hK : va_K D jClasses (jTy cI cA cL) s) (hd : decode cc pc = .ok (.getfield 44, 3))
    (kk : jv_V p l e R s m args below meth c D jClasses A nL cells slots Q (mw ad cI cA σ F) lv (pc + 3) (.int (σ 0 7) :: st)) : jv_V p l e R s m args below meth c D jClasses A nL cells slots Q (mw ad cI cA σ F) lv pc (.ref (ad 0) :: st) := jv_get B hts in_M hown hK 0 rfl rfl 7 (by decide) (hts _ kw_569) (fun _ h => h) rfl hd kk
theorem fs_M_failed (B : jv_B p c cc) (hts : ∀ w ∈ wb, w.before args s = true) (hown : s.vm.findClass rn_M = some m.cls) (hK : va_K D jClasses (jTy cI cA cL) s) {v : Int32} (hd : decode cc pc = .ok (.putfield 44, 3))
    (kk : jv_V p l e R s m args below meth c D jClasses A nL cells slots Q (mw ad cI cA (up2 σ 0 7 v) F) lv (pc + 3) st) : jv_V p l e R s m args below meth c D jClasses A nL cells slots Q (mw ad cI cA σ F) lv pc (.int v :: .ref (ad 0) :: st) := jv_put (ty := .int) (ci := 5) (fs := [.int (σ 0 0), .int (σ 0 1), .ref (ad 1), .ref (ad 2), .ref (ad 3), .ref (ad 4), .int (σ 0 6), .int (σ 0 7), .int (σ 0 8), .int (σ 0 9), .ref (ad 5), .int (σ 0 11), .int (σ 0 12), .int (σ 0 13), .int (σ 0 14), .int (σ 0 15), .int (σ 0 16), .int (σ 0 17), .ref (ad 6), .ref (ad 7), .int (σ 0 20)]) (ws' := mw ad cI cA (up2 σ 0 7 v) F) B hts in_M ty_M tyok_M nm_M hown hK 0 rfl rfl 7 (by decide) (hts _ kw_569) (fun _ h => h) rfl (by decide +kernel) rfl rfl (Nat.le_of_ble_eq_true rfl) hd rfl kk
theorem fg_M_phase (B : jv_B p c cc) (hts : ∀ w ∈ wb, w.before args s = true) (hown : s.vm.findClass rn_M = some m.cls) (hK : va_K D jClasses (jTy cI cA cL) s) (hd : decode cc pc = .ok (.getfield 22, 3))
    (kk : jv_V p l e R s m args below meth c D jClasses A nL cells slots Q (mw ad cI cA σ F) lv (pc + 3) (.int (σ 0 8) :: st)) : jv_V p l e R s m args below meth c D jClasses A nL cells slots Q (mw ad cI cA σ F) lv pc (.ref (ad 0) :: st) := jv_get B hts in_M hown hK 0 rfl rfl 8 (by decide) (hts _ kw_570) (fun _ h => h) rfl hd kk
theorem fs_M_phase (B : jv_B p c cc) (hts : ∀ w ∈ wb, w.before args s = true) (hown : s.vm.findClass rn_M = some m.cls) (hK : va_K D jClasses (jTy cI cA cL) s) {v : Int32} (hd : decode cc pc = .ok (.putfield 22, 3))
    (kk : jv_V p l e R s m args below meth c D jClasses A nL cells slots Q (mw ad cI cA (up2 σ 0 8 v) F) lv (pc + 3) st) : jv_V p l e R s m args below meth c D jClasses A nL cells slots Q (mw ad cI cA σ F) lv pc (.int v :: .ref (ad 0) :: st) := jv_put (ty := .int) (ci := 5) (fs := [.int (σ 0 0), .int (σ 0 1), .ref (ad 1), .ref (ad 2), .ref (ad 3), .ref (ad 4), .int (σ 0 6), .int (σ 0 7), .int (σ 0 8), .int (σ 0 9), .ref (ad 5), .int (σ 0 11), .int (σ 0 12), .int (σ 0 13), .int (σ 0 14), .int (σ 0 15), .int (σ 0 16), .int (σ 0 17), .ref (ad 6), .ref (ad 7), .int (σ 0 20)]) (ws' := mw ad cI cA (up2 σ 0 8 v) F) B hts in_M ty_M tyok_M nm_M hown hK 0 rfl rfl 8 (by decide) (hts _ kw_570) (fun _ h => h) rfl (by decide +kernel) rfl rfl (Nat.le_of_ble_eq_true rfl) hd rfl kk
theorem fg_M_retries (B : jv_B p c cc) (hts : ∀ w ∈ wb, w.before args s = true) (hown : s.vm.findClass rn_M = some m.cls) (hK : va_K D jClasses (jTy cI cA cL) s) (hd : decode cc pc = .ok (.getfield 73, 3))
    (kk : jv_V p l e R s m args below meth c D jClasses A nL cells slots Q (mw ad cI cA σ F) lv (pc + 3) (.int (σ 0 9) :: st)) : jv_V p l e R s m args below meth c D jClasses A nL cells slots Q (mw ad cI cA σ F) lv pc (.ref (ad 0) :: st) := jv_get B hts in_M hown hK 0 rfl rfl 9 (by decide) (hts _ kw_571) (fun _ h => h) rfl hd kk
theorem fs_M_retries (B : jv_B p c cc) (hts : ∀ w ∈ wb, w.before args s = true) (hown : s.vm.findClass rn_M = some m.cls) (hK : va_K D jClasses (jTy cI cA cL) s) {v : Int32} (hd : decode cc pc = .ok (.putfield 73, 3))
    (kk : jv_V p l e R s m args below meth c D jClasses A nL cells slots Q (mw ad cI cA (up2 σ 0 9 v) F) lv (pc + 3) st) : jv_V p l e R s m args below meth c D jClasses A nL cells slots Q (mw ad cI cA σ F) lv pc (.int v :: .ref (ad 0) :: st) := jv_put (ty := .int) (ci := 5) (fs := [.int (σ 0 0), .int (σ 0 1), .ref (ad 1), .ref (ad 2), .ref (ad 3), .ref (ad 4), .int (σ 0 6), .int (σ 0 7), .int (σ 0 8), .int (σ 0 9), .ref (ad 5), .int (σ 0 11), .int (σ 0 12), .int (σ 0 13), .int (σ 0 14), .int (σ 0 15), .int (σ 0 16), .int (σ 0 17), .ref (ad 6), .ref (ad 7), .int (σ 0 20)]) (ws' := mw ad cI cA (up2 σ 0 9 v) F) B hts in_M ty_M tyok_M nm_M hown hK 0 rfl rfl 9 (by decide) (hts _ kw_571) (fun _ h => h) rfl (by decide +kernel) rfl rfl (Nat.le_of_ble_eq_true rfl) hd rfl kk
theorem fg_M_states (B : jv_B p c cc) (hts : ∀ w ∈ wb, w.before args s = true) (hown : s.vm.findClass rn_M = some m.cls) (hK : va_K D jClasses (jTy cI cA cL) s) (hd : decode cc pc = .ok (.getfield 26, 3))
    (kk : jv_V p l e R s m args below meth c D jClasses A nL cells slots Q (mw ad cI cA σ F) lv (pc + 3) (.ref (ad 5) :: st)) : jv_V p l e R s m args below meth c D jClasses A nL cells slots Q (mw ad cI cA σ F) lv pc (.ref (ad 0) :: st) := jv_get B hts in_M hown hK 0 rfl rfl 10 (by decide) (hts _ kw_572) (fun _ h => h) rfl hd kk
theorem fg_M_position (B : jv_B p c cc) (hts : ∀ w ∈ wb, w.before args s = true) (hown : s.vm.findClass rn_M = some m.cls) (hK : va_K D jClasses (jTy cI cA cL) s) (hd : decode cc pc = .ok (.getfield 60, 3))
    (kk : jv_V p l e R s m args below meth c D jClasses A nL cells slots Q (mw ad cI cA σ F) lv (pc + 3) (.int (σ 0 11) :: st)) : jv_V p l e R s m args below meth c D jClasses A nL cells slots Q (mw ad cI cA σ F) lv pc (.ref (ad 0) :: st) := jv_get B hts in_M hown hK 0 rfl rfl 11 (by decide) (hts _ kw_573) (fun _ h => h) rfl hd kk
theorem fs_M_position (B : jv_B p c cc) (hts : ∀ w ∈ wb, w.before args s = true) (hown : s.vm.findClass rn_M = some m.cls) (hK : va_K D jClasses (jTy cI cA cL) s) {v : Int32} (hd : decode cc pc = .ok (.putfield 60, 3))
    (kk : jv_V p l e R s m args below meth c D jClasses A nL cells slots Q (mw ad cI cA (up2 σ 0 11 v) F) lv (pc + 3) st) : jv_V p l e R s m args below meth c D jClasses A nL cells slots Q (mw ad cI cA σ F) lv pc (.int v :: .ref (ad 0) :: st) := jv_put (ty := .int) (ci := 5) (fs := [.int (σ 0 0), .int (σ 0 1), .ref (ad 1), .ref (ad 2), .ref (ad 3), .ref (ad 4), .int (σ 0 6), .int (σ 0 7), .int (σ 0 8), .int (σ 0 9), .ref (ad 5), .int (σ 0 11), .int (σ 0 12), .int (σ 0 13), .int (σ 0 14), .int (σ 0 15), .int (σ 0 16), .int (σ 0 17), .ref (ad 6), .ref (ad 7), .int (σ 0 20)]) (ws' := mw ad cI cA (up2 σ 0 11 v) F) B hts in_M ty_M tyok_M nm_M hown hK 0 rfl rfl 11 (by decide) (hts _ kw_573) (fun _ h => h) rfl (by decide +kernel) rfl rfl (Nat.le_of_ble_eq_true rfl) hd rfl kk
theorem fg_M_leap (B : jv_B p c cc) (hts : ∀ w ∈ wb, w.before args s = true) (hown : s.vm.findClass rn_M = some m.cls) (hK : va_K D jClasses (jTy cI cA cL) s) (hd : decode cc pc = .ok (.getfield 63, 3))
    (kk : jv_V p l e R s m args below meth c D jClasses A nL cells slots Q (mw ad cI cA σ F) lv (pc + 3) (.int (σ 0 12) :: st)) : jv_V p l e R s m args below meth c D jClasses A nL cells slots Q (mw ad cI cA σ F) lv pc (.ref (ad 0) :: st) := jv_get B hts in_M hown hK 0 rfl rfl 12 (by decide) (hts _ kw_574) (fun _ h => h) rfl hd kk
theorem fs_M_leap (B : jv_B p c cc) (hts : ∀ w ∈ wb, w.before args s = true) (hown : s.vm.findClass rn_M = some m.cls) (hK : va_K D jClasses (jTy cI cA cL) s) {v : Int32} (hd : decode cc pc = .ok (.putfield 63, 3))
    (kk : jv_V p l e R s m args below meth c D jClasses A nL cells slots Q (mw ad cI cA (up2 σ 0 12 v) F) lv (pc + 3) st) : jv_V p l e R s m args below meth c D jClasses A nL cells slots Q (mw ad cI cA σ F) lv pc (.int v :: .ref (ad 0) :: st) := jv_put (ty := .int) (ci := 5) (fs := [.int (σ 0 0), .int (σ 0 1), .ref (ad 1), .ref (ad 2), .ref (ad 3), .ref (ad 4), .int (σ 0 6), .int (σ 0 7), .int (σ 0 8), .int (σ 0 9), .ref (ad 5), .int (σ 0 11), .int (σ 0 12), .int (σ 0 13), .int (σ 0 14), .int (σ 0 15), .int (σ 0 16), .int (σ 0 17), .ref (ad 6), .ref (ad 7), .int (σ 0 20)]) (ws' := mw ad cI cA (up2 σ 0 12 v) F) B hts in_M ty_M tyok_M nm_M hown hK 0 rfl rfl 12 (by decide) (hts _ kw_574) (fun _ h => h) rfl (by decide +kernel) rfl rfl (Nat.le_of_ble_eq_true rfl) hd rfl kk
theorem fg_M_round (B : jv_B p c cc) (hts : ∀ w ∈ wb, w.before args s = true) (hown : s.vm.findClass rn_M = some m.cls) (hK : va_K D jClasses (jTy cI cA cL) s) (hd : decode cc pc = .ok (.getfield 66, 3))
    (kk : jv_V p l e R s m args below meth c D jClasses A nL cells slots Q (mw ad cI cA σ F) lv (pc + 3) (.int (σ 0 13) :: st)) : jv_V p l e R s m args below meth c D jClasses A nL cells slots Q (mw ad cI cA σ F) lv pc (.ref (ad 0) :: st) := jv_get B hts in_M hown hK 0 rfl rfl 13 (by decide) (hts _ kw_575) (fun _ h => h) rfl hd kk
theorem fs_M_round (B : jv_B p c cc) (hts : ∀ w ∈ wb, w.before args s = true) (hown : s.vm.findClass rn_M = some m.cls) (hK : va_K D jClasses (jTy cI cA cL) s) {v : Int32} (hd : decode cc pc = .ok (.putfield 66, 3))
    (kk : jv_V p l e R s m args below meth c D jClasses A nL cells slots Q (mw ad cI cA (up2 σ 0 13 v) F) lv (pc + 3) st) : jv_V p l e R s m args below meth c D jClasses A nL cells slots Q (mw ad cI cA σ F) lv pc (.int v :: .ref (ad 0) :: st) := jv_put (ty := .int) (ci := 5) (fs := [.int (σ 0 0), .int (σ 0 1), .ref (ad 1), .ref (ad 2), .ref (ad 3), .ref (ad 4), .int (σ 0 6), .int (σ 0 7), .int (σ 0 8), .int (σ 0 9), .ref (ad 5), .int (σ 0 11), .int (σ 0 12), .int (σ 0 13), .int (σ 0 14), .int (σ 0 15), .int (σ 0 16), .int (σ 0 17), .ref (ad 6), .ref (ad 7), .int (σ 0 20)]) (ws' := mw ad cI cA (up2 σ 0 13 v) F) B hts in_M ty_M tyok_M nm_M hown hK 0 rfl rfl 13 (by decide) (hts _ kw_575) (fun _ h => h) rfl (by decide +kernel) rfl rfl (Nat.le_of_ble_eq_true rfl) hd rfl kk
theorem fg_M_backwards (B : jv_B p c cc) (hts : ∀ w ∈ wb, w.before args s = true) (hown : s.vm.findClass rn_M = some m.cls) (hK : va_K D jClasses (jTy cI cA cL) s) (hd : decode cc pc = .ok (.getfield 69, 3))
    (kk : jv_V p l e R s m args below meth c D jClasses A nL cells slots Q (mw ad cI cA σ F) lv (pc + 3) (.int (σ 0 14) :: st)) : jv_V p l e R s m args below meth c D jClasses A nL cells slots Q (mw ad cI cA σ F) lv pc (.ref (ad 0) :: st) := jv_get B hts in_M hown hK 0 rfl rfl 14 (by decide) (hts _ kw_576) (fun _ h => h) rfl hd kk
theorem fs_M_backwards (B : jv_B p c cc) (hts : ∀ w ∈ wb, w.before args s = true) (hown : s.vm.findClass rn_M = some m.cls) (hK : va_K D jClasses (jTy cI cA cL) s) {v : Int32} (hz : v = 0 ∨ v = 1) (hd : decode cc pc = .ok (.putfield 69, 3))
    (kk : jv_V p l e R s m args below meth c D jClasses A nL cells slots Q (mw ad cI cA (up2 σ 0 14 v) F) lv (pc + 3) st) : jv_V p l e R s m args below meth c D jClasses A nL cells slots Q (mw ad cI cA σ F) lv pc (.int v :: .ref (ad 0) :: st) := jv_put (ty := .boolean) (ci := 5) (fs := [.int (σ 0 0), .int (σ 0 1), .ref (ad 1), .ref (ad 2), .ref (ad 3), .ref (ad 4), .int (σ 0 6), .int (σ 0 7), .int (σ 0 8), .int (σ 0 9), .ref (ad 5), .int (σ 0 11), .int (σ 0 12), .int (σ 0 13), .int (σ 0 14), .int (σ 0 15), .int (σ 0 16), .int (σ 0 17), .ref (ad 6), .ref (ad 7), .int (σ 0 20)]) (ws' := mw ad cI cA (up2 σ 0 14 v) F) B hts in_M ty_M tyok_M nm_M hown hK 0 rfl rfl 14 (by decide) (hts _ kw_576) (fun _ h => h) rfl (by decide +kernel) (by rcases hz with rfl | rfl <;> rfl) (by rcases hz with rfl | rfl <;> rfl) (Nat.le_of_ble_eq_true rfl) hd rfl kk
theorem fg_M_from (B : jv_B p c cc) (hts : ∀ w ∈ wb, w.before args s = true) (hown : s.vm.findClass rn_M = some m.cls) (hK : va_K D jClasses (jTy cI cA cL) s) (hd : decode cc pc = .ok (.getfield 54, 3))
    (kk : jv_V p l e R s m args below meth c D jClasses A nL cells slots Q (mw ad cI cA σ F) lv (pc + 3) (.int (σ 0 15) :: st)) : jv_V p l e R s m args below meth c D jClasses A nL cells slots Q (mw ad cI cA σ F) lv pc (.ref (ad 0) :: st) := jv_get B hts in_M hown hK 0 rfl rfl 15 (by decide) (hts _ kw_577) (fun _ h => h) rfl hd kk
theorem fs_M_from (B : jv_B p c cc) (hts : ∀ w ∈ wb, w.before args s = true) (hown : s.vm.findClass rn_M = some m.cls) (hK : va_K D jClasses (jTy cI cA cL) s) {v : Int32} (hd : decode cc pc = .ok (.putfield 54, 3))
    (kk : jv_V p l e R s m args below meth c D jClasses A nL cells slots Q (mw ad cI cA (up2 σ 0 15 v) F) lv (pc + 3) st) : jv_V p l e R s m args below meth c D jClasses A nL cells slots Q (mw ad cI cA σ F) lv pc (.int v :: .ref (ad 0) :: st) := jv_put (ty := .int) (ci := 5) (fs := [.int (σ 0 0), .int (σ 0 1), .ref (ad 1), .ref (ad 2), .ref (ad 3), .ref (ad 4), .int (σ 0 6), .int (σ 0 7), .int (σ 0 8), .int (σ 0 9), .ref (ad 5), .int (σ 0 11), .int (σ 0 12), .int (σ 0 13), .int (σ 0 14), .int (σ 0 15), .int (σ 0 16), .int (σ 0 17), .ref (ad 6), .ref (ad 7), .int (σ 0 20)]) (ws' := mw ad cI cA (up2 σ 0 15 v) F) B hts in_M ty_M tyok_M nm_M hown hK 0 rfl rfl 15 (by decide) (hts _ kw_577) (fun _ h => h) rfl (by decide +kernel) rfl rfl (Nat.le_of_ble_eq_true rfl) hd rfl kk
theorem fg_M_to (B : jv_B p c cc) (hts : ∀ w ∈ wb, w.before args s = true) (hown : s.vm.findClass rn_M = some m.cls) (hK : va_K D jClasses (jTy cI cA cL) s) (hd : decode cc pc = .ok (.getfield 57, 3))
    (kk : jv_V p l e R s m args below meth c D jClasses A nL cells slots Q (mw ad cI cA σ F) lv (pc + 3) (.int (σ 0 16) :: st)) : jv_V p l e R s m args below meth c D jClasses A nL cells slots Q (mw ad cI cA σ F) lv pc (.ref (ad 0) :: st) := jv_get B hts in_M hown hK 0 rfl rfl 16 (by decide) (hts _ kw_578) (fun _ h => h) rfl hd kk
theorem fs_M_to (B : jv_B p c cc) (hts : ∀ w ∈ wb, w.before args s = true) (hown : s.vm.findClass rn_M = some m.cls) (hK : va_K D jClasses (jTy cI cA cL) s) {v : Int32} (hd : decode cc pc = .ok (.putfield 57, 3))
    (kk : jv_V p l e R s m args below meth c D jClasses A nL cells slots Q (mw ad cI cA (up2 σ 0 16 v) F) lv (pc + 3) st) : jv_V p l e R s m args below meth c D jClasses A nL cells slots Q (mw ad cI cA σ F) lv pc (.int v :: .ref (ad 0) :: st) := jv_put (ty := .int) (ci := 5) (fs := [.int (σ 0 0), .int (σ 0 1), .ref (ad 1), .ref (ad 2), .ref (ad 3), .ref (ad 4), .int (σ 0 6), .int (σ 0 7), .int (σ 0 8), .int (σ 0 9), .ref (ad 5), .int (σ 0 11), .int (σ 0 12), .int (σ 0 13), .int (σ 0 14), .int (σ 0 15), .int (σ 0 16), .int (σ 0 17), .ref (ad 6), .ref (ad 7), .int (σ 0 20)]) (ws' := mw ad cI cA (up2 σ 0 16 v) F) B hts in_M ty_M tyok_M nm_M hown hK 0 rfl rfl 16 (by decide) (hts _ kw_578) (fun _ h => h) rfl (by decide +kernel) rfl rfl (Nat.le_of_ble_eq_true rfl) hd rfl kk
theorem fg_M_number (B : jv_B p c cc) (hts : ∀ w ∈ wb, w.before args s = true) (hown : s.vm.findClass rn_M = some m.cls) (hK : va_K D jClasses (jTy cI cA cL) s) (hd : decode cc pc = .ok (.getfield 47, 3))
    (kk : jv_V p l e R s m args below meth c D jClasses A nL cells slots Q (mw ad cI cA σ F) lv (pc + 3) (.int (σ 0 17) :: st)) : jv_V p l e R s m args below meth c D jClasses A nL cells slots Q (mw ad cI cA σ F) lv pc (.ref (ad 0) :: st) := jv_get B hts in_M hown hK 0 rfl rfl 17 (by decide) (hts _ kw_579) (fun _ h => h) rfl hd kk
theorem fs_M_number (B : jv_B p c cc) (hts : ∀ w ∈ wb, w.before args s = true) (hown : s.vm.findClass rn_M = some m.cls) (hK : va_K D jClasses (jTy cI cA cL) s) {v : Int32} (hd : decode cc pc = .ok (.putfield 47, 3))
    (kk : jv_V p l e R s m args below meth c D jClasses A nL cells slots Q (mw ad cI cA (up2 σ 0 17 v) F) lv (pc + 3) st) : jv_V p l e R s m args below meth c D jClasses A nL cells slots Q (mw ad cI cA σ F) lv pc (.int v :: .ref (ad 0) :: st) := jv_put (ty := .int) (ci := 5) (fs := [.int (σ 0 0), .int (σ 0 1), .ref (ad 1), .ref (ad 2), .ref (ad 3), .ref (ad 4), .int (σ 0 6), .int (σ 0 7), .int (σ 0 8), .int (σ 0 9), .ref (ad 5), .int (σ 0 11), .int (σ 0 12), .int (σ 0 13), .int (σ 0 14), .int (σ 0 15), .int (σ 0 16), .int (σ 0 17), .ref (ad 6), .ref (ad 7), .int (σ 0 20)]) (ws' := mw ad cI cA (up2 σ 0 17 v) F) B hts in_M ty_M tyok_M nm_M hown hK 0 rfl rfl 17 (by decide) (hts _ kw_579) (fun _ h => h) rfl (by decide +kernel) rfl rfl (Nat.le_of_ble_eq_true rfl) hd rfl kk
theorem fg_M_slots (B : jv_B p c cc) (hts : ∀ w ∈ wb, w.before args s = true) (hown : s.vm.findClass rn_M = some m.cls) (hK : va_K D jClasses (jTy cI cA cL) s) (hd : decode cc pc = .ok (.getfield 29, 3))
    (kk : jv_V p l e R s m args below meth c D jClasses A nL cells slots Q (mw ad cI cA σ F) lv (pc + 3) (.ref (ad 6) :: st)) : jv_V p l e R s m args below meth c D jClasses A nL cells slots Q (mw ad cI cA σ F) lv pc (.ref (ad 0) :: st) := jv_get B hts in_M hown hK 0 rfl rfl 18 (by decide) (hts _ kw_580) (fun _ h => h) rfl hd kk
theorem fg_M_image (B : jv_B p c cc) (hts : ∀ w ∈ wb, w.before args s = true) (hown : s.vm.findClass rn_M = some m.cls) (hK : va_K D jClasses (jTy cI cA cL) s) (hd : decode cc pc = .ok (.getfield 32, 3))
    (kk : jv_V p l e R s m args below meth c D jClasses A nL cells slots Q (mw ad cI cA σ F) lv (pc + 3) (.ref (ad 7) :: st)) : jv_V p l e R s m args below meth c D jClasses A nL cells slots Q (mw ad cI cA σ F) lv pc (.ref (ad 0) :: st) := jv_get B hts in_M hown hK 0 rfl rfl 19 (by decide) (hts _ kw_581) (fun _ h => h) rfl hd kk
theorem fg_M_size (B : jv_B p c cc) (hts : ∀ w ∈ wb, w.before args s = true) (hown : s.vm.findClass rn_M = some m.cls) (hK : va_K D jClasses (jTy cI cA cL) s) (hd : decode cc pc = .ok (.getfield 114, 3))
    (kk : jv_V p l e R s m args below meth c D jClasses A nL cells slots Q (mw ad cI cA σ F) lv (pc + 3) (.int (σ 0 20) :: st)) : jv_V p l e R s m args below meth c D jClasses A nL cells slots Q (mw ad cI cA σ F) lv pc (.ref (ad 0) :: st) := jv_get B hts in_M hown hK 0 rfl rfl 20 (by decide) (hts _ kw_582) (fun _ h => h) rfl hd kk
theorem fs_M_size (B : jv_B p c cc) (hts : ∀ w ∈ wb, w.before args s = true) (hown : s.vm.findClass rn_M = some m.cls) (hK : va_K D jClasses (jTy cI cA cL) s) {v : Int32} (hd : decode cc pc = .ok (.putfield 114, 3))
    (kk : jv_V p l e R s m args below meth c D jClasses A nL cells slots Q (mw ad cI cA (up2 σ 0 20 v) F) lv (pc + 3) st) : jv_V p l e R s m args below meth c D jClasses A nL cells slots Q (mw ad cI cA σ F) lv pc (.int v :: .ref (ad 0) :: st) := jv_put (ty := .int) (ci := 5) (fs := [.int (σ 0 0), .int (σ 0 1), .ref (ad 1), .ref (ad 2), .ref (ad 3), .ref (ad 4), .int (σ 0 6), .int (σ 0 7), .int (σ 0 8), .int (σ 0 9), .ref (ad 5), .int (σ 0 11), .int (σ 0 12), .int (σ 0 13), .int (σ 0 14), .int (σ 0 15), .int (σ 0 16), .int (σ 0 17), .ref (ad 6), .ref (ad 7), .int (σ 0 20)]) (ws' := mw ad cI cA (up2 σ 0 20 v) F) B hts in_M ty_M tyok_M nm_M hown hK 0 rfl rfl 20 (by decide) (hts _ kw_582) (fun _ h => h) rfl (by decide +kernel) rfl rfl (Nat.le_of_ble_eq_true rfl) hd rfl kk
theorem ld_c_2 (B : jv_B p c cc) (hK : va_K D jClasses (jTy cI cA cL) s) {i : Int32} (hi : vp_in i 64) (hd : decode cc pc = .ok (.iaload, 1))
    (kk : jv_V p l e R s m args below meth c D jClasses A nL cells slots Q (cw ad cI cA σ F) lv (pc + 1) (.int (σ 2 i.toNatClampNeg) :: st)) : jv_V p l e R s m args below meth c D jClasses A nL cells slots Q (cw ad cI cA σ F) lv pc (.int i :: .ref (ad 2) :: st) := jv_iald B hK 2 0 rfl rfl hi hd kk
theorem sd_c_2 (B : jv_B p c cc) (hK : va_K D jClasses (jTy cI cA cL) s) {i v : Int32} (hi : vp_in i 64) (hd : decode cc pc = .ok (.iastore, 1))
    (kk : jv_V p l e R s m args below meth c D jClasses A nL cells slots Q (cw ad cI cA (up2 σ 2 i.toNatClampNeg v) F) lv (pc + 1) st) : jv_V p l e R s m args below meth c D jClasses A nL cells slots Q (cw ad cI cA σ F) lv pc (.int v :: .int i :: .ref (ad 2) :: st) := jv_iast B hK 2 0 rfl rfl hi hd rfl kk
theorem ld_c_3 (B : jv_B p c cc) (hK : va_K D jClasses (jTy cI cA cL) s) {i : Int32} (hi : vp_in i 64) (hd : decode cc pc = .ok (.iaload, 1))
    (kk : jv_V p l e R s m args below meth c D jClasses A nL cells slots Q (cw ad cI cA σ F) lv (pc + 1) (.int (σ 3 i.toNatClampNeg) :: st)) : jv_V p l e R s m args below meth c D jClasses A nL cells slots Q (cw ad cI cA σ F) lv pc (.int i :: .ref (ad 3) :: st) := jv_iald B hK 3 0 rfl rfl hi hd kk
theorem sd_c_3 (B : jv_B p c cc) (hK : va_K D jClasses (jTy cI cA cL) s) {i v : Int32} (hi : vp_in i 64) (hd : decode cc pc = .ok (.iastore, 1))
    (kk : jv_V p l e R s m args below meth c D jClasses A nL cells slots Q (cw ad cI cA (up2 σ 3 i.toNatClampNeg v) F) lv (pc + 1) st) : jv_V p l e R s m args below meth c D jClasses A nL cells slots Q (cw ad cI cA σ F) lv pc (.int v :: .int i :: .ref (ad 3) :: st) := jv_iast B hK 3 0 rfl rfl hi hd rfl kk
theorem ld_c_4 (B : jv_B p c cc) (hK : va_K D jClasses (jTy cI cA cL) s) {i : Int32} (hi : vp_in i 64) (hd : decode cc pc = .ok (.iaload, 1))
    (kk : jv_V p l e R s m args below meth c D jClasses A nL cells slots Q (cw ad cI cA σ F) lv (pc + 1) (.int (σ 4 i.toNatClampNeg) :: st)) : jv_V p l e R s m args below meth c D jClasses A nL cells slots Q (cw ad cI cA σ F) lv pc (.int i :: .ref (ad 4) :: st) := jv_iald B hK 4 0 rfl rfl hi hd kk
theorem sd_c_4 (B : jv_B p c cc) (hK : va_K D jClasses (jTy cI cA cL) s) {i v : Int32} (hi : vp_in i 64) (hd : decode cc pc = .ok (.iastore, 1))
    (kk : jv_V p l e R s m args below meth c D jClasses A nL cells slots Q (cw ad cI cA (up2 σ 4 i.toNatClampNeg v) F) lv (pc + 1) st) : jv_V p l e R s m args below meth c D jClasses A nL cells slots Q (cw ad cI cA σ F) lv pc (.int v :: .int i :: .ref (ad 4) :: st) := jv_iast B hK 4 0 rfl rfl hi hd rfl kk
theorem ld_c_5 (B : jv_B p c cc) (hK : va_K D jClasses (jTy cI cA cL) s) {i : Int32} (hi : vp_in i 64) (hd : decode cc pc = .ok (.iaload, 1))
    (kk : jv_V p l e R s m args below meth c D jClasses A nL cells slots Q (cw ad cI cA σ F) lv (pc + 1) (.int (σ 5 i.toNatClampNeg) :: st)) : jv_V p l e R s m args below meth c D jClasses A nL cells slots Q (cw ad cI cA σ F) lv pc (.int i :: .ref (ad 5) :: st) := jv_iald B hK 5 0 rfl rfl hi hd kk
theorem sd_c_5 (B : jv_B p c cc) (hK : va_K D jClasses (jTy cI cA cL) s) {i v : Int32} (hi : vp_in i 64) (hd : decode cc pc = .ok (.iastore, 1))
    (kk : jv_V p l e R s m args below meth c D jClasses A nL cells slots Q (cw ad cI cA (up2 σ 5 i.toNatClampNeg v) F) lv (pc + 1) st) : jv_V p l e R s m args below meth c D jClasses A nL cells slots Q (cw ad cI cA σ F) lv pc (.int v :: .int i :: .ref (ad 5) :: st) := jv_iast B hK 5 0 rfl rfl hi hd rfl kk
theorem ld_c_7 (B : jv_B p c cc) (hK : va_K D jClasses (jTy cI cA cL) s) {i : Int32} (hi : vp_in i 64) (hd : decode cc pc = .ok (.iaload, 1))
    (kk : jv_V p l e R s m args below meth c D jClasses A nL cells slots Q (cw ad cI cA σ F) lv (pc + 1) (.int (σ 7 i.toNatClampNeg) :: st)) : jv_V p l e R s m args below meth c D jClasses A nL cells slots Q (cw ad cI cA σ F) lv pc (.int i :: .ref (ad 7) :: st) := jv_iald B hK 7 0 rfl rfl hi hd kk
theorem sd_c_7 (B : jv_B p c cc) (hK : va_K D jClasses (jTy cI cA cL) s) {i v : Int32} (hi : vp_in i 64) (hd : decode cc pc = .ok (.iastore, 1))
    (kk : jv_V p l e R s m args below meth c D jClasses A nL cells slots Q (cw ad cI cA (up2 σ 7 i.toNatClampNeg v) F) lv (pc + 1) st) : jv_V p l e R s m args below meth c D jClasses A nL cells slots Q (cw ad cI cA σ F) lv pc (.int v :: .int i :: .ref (ad 7) :: st) := jv_iast B hK 7 0 rfl rfl hi hd rfl kk
theorem ld_c_11 (B : jv_B p c cc) (hK : va_K D jClasses (jTy cI cA cL) s) {i : Int32} (hi : vp_in i 140) (hd : decode cc pc = .ok (.iaload, 1))
    (kk : jv_V p l e R s m args below meth c D jClasses A nL cells slots Q (cw ad cI cA σ F) lv (pc + 1) (.int (σ 11 i.toNatClampNeg) :: st)) : jv_V p l e R s m args below meth c D jClasses A nL cells slots Q (cw ad cI cA σ F) lv pc (.int i :: .ref (ad 11) :: st) := jv_iald B hK 11 0 rfl rfl hi hd kk
theorem sd_c_11 (B : jv_B p c cc) (hK : va_K D jClasses (jTy cI cA cL) s) {i v : Int32} (hi : vp_in i 140) (hd : decode cc pc = .ok (.iastore, 1))
    (kk : jv_V p l e R s m args below meth c D jClasses A nL cells slots Q (cw ad cI cA (up2 σ 11 i.toNatClampNeg v) F) lv (pc + 1) st) : jv_V p l e R s m args below meth c D jClasses A nL cells slots Q (cw ad cI cA σ F) lv pc (.int v :: .int i :: .ref (ad 11) :: st) := jv_iast B hK 11 0 rfl rfl hi hd rfl kk
theorem ld_c_12 (B : jv_B p c cc) (hK : va_K D jClasses (jTy cI cA cL) s) {i : Int32} (hi : vp_in i 140) (hd : decode cc pc = .ok (.iaload, 1))
    (kk : jv_V p l e R s m args below meth c D jClasses A nL cells slots Q (cw ad cI cA σ F) lv (pc + 1) (.int (σ 12 i.toNatClampNeg) :: st)) : jv_V p l e R s m args below meth c D jClasses A nL cells slots Q (cw ad cI cA σ F) lv pc (.int i :: .ref (ad 12) :: st) := jv_iald B hK 12 0 rfl rfl hi hd kk
theorem sd_c_12 (B : jv_B p c cc) (hK : va_K D jClasses (jTy cI cA cL) s) {i v : Int32} (hi : vp_in i 140) (hd : decode cc pc = .ok (.iastore, 1))
    (kk : jv_V p l e R s m args below meth c D jClasses A nL cells slots Q (cw ad cI cA (up2 σ 12 i.toNatClampNeg v) F) lv (pc + 1) st) : jv_V p l e R s m args below meth c D jClasses A nL cells slots Q (cw ad cI cA σ F) lv pc (.int v :: .int i :: .ref (ad 12) :: st) := jv_iast B hK 12 0 rfl rfl hi hd rfl kk
theorem ld_c_13 (B : jv_B p c cc) (hK : va_K D jClasses (jTy cI cA cL) s) {i : Int32} (hi : vp_in i 140) (hd : decode cc pc = .ok (.iaload, 1))
    (kk : jv_V p l e R s m args below meth c D jClasses A nL cells slots Q (cw ad cI cA σ F) lv (pc + 1) (.int (σ 13 i.toNatClampNeg) :: st)) : jv_V p l e R s m args below meth c D jClasses A nL cells slots Q (cw ad cI cA σ F) lv pc (.int i :: .ref (ad 13) :: st) := jv_iald B hK 13 0 rfl rfl hi hd kk
theorem sd_c_13 (B : jv_B p c cc) (hK : va_K D jClasses (jTy cI cA cL) s) {i v : Int32} (hi : vp_in i 140) (hd : decode cc pc = .ok (.iastore, 1))
    (kk : jv_V p l e R s m args below meth c D jClasses A nL cells slots Q (cw ad cI cA (up2 σ 13 i.toNatClampNeg v) F) lv (pc + 1) st) : jv_V p l e R s m args below meth c D jClasses A nL cells slots Q (cw ad cI cA σ F) lv pc (.int v :: .int i :: .ref (ad 13) :: st) := jv_iast B hK 13 0 rfl rfl hi hd rfl kk
theorem ld_m_1 (B : jv_B p c cc) (hK : va_K D jClasses (jTy cI cA cL) s) {i : Int32} (hi : vp_in i 64) (hd : decode cc pc = .ok (.iaload, 1))
    (kk : jv_V p l e R s m args below meth c D jClasses A nL cells slots Q (mw ad cI cA σ F) lv (pc + 1) (.int (σ 1 i.toNatClampNeg) :: st)) : jv_V p l e R s m args below meth c D jClasses A nL cells slots Q (mw ad cI cA σ F) lv pc (.int i :: .ref (ad 1) :: st) := jv_iald B hK 1 0 rfl rfl hi hd kk
theorem sd_m_1 (B : jv_B p c cc) (hK : va_K D jClasses (jTy cI cA cL) s) {i v : Int32} (hi : vp_in i 64) (hd : decode cc pc = .ok (.iastore, 1))
    (kk : jv_V p l e R s m args below meth c D jClasses A nL cells slots Q (mw ad cI cA (up2 σ 1 i.toNatClampNeg v) F) lv (pc + 1) st) : jv_V p l e R s m args below meth c D jClasses A nL cells slots Q (mw ad cI cA σ F) lv pc (.int v :: .int i :: .ref (ad 1) :: st) := jv_iast B hK 1 0 rfl rfl hi hd rfl kk
theorem ld_m_2 (B : jv_B p c cc) (hK : va_K D jClasses (jTy cI cA cL) s) {i : Int32} (hi : vp_in i 64) (hd : decode cc pc = .ok (.iaload, 1))
    (kk : jv_V p l e R s m args below meth c D jClasses A nL cells slots Q (mw ad cI cA σ F) lv (pc + 1) (.int (σ 2 i.toNatClampNeg) :: st)) : jv_V p l e R s m args below meth c D jClasses A nL cells slots Q (mw ad cI cA σ F) lv pc (.int i :: .ref (ad 2) :: st) := jv_iald B hK 2 0 rfl rfl hi hd kk
theorem sd_m_2 (B : jv_B p c cc) (hK : va_K D jClasses (jTy cI cA cL) s) {i v : Int32} (hi : vp_in i 64) (hd : decode cc pc = .ok (.iastore, 1))
    (kk : jv_V p l e R s m args below meth c D jClasses A nL cells slots Q (mw ad cI cA (up2 σ 2 i.toNatClampNeg v) F) lv (pc + 1) st) : jv_V p l e R s m args below meth c D jClasses A nL cells slots Q (mw ad cI cA σ F) lv pc (.int v :: .int i :: .ref (ad 2) :: st) := jv_iast B hK 2 0 rfl rfl hi hd rfl kk
theorem ld_m_3 (B : jv_B p c cc) (hK : va_K D jClasses (jTy cI cA cL) s) {i : Int32} (hi : vp_in i 64) (hd : decode cc pc = .ok (.iaload, 1))
    (kk : jv_V p l e R s m args below meth c D jClasses A nL cells slots Q (mw ad cI cA σ F) lv (pc + 1) (.int (σ 3 i.toNatClampNeg) :: st)) : jv_V p l e R s m args below meth c D jClasses A nL cells slots Q (mw ad cI cA σ F) lv pc (.int i :: .ref (ad 3) :: st) := jv_iald B hK 3 0 rfl rfl hi hd kk
theorem sd_m_3 (B : jv_B p c cc) (hK : va_K D jClasses (jTy cI cA cL) s) {i v : Int32} (hi : vp_in i 64) (hd : decode cc pc = .ok (.iastore, 1))
    (kk : jv_V p l e R s m args below meth c D jClasses A nL cells slots Q (mw ad cI cA (up2 σ 3 i.toNatClampNeg v) F) lv (pc + 1) st) : jv_V p l e R s m args below meth c D jClasses A nL cells slots Q (mw ad cI cA σ F) lv pc (.int v :: .int i :: .ref (ad 3) :: st) := jv_iast B hK 3 0 rfl rfl hi hd rfl kk
theorem ld_m_4 (B : jv_B p c cc) (hK : va_K D jClasses (jTy cI cA cL) s) {i : Int32} (hi : vp_in i 64) (hd : decode cc pc = .ok (.iaload, 1))
    (kk : jv_V p l e R s m args below meth c D jClasses A nL cells slots Q (mw ad cI cA σ F) lv (pc + 1) (.int (σ 4 i.toNatClampNeg) :: st)) : jv_V p l e R s m args below meth c D jClasses A nL cells slots Q (mw ad cI cA σ F) lv pc (.int i :: .ref (ad 4) :: st) := jv_iald B hK 4 0 rfl rfl hi hd kk
theorem sd_m_4 (B : jv_B p c cc) (hK : va_K D jClasses (jTy cI cA cL) s) {i v : Int32} (hi : vp_in i 64) (hd : decode cc pc = .ok (.iastore, 1))
    (kk : jv_V p l e R s m args below meth c D jClasses A nL cells slots Q (mw ad cI cA (up2 σ 4 i.toNatClampNeg v) F) lv (pc + 1) st) : jv_V p l e R s m args below meth c D jClasses A nL cells slots Q (mw ad cI cA σ F) lv pc (.int v :: .int i :: .ref (ad 4) :: st) := jv_iast B hK 4 0 rfl rfl hi hd rfl kk
theorem ld_m_5 (B : jv_B p c cc) (hK : va_K D jClasses (jTy cI cA cL) s) {i : Int32} (hi : vp_in i 64) (hd : decode cc pc = .ok (.iaload, 1))
    (kk : jv_V p l e R s m args below meth c D jClasses A nL cells slots Q (mw ad cI cA σ F) lv (pc + 1) (.int (σ 5 i.toNatClampNeg) :: st)) : jv_V p l e R s m args below meth c D jClasses A nL cells slots Q (mw ad cI cA σ F) lv pc (.int i :: .ref (ad 5) :: st) := jv_iald B hK 5 0 rfl rfl hi hd kk
theorem sd_m_5 (B : jv_B p c cc) (hK : va_K D jClasses (jTy cI cA cL) s) {i v : Int32} (hi : vp_in i 64) (hd : decode cc pc = .ok (.iastore, 1))
    (kk : jv_V p l e R s m args below meth c D jClasses A nL cells slots Q (mw ad cI cA (up2 σ 5 i.toNatClampNeg v) F) lv (pc + 1) st) : jv_V p l e R s m args below meth c D jClasses A nL cells slots Q (mw ad cI cA σ F) lv pc (.int v :: .int i :: .ref (ad 5) :: st) := jv_iast B hK 5 0 rfl rfl hi hd rfl kk
theorem ld_m_6 (B : jv_B p c cc) (hK : va_K D jClasses (jTy cI cA cL) s) {i : Int32} (hi : vp_in i 280) (hd : decode cc pc = .ok (.iaload, 1))
    (kk : jv_V p l e R s m args below meth c D jClasses A nL cells slots Q (mw ad cI cA σ F) lv (pc + 1) (.int (σ 6 i.toNatClampNeg) :: st)) : jv_V p l e R s m args below meth c D jClasses A nL cells slots Q (mw ad cI cA σ F) lv pc (.int i :: .ref (ad 6) :: st) := jv_iald B hK 6 0 rfl rfl hi hd kk
theorem sd_m_6 (B : jv_B p c cc) (hK : va_K D jClasses (jTy cI cA cL) s) {i v : Int32} (hi : vp_in i 280) (hd : decode cc pc = .ok (.iastore, 1))
    (kk : jv_V p l e R s m args below meth c D jClasses A nL cells slots Q (mw ad cI cA (up2 σ 6 i.toNatClampNeg v) F) lv (pc + 1) st) : jv_V p l e R s m args below meth c D jClasses A nL cells slots Q (mw ad cI cA σ F) lv pc (.int v :: .int i :: .ref (ad 6) :: st) := jv_iast B hK 6 0 rfl rfl hi hd rfl kk
theorem ld_m_7 (B : jv_B p c cc) (hK : va_K D jClasses (jTy cI cA cL) s) {i : Int32} (hi : vp_in i 140) (hd : decode cc pc = .ok (.iaload, 1))
    (kk : jv_V p l e R s m args below meth c D jClasses A nL cells slots Q (mw ad cI cA σ F) lv (pc + 1) (.int (σ 7 i.toNatClampNeg) :: st)) : jv_V p l e R s m args below meth c D jClasses A nL cells slots Q (mw ad cI cA σ F) lv pc (.int i :: .ref (ad 7) :: st) := jv_iald B hK 7 0 rfl rfl hi hd kk
theorem sd_m_7 (B : jv_B p c cc) (hK : va_K D jClasses (jTy cI cA cL) s) {i v : Int32} (hi : vp_in i 140) (hd : decode cc pc = .ok (.iastore, 1))
    (kk : jv_V p l e R s m args below meth c D jClasses A nL cells slots Q (mw ad cI cA (up2 σ 7 i.toNatClampNeg v) F) lv (pc + 1) st) : jv_V p l e R s m args below meth c D jClasses A nL cells slots Q (mw ad cI cA σ F) lv pc (.int v :: .int i :: .ref (ad 7) :: st) := jv_iast B hK 7 0 rfl rfl hi hd rfl kk
theorem aa_c (B : jv_B p c cc) (hK : va_K D jClasses (jTy cI cA cL) s) {i : Int32} (hi : vp_in i 2) (hd : decode cc pc = .ok (.aaload, 1))
    (k0 : i = 0 → jv_V p l e R s m args below meth c D jClasses A nL cells slots Q (cw ad cI cA σ F) lv (pc + 1) (.ref (ad 11) :: st)) (k1 : ¬ i = 0 → jv_V p l e R s m args below meth c D jClasses A nL cells slots Q (cw ad cI cA σ F) lv (pc + 1) (.ref (ad 12) :: st)) : jv_V p l e R s m args below meth c D jClasses A nL cells slots Q (cw ad cI cA σ F) lv pc (.int i :: .ref (ad 10) :: st) := by
  have hi2 := hi
  obtain ⟨j, hj, rfl⟩ := vp_in_of hi (by decide)
  have hcl : (nI j).toNatClampNeg = j := nI_clamp (by omega)
  intro H locs ls hP hD hS hl
  have hP' : va_P D jClasses (cw ad cI cA σ F) H := hP
  have ha : (cw ad cI cA σ F)[10]? = some (ad 10, .inl (cA, 2, .inr (.inr (.inr (.inr (fun j => if j < 2 then some (ad (11 + j)) else none)))))) := rfl
  have hlt : (nI j).toNatClampNeg < 2 := by omega
  refine W.aald (v := va_rf (if (nI j).toNatClampNeg < 2 then some (ad (11 + (nI j).toNatClampNeg)) else none)) (ty := .array .int) B.1 B.2 (hP 10 _ ha) ((hK.2 1 _ rfl).1 2 (fun j => va_rf (if j < 2 then some (ad (11 + j)) else none))) rfl (fun q => by cases q) (by show ¬ (nI j < 0 ∨ (arrV _ _ _).slots.size ≤ _); rw [arrV_size]; exact hi2) (by show (arrV _ _ _).slots[_]? = _; rw [arrV_read _ _ hlt]) rfl rfl hd ?_
  rw [hcl]
  match j, hj with
  | 0, _ => exact k0 rfl H locs ls hP hD hS hl
  | 1, _ => exact k1 (by decide) H locs ls hP hD hS hl
end JW
end

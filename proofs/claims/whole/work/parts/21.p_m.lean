theorem ks_19 : Cond.selects rn_M y_M_isSector y_M_isSector ∈ wb := wb_s 19 (by decide +kernel) (by decide +kernel)
theorem ks_20 : Cond.selects rn_M y_M_enter y_M_enter ∈ wb := wb_s 20 (by decide +kernel) (by decide +kernel)
theorem ks_21 : Cond.selects rn_M y_M_goesOn y_M_goesOn ∈ wb := wb_s 21 (by decide +kernel) (by decide +kernel)
theorem ks_22 : Cond.selects rn_M y_M_one y_M_one ∈ wb := wb_s 22 (by decide +kernel) (by decide +kernel)
theorem ks_23 : Cond.selects rn_M y_M_find y_M_find ∈ wb := wb_s 23 (by decide +kernel) (by decide +kernel)
theorem ks_24 : Cond.selects rn_M y_M_firstIn y_M_firstIn ∈ wb := wb_s 24 (by decide +kernel) (by decide +kernel)
theorem ks_25 : Cond.selects rn_M y_M_lastIn y_M_lastIn ∈ wb := wb_s 25 (by decide +kernel) (by decide +kernel)
theorem ks_26 : Cond.selects rn_M y_M_findBad y_M_findBad ∈ wb := wb_s 26 (by decide +kernel) (by decide +kernel)
theorem ks_27 : Cond.selects rn_M y_M_work y_M_work ∈ wb := wb_s 27 (by decide +kernel) (by decide +kernel)
theorem ks_28 : Cond.selects rn_M y_M_reading y_M_reading ∈ wb := wb_s 28 (by decide +kernel) (by decide +kernel)
theorem ks_29 : Cond.selects rn_M y_M_mark y_M_mark ∈ wb := wb_s 29 (by decide +kernel) (by decide +kernel)
theorem ks_30 : Cond.selects rn_M y_M_trimmed y_M_trimmed ∈ wb := wb_s 30 (by decide +kernel) (by decide +kernel)
theorem ks_31 : Cond.selects rn_M y_M_makeImage y_M_makeImage ∈ wb := wb_s 31 (by decide +kernel) (by decide +kernel)
theorem ks_32 : Cond.selects rn_M y_M_put y_M_put ∈ wb := wb_s 32 (by decide +kernel) (by decide +kernel)
theorem ks_33 : Cond.selects rn_M y_M_runs y_M_runs ∈ wb := wb_s 33 (by decide +kernel) (by decide +kernel)
theorem ks_34 : Cond.selects rn_M y_M_endOf y_M_endOf ∈ wb := wb_s 34 (by decide +kernel) (by decide +kernel)
theorem ks_35 : Cond.selects rn_M y_M_write y_M_write ∈ wb := wb_s 35 (by decide +kernel) (by decide +kernel)
theorem ks_36 : Cond.selects rn_M y_M_isWhole y_M_isWhole ∈ wb := wb_s 36 (by decide +kernel) (by decide +kernel)
theorem ks_37 : Cond.selects rn_M y_M_at y_M_at ∈ wb := wb_s 37 (by decide +kernel) (by decide +kernel)
theorem kw_6 : Cond.initialized rn_M ∈ wb := wb_t 6 (by decide +kernel) (by decide +kernel)
theorem kw_642 : Cond.methodLink rn_M 50 y_M_isSector ∈ wb := wb_t 642 (by decide +kernel) (by decide +kernel)
theorem kw_644 : Cond.instanceMethod y_M_isSector ∈ wb := wb_t 644 (by decide +kernel) (by decide +kernel)
theorem kw_645 : Cond.code y_M_isSector b_M_isSector 2 (some .boolean) ∈ wb := wb_t 645 (by decide +kernel) (by decide +kernel)
theorem kw_650 : Cond.methodLink rn_M 76 y_M_enter ∈ wb := wb_t 650 (by decide +kernel) (by decide +kernel)
theorem kw_652 : Cond.instanceMethod y_M_enter ∈ wb := wb_t 652 (by decide +kernel) (by decide +kernel)
theorem kw_653 : Cond.code y_M_enter b_M_enter 2 none ∈ wb := wb_t 653 (by decide +kernel) (by decide +kernel)
theorem kw_658 : Cond.methodLink rn_M 108 y_M_goesOn ∈ wb := wb_t 658 (by decide +kernel) (by decide +kernel)
theorem kw_660 : Cond.instanceMethod y_M_goesOn ∈ wb := wb_t 660 (by decide +kernel) (by decide +kernel)
theorem kw_661 : Cond.code y_M_goesOn b_M_goesOn 1 (some .boolean) ∈ wb := wb_t 661 (by decide +kernel) (by decide +kernel)
theorem kw_662 : Cond.methodLink rn_M 111 y_M_one ∈ wb := wb_t 662 (by decide +kernel) (by decide +kernel)
theorem kw_664 : Cond.instanceMethod y_M_one ∈ wb := wb_t 664 (by decide +kernel) (by decide +kernel)
theorem kw_665 : Cond.code y_M_one b_M_one 2 (some .int) ∈ wb := wb_t 665 (by decide +kernel) (by decide +kernel)
theorem kw_666 : Cond.methodLink rn_M 102 y_M_find ∈ wb := wb_t 666 (by decide +kernel) (by decide +kernel)
theorem kw_668 : Cond.instanceMethod y_M_find ∈ wb := wb_t 668 (by decide +kernel) (by decide +kernel)
theorem kw_669 : Cond.code y_M_find b_M_find 2 (some .boolean) ∈ wb := wb_t 669 (by decide +kernel) (by decide +kernel)
theorem kw_670 : Cond.methodLink rn_M 80 y_M_firstIn ∈ wb := wb_t 670 (by decide +kernel) (by decide +kernel)
theorem kw_672 : Cond.instanceMethod y_M_firstIn ∈ wb := wb_t 672 (by decide +kernel) (by decide +kernel)
theorem kw_673 : Cond.code y_M_firstIn b_M_firstIn 4 (some .int) ∈ wb := wb_t 673 (by decide +kernel) (by decide +kernel)
theorem kw_674 : Cond.methodLink rn_M 84 y_M_lastIn ∈ wb := wb_t 674 (by decide +kernel) (by decide +kernel)
theorem kw_676 : Cond.instanceMethod y_M_lastIn ∈ wb := wb_t 676 (by decide +kernel) (by decide +kernel)
theorem kw_677 : Cond.code y_M_lastIn b_M_lastIn 4 (some .int) ∈ wb := wb_t 677 (by decide +kernel) (by decide +kernel)
theorem kw_678 : Cond.methodLink rn_M 87 y_M_findBad ∈ wb := wb_t 678 (by decide +kernel) (by decide +kernel)
theorem kw_680 : Cond.instanceMethod y_M_findBad ∈ wb := wb_t 680 (by decide +kernel) (by decide +kernel)
theorem kw_681 : Cond.code y_M_findBad b_M_findBad 2 (some .int) ∈ wb := wb_t 681 (by decide +kernel) (by decide +kernel)
theorem kw_682 : Cond.methodLink rn_M 105 y_M_work ∈ wb := wb_t 682 (by decide +kernel) (by decide +kernel)
theorem kw_684 : Cond.instanceMethod y_M_work ∈ wb := wb_t 684 (by decide +kernel) (by decide +kernel)
theorem kw_685 : Cond.code y_M_work b_M_work 2 none ∈ wb := wb_t 685 (by decide +kernel) (by decide +kernel)
theorem kw_686 : Cond.methodLink rn_M 91 y_M_reading ∈ wb := wb_t 686 (by decide +kernel) (by decide +kernel)
theorem kw_688 : Cond.instanceMethod y_M_reading ∈ wb := wb_t 688 (by decide +kernel) (by decide +kernel)
theorem kw_689 : Cond.code y_M_reading b_M_reading 3 (some .boolean) ∈ wb := wb_t 689 (by decide +kernel) (by decide +kernel)
theorem kw_690 : Cond.methodLink rn_M 95 y_M_mark ∈ wb := wb_t 690 (by decide +kernel) (by decide +kernel)
theorem kw_692 : Cond.instanceMethod y_M_mark ∈ wb := wb_t 692 (by decide +kernel) (by decide +kernel)
theorem kw_693 : Cond.code y_M_mark b_M_mark 3 none ∈ wb := wb_t 693 (by decide +kernel) (by decide +kernel)
theorem kw_694 : Cond.methodLink rn_M 98 y_M_trimmed ∈ wb := wb_t 694 (by decide +kernel) (by decide +kernel)
theorem kw_696 : Cond.instanceMethod y_M_trimmed ∈ wb := wb_t 696 (by decide +kernel) (by decide +kernel)
theorem kw_697 : Cond.code y_M_trimmed b_M_trimmed 4 none ∈ wb := wb_t 697 (by decide +kernel) (by decide +kernel)
theorem kw_706 : Cond.methodLink rn_M 127 y_M_next ∈ wb := wb_t 706 (by decide +kernel) (by decide +kernel)
theorem kw_707 : Cond.static y_M_next ∈ wb := wb_t 707 (by decide +kernel) (by decide +kernel)
theorem kw_708 : Cond.code y_M_next b_M_next 1 (some .int) ∈ wb := wb_t 708 (by decide +kernel) (by decide +kernel)
theorem kw_709 : Cond.methodLink rn_M 130 y_M_makeImage ∈ wb := wb_t 709 (by decide +kernel) (by decide +kernel)
theorem kw_711 : Cond.instanceMethod y_M_makeImage ∈ wb := wb_t 711 (by decide +kernel) (by decide +kernel)
theorem kw_712 : Cond.code y_M_makeImage b_M_makeImage 4 none ∈ wb := wb_t 712 (by decide +kernel) (by decide +kernel)
theorem kw_713 : Cond.methodLink rn_M 121 y_M_put ∈ wb := wb_t 713 (by decide +kernel) (by decide +kernel)
theorem kw_715 : Cond.instanceMethod y_M_put ∈ wb := wb_t 715 (by decide +kernel) (by decide +kernel)
theorem kw_716 : Cond.code y_M_put b_M_put 2 none ∈ wb := wb_t 716 (by decide +kernel) (by decide +kernel)
theorem kw_717 : Cond.methodLink rn_M 124 y_M_runs ∈ wb := wb_t 717 (by decide +kernel) (by decide +kernel)
theorem kw_719 : Cond.instanceMethod y_M_runs ∈ wb := wb_t 719 (by decide +kernel) (by decide +kernel)
theorem kw_720 : Cond.code y_M_runs b_M_runs 3 (some .int) ∈ wb := wb_t 720 (by decide +kernel) (by decide +kernel)
theorem kw_721 : Cond.methodLink rn_M 117 y_M_endOf ∈ wb := wb_t 721 (by decide +kernel) (by decide +kernel)
theorem kw_723 : Cond.instanceMethod y_M_endOf ∈ wb := wb_t 723 (by decide +kernel) (by decide +kernel)
theorem kw_724 : Cond.code y_M_endOf b_M_endOf 3 (some .int) ∈ wb := wb_t 724 (by decide +kernel) (by decide +kernel)
theorem kw_725 : Cond.methodLink rn_M 133 y_M_write ∈ wb := wb_t 725 (by decide +kernel) (by decide +kernel)
theorem kw_727 : Cond.instanceMethod y_M_write ∈ wb := wb_t 727 (by decide +kernel) (by decide +kernel)
theorem kw_728 : Cond.code y_M_write b_M_write 3 none ∈ wb := wb_t 728 (by decide +kernel) (by decide +kernel)
theorem kw_737 : Cond.methodLink rn_M 139 y_M_isWhole ∈ wb := wb_t 737 (by decide +kernel) (by decide +kernel)
theorem kw_739 : Cond.instanceMethod y_M_isWhole ∈ wb := wb_t 739 (by decide +kernel) (by decide +kernel)
theorem kw_740 : Cond.code y_M_isWhole b_M_isWhole 8 (some .boolean) ∈ wb := wb_t 740 (by decide +kernel) (by decide +kernel)
theorem kw_741 : Cond.methodLink rn_M 136 y_M_at ∈ wb := wb_t 741 (by decide +kernel) (by decide +kernel)
theorem kw_743 : Cond.instanceMethod y_M_at ∈ wb := wb_t 743 (by decide +kernel) (by decide +kernel)
theorem kw_744 : Cond.code y_M_at b_M_at 3 (some .int) ∈ wb := wb_t 744 (by decide +kernel) (by decide +kernel)
theorem hd_M_isSector : y_M_isSector.cls = rn_M ∧ y_M_isSector.cls ≠ "java/lang/invoke/MethodHandle" ∧ y_M_isSector.cls ≠ "java/lang/invoke/VarHandle" ∧ (parseMethodDescriptor y_M_isSector.desc).map (fun d => d.parameters.length) = some 1 := by decide +kernel
theorem g_M_50 : GoodIn wb (wsV rn_M 50 rn_M y_M_isSector (Cond.code y_M_isSector b_M_isSector 2 (some .boolean) :: wb)) := gw_V kw_642 kw_644 ks_19 kw_6 kw_645
theorem hd_M_enter : y_M_enter.cls = rn_M ∧ y_M_enter.cls ≠ "java/lang/invoke/MethodHandle" ∧ y_M_enter.cls ≠ "java/lang/invoke/VarHandle" ∧ (parseMethodDescriptor y_M_enter.desc).map (fun d => d.parameters.length) = some 1 := by decide +kernel
theorem g_M_76 : GoodIn wb (wsV rn_M 76 rn_M y_M_enter (Cond.code y_M_enter b_M_enter 2 none :: wb)) := gw_V kw_650 kw_652 ks_20 kw_6 kw_653
theorem hd_M_firstIn : y_M_firstIn.cls = rn_M ∧ y_M_firstIn.cls ≠ "java/lang/invoke/MethodHandle" ∧ y_M_firstIn.cls ≠ "java/lang/invoke/VarHandle" ∧ (parseMethodDescriptor y_M_firstIn.desc).map (fun d => d.parameters.length) = some 2 := by decide +kernel
theorem g_M_80 : GoodIn wb (wsV rn_M 80 rn_M y_M_firstIn (Cond.code y_M_firstIn b_M_firstIn 4 (some .int) :: wb)) := gw_V kw_670 kw_672 ks_24 kw_6 kw_673
theorem hd_M_lastIn : y_M_lastIn.cls = rn_M ∧ y_M_lastIn.cls ≠ "java/lang/invoke/MethodHandle" ∧ y_M_lastIn.cls ≠ "java/lang/invoke/VarHandle" ∧ (parseMethodDescriptor y_M_lastIn.desc).map (fun d => d.parameters.length) = some 2 := by decide +kernel
theorem g_M_84 : GoodIn wb (wsV rn_M 84 rn_M y_M_lastIn (Cond.code y_M_lastIn b_M_lastIn 4 (some .int) :: wb)) := gw_V kw_674 kw_676 ks_25 kw_6 kw_677
theorem hd_M_findBad : y_M_findBad.cls = rn_M ∧ y_M_findBad.cls ≠ "java/lang/invoke/MethodHandle" ∧ y_M_findBad.cls ≠ "java/lang/invoke/VarHandle" ∧ (parseMethodDescriptor y_M_findBad.desc).map (fun d => d.parameters.length) = some 0 := by decide +kernel
theorem g_M_87 : GoodIn wb (wsV rn_M 87 rn_M y_M_findBad (Cond.code y_M_findBad b_M_findBad 2 (some .int) :: wb)) := gw_V kw_678 kw_680 ks_26 kw_6 kw_681
theorem hd_M_reading : y_M_reading.cls = rn_M ∧ y_M_reading.cls ≠ "java/lang/invoke/MethodHandle" ∧ y_M_reading.cls ≠ "java/lang/invoke/VarHandle" ∧ (parseMethodDescriptor y_M_reading.desc).map (fun d => d.parameters.length) = some 0 := by decide +kernel
theorem g_M_91 : GoodIn wb (wsV rn_M 91 rn_M y_M_reading (Cond.code y_M_reading b_M_reading 3 (some .boolean) :: wb)) := gw_V kw_686 kw_688 ks_28 kw_6 kw_689
theorem hd_M_mark : y_M_mark.cls = rn_M ∧ y_M_mark.cls ≠ "java/lang/invoke/MethodHandle" ∧ y_M_mark.cls ≠ "java/lang/invoke/VarHandle" ∧ (parseMethodDescriptor y_M_mark.desc).map (fun d => d.parameters.length) = some 1 := by decide +kernel
theorem g_M_95 : GoodIn wb (wsV rn_M 95 rn_M y_M_mark (Cond.code y_M_mark b_M_mark 3 none :: wb)) := gw_V kw_690 kw_692 ks_29 kw_6 kw_693
theorem hd_M_trimmed : y_M_trimmed.cls = rn_M ∧ y_M_trimmed.cls ≠ "java/lang/invoke/MethodHandle" ∧ y_M_trimmed.cls ≠ "java/lang/invoke/VarHandle" ∧ (parseMethodDescriptor y_M_trimmed.desc).map (fun d => d.parameters.length) = some 1 := by decide +kernel
theorem g_M_98 : GoodIn wb (wsV rn_M 98 rn_M y_M_trimmed (Cond.code y_M_trimmed b_M_trimmed 4 none :: wb)) := gw_V kw_694 kw_696 ks_30 kw_6 kw_697
theorem hd_M_find : y_M_find.cls = rn_M ∧ y_M_find.cls ≠ "java/lang/invoke/MethodHandle" ∧ y_M_find.cls ≠ "java/lang/invoke/VarHandle" ∧ (parseMethodDescriptor y_M_find.desc).map (fun d => d.parameters.length) = some 0 := by decide +kernel
theorem g_M_102 : GoodIn wb (wsV rn_M 102 rn_M y_M_find (Cond.code y_M_find b_M_find 2 (some .boolean) :: wb)) := gw_V kw_666 kw_668 ks_23 kw_6 kw_669
theorem hd_M_work : y_M_work.cls = rn_M ∧ y_M_work.cls ≠ "java/lang/invoke/MethodHandle" ∧ y_M_work.cls ≠ "java/lang/invoke/VarHandle" ∧ (parseMethodDescriptor y_M_work.desc).map (fun d => d.parameters.length) = some 0 := by decide +kernel
theorem g_M_105 : GoodIn wb (wsV rn_M 105 rn_M y_M_work (Cond.code y_M_work b_M_work 2 none :: wb)) := gw_V kw_682 kw_684 ks_27 kw_6 kw_685
theorem hd_M_goesOn : y_M_goesOn.cls = rn_M ∧ y_M_goesOn.cls ≠ "java/lang/invoke/MethodHandle" ∧ y_M_goesOn.cls ≠ "java/lang/invoke/VarHandle" ∧ (parseMethodDescriptor y_M_goesOn.desc).map (fun d => d.parameters.length) = some 0 := by decide +kernel
theorem g_M_108 : GoodIn wb (wsV rn_M 108 rn_M y_M_goesOn (Cond.code y_M_goesOn b_M_goesOn 1 (some .boolean) :: wb)) := gw_V kw_658 kw_660 ks_21 kw_6 kw_661
theorem hd_M_one : y_M_one.cls = rn_M ∧ y_M_one.cls ≠ "java/lang/invoke/MethodHandle" ∧ y_M_one.cls ≠ "java/lang/invoke/VarHandle" ∧ (parseMethodDescriptor y_M_one.desc).map (fun d => d.parameters.length) = some 0 := by decide +kernel
theorem g_M_111 : GoodIn wb (wsV rn_M 111 rn_M y_M_one (Cond.code y_M_one b_M_one 2 (some .int) :: wb)) := gw_V kw_662 kw_664 ks_22 kw_6 kw_665
theorem hd_M_endOf : y_M_endOf.cls = rn_M ∧ y_M_endOf.cls ≠ "java/lang/invoke/MethodHandle" ∧ y_M_endOf.cls ≠ "java/lang/invoke/VarHandle" ∧ (parseMethodDescriptor y_M_endOf.desc).map (fun d => d.parameters.length) = some 1 := by decide +kernel
theorem g_M_117 : GoodIn wb (wsV rn_M 117 rn_M y_M_endOf (Cond.code y_M_endOf b_M_endOf 3 (some .int) :: wb)) := gw_V kw_721 kw_723 ks_34 kw_6 kw_724
theorem hd_M_put : y_M_put.cls = rn_M ∧ y_M_put.cls ≠ "java/lang/invoke/MethodHandle" ∧ y_M_put.cls ≠ "java/lang/invoke/VarHandle" ∧ (parseMethodDescriptor y_M_put.desc).map (fun d => d.parameters.length) = some 1 := by decide +kernel
theorem g_M_121 : GoodIn wb (wsV rn_M 121 rn_M y_M_put (Cond.code y_M_put b_M_put 2 none :: wb)) := gw_V kw_713 kw_715 ks_32 kw_6 kw_716
theorem hd_M_runs : y_M_runs.cls = rn_M ∧ y_M_runs.cls ≠ "java/lang/invoke/MethodHandle" ∧ y_M_runs.cls ≠ "java/lang/invoke/VarHandle" ∧ (parseMethodDescriptor y_M_runs.desc).map (fun d => d.parameters.length) = some 0 := by decide +kernel
theorem g_M_124 : GoodIn wb (wsV rn_M 124 rn_M y_M_runs (Cond.code y_M_runs b_M_runs 3 (some .int) :: wb)) := gw_V kw_717 kw_719 ks_33 kw_6 kw_720
theorem hd_M_next : y_M_next.cls = rn_M ∧ y_M_next.cls ≠ "java/lang/invoke/MethodHandle" ∧ y_M_next.cls ≠ "java/lang/invoke/VarHandle" ∧ (parseMethodDescriptor y_M_next.desc).map (fun d => d.parameters.length) = some 1 := by decide +kernel
theorem g_M_127 : GoodIn wb (wsS rn_M 127 y_M_next (Cond.code y_M_next b_M_next 1 (some .int) :: wb)) := gw_S kw_706 kw_707 kw_6 kw_708
theorem hd_M_makeImage : y_M_makeImage.cls = rn_M ∧ y_M_makeImage.cls ≠ "java/lang/invoke/MethodHandle" ∧ y_M_makeImage.cls ≠ "java/lang/invoke/VarHandle" ∧ (parseMethodDescriptor y_M_makeImage.desc).map (fun d => d.parameters.length) = some 1 := by decide +kernel
theorem g_M_130 : GoodIn wb (wsV rn_M 130 rn_M y_M_makeImage (Cond.code y_M_makeImage b_M_makeImage 4 none :: wb)) := gw_V kw_709 kw_711 ks_31 kw_6 kw_712
theorem hd_M_write : y_M_write.cls = rn_M ∧ y_M_write.cls ≠ "java/lang/invoke/MethodHandle" ∧ y_M_write.cls ≠ "java/lang/invoke/VarHandle" ∧ (parseMethodDescriptor y_M_write.desc).map (fun d => d.parameters.length) = some 1 := by decide +kernel
theorem g_M_133 : GoodIn wb (wsV rn_M 133 rn_M y_M_write (Cond.code y_M_write b_M_write 3 none :: wb)) := gw_V kw_725 kw_727 ks_35 kw_6 kw_728
theorem hd_M_at : y_M_at.cls = rn_M ∧ y_M_at.cls ≠ "java/lang/invoke/MethodHandle" ∧ y_M_at.cls ≠ "java/lang/invoke/VarHandle" ∧ (parseMethodDescriptor y_M_at.desc).map (fun d => d.parameters.length) = some 2 := by decide +kernel
theorem g_M_136 : GoodIn wb (wsV rn_M 136 rn_M y_M_at (Cond.code y_M_at b_M_at 3 (some .int) :: wb)) := gw_V kw_741 kw_743 ks_37 kw_6 kw_744
theorem hd_M_isWhole : y_M_isWhole.cls = rn_M ∧ y_M_isWhole.cls ≠ "java/lang/invoke/MethodHandle" ∧ y_M_isWhole.cls ≠ "java/lang/invoke/VarHandle" ∧ (parseMethodDescriptor y_M_isWhole.desc).map (fun d => d.parameters.length) = some 1 := by decide +kernel
theorem g_M_139 : GoodIn wb (wsV rn_M 139 rn_M y_M_isWhole (Cond.code y_M_isWhole b_M_isWhole 8 (some .boolean) :: wb)) := gw_V kw_737 kw_739 ks_36 kw_6 kw_740
def p_M_thrown (σ : jS) (post : Int32 → jS → Prop) : Prop :=
  post (σ 0 0) σ
def p_M_goesOn (σ : jS) (post : Int32 → jS → Prop) : Prop :=
  ((σ 0 8) < 0 → bz 0 ∧ post 0 σ) ∧ (¬ (σ 0 8) < 0 → ((7 : Int32) ≤ (σ 0 8) → bz 0 ∧ post 0 σ) ∧ (¬ (7 : Int32) ≤ (σ 0 8) → bz 1 ∧ post 1 σ))
def p_M_source_89 (post : jS → Prop) (v1 : Int32) : Nat → jS → Int32 → Prop
  | 0, _, _ => False
  | n + 1, σ, v2 =>
    ((280 : Int32) ≤ v2 → post (up2 (up2 (up2 σ 0 6 0) 0 7 0) 0 17 0)) ∧ (¬ (280 : Int32) ≤ v2 → vp_in v2 280 ∧ p_M_source_89 post v1 n (up2 σ 6 v2.toNatClampNeg 0) (v2 + 1))
def p_M_source_40 (post : jS → Prop) (v1 : Int32) : Nat → jS → Int32 → Prop
  | 0, _, _ => False
  | n + 1, σ, v2 =>
    ((64 : Int32) ≤ v2 → ∃ n9, p_M_source_89 post v1 n9 σ 0) ∧ (¬ (64 : Int32) ≤ v2 → vp_in v2 64 ∧ vp_in v2 64 ∧ vp_in v2 64 ∧ vp_in v2 64 ∧ vp_in v2 64 ∧ p_M_source_40 post v1 n (up2 (up2 (up2 (up2 (up2 σ 1 v2.toNatClampNeg 0) 2 v2.toNatClampNeg 0) 3 v2.toNatClampNeg 0) 4 v2.toNatClampNeg 0) 5 v2.toNatClampNeg 0) (v2 + 1))
def p_M_source_17 (post : jS → Prop) (v1 : Int32) (σ : jS) (y0 : Int32) : Prop :=
  (((up2 σ 0 0 y0) 0 0) = 0 → ∃ n9, p_M_source_40 post v1 n9 (up2 (up2 (up2 σ 0 0 y0) 0 1 v1) 0 8 (-1)) 0) ∧ (¬ ((up2 σ 0 0 y0) 0 0) = 0 → post (up2 σ 0 0 y0))
def p_M_source_12 (post : jS → Prop) (v1 : Int32) (σ : jS) : Prop :=
  p_M_source_17 post v1 σ 1
def p_M_source (σ : jS) (v1 : Int32) (post : jS → Prop) : Prop :=
  (v1 < (1 : Int32) → p_M_source_12 post v1 σ) ∧ (¬ v1 < (1 : Int32) → (v1 ≤ (64 : Int32) → p_M_source_17 post v1 σ 0) ∧ (¬ v1 ≤ (64 : Int32) → p_M_source_12 post v1 σ))
def p_M_isSector (σ : jS) (v1 : Int32) (post : Int32 → jS → Prop) : Prop :=
  (v1 < 0 → bz 0 ∧ post 0 σ) ∧ (¬ v1 < 0 → ((σ 0 1) ≤ v1 → bz 0 ∧ post 0 σ) ∧ (¬ (σ 0 1) ≤ v1 → bz 1 ∧ post 1 σ))
def p_M_sector_25 (post : jS → Prop) (v1 : Int32) (v2 : Int32) (v3 : Int32) (σ : jS) (y0 : Int32) : Prop :=
  (((up2 σ 0 0 y0) 0 0) = 0 → vp_in v1 64 ∧ vp_in v1 64 ∧ post (up2 (up2 (up2 σ 0 0 y0) 1 v1.toNatClampNeg v2) 2 v1.toNatClampNeg v3)) ∧ (¬ ((up2 σ 0 0 y0) 0 0) = 0 → post (up2 σ 0 0 y0))
def p_M_sector_20 (post : jS → Prop) (v1 : Int32) (v2 : Int32) (v3 : Int32) (σ : jS) : Prop :=
  p_M_sector_25 post v1 v2 v3 σ 1
def p_M_sector (σ : jS) (v1 : Int32) (v2 : Int32) (v3 : Int32) (post : jS → Prop) : Prop :=
  p_M_isSector σ v1 (fun r2 σ1 => (r2 = 0 → p_M_sector_20 post v1 v2 v3 σ1) ∧ (¬ r2 = 0 → (v3 < ((-1) : Int32) → p_M_sector_20 post v1 v2 v3 σ1) ∧ (¬ v3 < ((-1) : Int32) → (v3 ≤ (9 : Int32) → p_M_sector_25 post v1 v2 v3 σ1 0) ∧ (¬ v3 ≤ (9 : Int32) → p_M_sector_20 post v1 v2 v3 σ1))))
def p_M_reading_121 (post : Int32 → jS → Prop) (σ : jS) (v1 : Int32) : Prop :=
  (¬ v1 = 0 → bz v1 ∧ post v1 σ) ∧ (v1 = 0 → bz v1 ∧ post v1 (up2 σ 0 7 ((σ 0 7) + 1)))
def p_M_reading_84 (post : Int32 → jS → Prop) : Nat → jS → Int32 → Int32 → Prop
  | 0, _, _, _ => False
  | n + 1, σ, v1, v2 =>
    ((σ 0 16) ≤ v2 → p_M_reading_121 post σ v1) ∧ (¬ (σ 0 16) ≤ v2 → (v1 = 0 → p_M_reading_121 post σ v1) ∧ (¬ v1 = 0 → vp_in v2 64 ∧ vp_in v2 64 ∧ vp_in v2 64 ∧ p_M_reading_84 post n (up2 (up2 σ 4 v2.toNatClampNeg (σ 1 v2.toNatClampNeg)) 5 v2.toNatClampNeg 4) v1 (v2 + 1)))
def p_M_reading_79 (post : Int32 → jS → Prop) (σ : jS) (v1 : Int32) : Prop :=
  ∃ n9, p_M_reading_84 post n9 σ v1 (σ 0 15)
def p_M_reading_73 (post : Int32 → jS → Prop) (k17 : jS → Int32 → Int32 → Prop) (σ : jS) (v1 : Int32) (v2 : Int32) : Prop :=
  k17 σ v1 (v2 + 1)
def p_M_reading_53 (post : Int32 → jS → Prop) (k17 : jS → Int32 → Int32 → Prop) (σ : jS) (v2 : Int32) (y0 : Int32) : Prop :=
  vp_in v2 64 ∧ ((σ 2 v2.toNatClampNeg) ≤ 0 → p_M_reading_73 post k17 σ y0 v2) ∧ (¬ (σ 2 v2.toNatClampNeg) ≤ 0 → vp_in v2 64 ∧ vp_in v2 64 ∧ p_M_reading_73 post k17 (up2 σ 2 v2.toNatClampNeg ((σ 2 v2.toNatClampNeg) - 1)) y0 v2)
def p_M_reading_17 (post : Int32 → jS → Prop) : Nat → jS → Int32 → Int32 → Prop
  | 0, _, _, _ => False
  | n + 1, σ, v1, v2 =>
    ((σ 0 16) ≤ v2 → p_M_reading_79 post σ v1) ∧ (¬ (σ 0 16) ≤ v2 → (v1 = 0 → p_M_reading_79 post σ v1) ∧ (¬ v1 = 0 → vp_in v2 64 ∧ vp_in v2 64 ∧ vp_in v2 64 ∧ (¬ ((up2 σ 3 v2.toNatClampNeg ((σ 3 v2.toNatClampNeg) + 1)) 2 v2.toNatClampNeg) = 0 → p_M_reading_53 post (p_M_reading_17 post n) (up2 σ 3 v2.toNatClampNeg ((σ 3 v2.toNatClampNeg) + 1)) v2 0) ∧ (((up2 σ 3 v2.toNatClampNeg ((σ 3 v2.toNatClampNeg) + 1)) 2 v2.toNatClampNeg) = 0 → p_M_reading_53 post (p_M_reading_17 post n) (up2 σ 3 v2.toNatClampNeg ((σ 3 v2.toNatClampNeg) + 1)) v2 1)))
def p_M_reading (σ : jS) (post : Int32 → jS → Prop) : Prop :=
  ∃ n9, p_M_reading_17 post n9 (up2 σ 0 6 ((σ 0 6) + 1)) 1 ((up2 σ 0 6 ((σ 0 6) + 1)) 0 15)
def p_M_enter_19 (post : jS → Prop) (v1 : Int32) (σ : jS) (y0 : Int32) : Prop :=
  bz 0 ∧ post (up2 (up2 (up2 (up2 σ 0 11 y0) 0 12 8) 0 13 0) 0 14 0)
def p_M_enter (σ : jS) (v1 : Int32) (post : jS → Prop) : Prop :=
  (¬ v1 = (1 : Int32) → p_M_enter_19 post v1 (up2 σ 0 8 v1) 0) ∧ (v1 = (1 : Int32) → p_M_enter_19 post v1 (up2 σ 0 8 v1) ((up2 σ 0 8 v1) 0 1))
def p_M_begin_52 (post : jS → Prop) (v1 : Int32) : Nat → jS → Int32 → Prop
  | 0, _, _ => False
  | n + 1, σ, v2 =>
    ((64 : Int32) ≤ v2 → p_M_enter σ 0 (fun σ1 => post σ1)) ∧ (¬ (64 : Int32) ≤ v2 → vp_in v2 64 ∧ p_M_begin_52 post v1 n (up2 σ 5 v2.toNatClampNeg 0) (v2 + 1))
def p_M_begin_34 (post : jS → Prop) (v1 : Int32) (σ : jS) (y0 : Int32) : Prop :=
  (((up2 σ 0 0 y0) 0 0) = 0 → ∃ n9, p_M_begin_52 post v1 n9 (up2 (up2 σ 0 0 y0) 0 9 v1) 0) ∧ (¬ ((up2 σ 0 0 y0) 0 0) = 0 → post (up2 σ 0 0 y0))
def p_M_begin_10 (post : jS → Prop) (v1 : Int32) (σ : jS) : Prop :=
  p_M_begin_34 post v1 σ 1
def p_M_begin_29 (post : jS → Prop) (v1 : Int32) (σ : jS) : Prop :=
  p_M_begin_34 post v1 σ 2
def p_M_begin (σ : jS) (v1 : Int32) (post : jS → Prop) : Prop :=
  (v1 < 0 → p_M_begin_10 post v1 σ) ∧ (¬ v1 < 0 → (v1 ≤ (5 : Int32) → ((σ 0 1) = 0 → p_M_begin_29 post v1 σ) ∧ (¬ (σ 0 1) = 0 → ((σ 0 8) = ((-1) : Int32) → p_M_begin_34 post v1 σ 0) ∧ (¬ (σ 0 8) = ((-1) : Int32) → p_M_begin_29 post v1 σ))) ∧ (¬ v1 ≤ (5 : Int32) → p_M_begin_10 post v1 σ))
def p_M_firstIn_10 (post : Int32 → jS → Prop) (v1 : Int32) (v2 : Int32) : Nat → jS → Int32 → Prop
  | 0, _, _ => False
  | n + 1, σ, v3 =>
    ((σ 0 1) ≤ v3 → post (-1) σ) ∧ (¬ (σ 0 1) ≤ v3 → vp_in v3 64 ∧ (¬ (σ 5 v3.toNatClampNeg) = v1 → p_M_firstIn_10 post v1 v2 n σ (v3 + 1)) ∧ ((σ 5 v3.toNatClampNeg) = v1 → post v3 σ))
def p_M_firstIn_9 (post : Int32 → jS → Prop) (v1 : Int32) (v2 : Int32) (σ : jS) (y0 : Int32) : Prop :=
  ∃ n9, p_M_firstIn_10 post v1 v2 n9 σ y0
def p_M_firstIn (σ : jS) (v1 : Int32) (v2 : Int32) (post : Int32 → jS → Prop) : Prop :=
  (0 ≤ v2 → p_M_firstIn_9 post v1 v2 σ v2) ∧ (¬ 0 ≤ v2 → p_M_firstIn_9 post v1 v2 σ 0)
def p_M_lastIn_21 (post : Int32 → jS → Prop) (v1 : Int32) (v2 : Int32) : Nat → jS → Int32 → Prop
  | 0, _, _ => False
  | n + 1, σ, v3 =>
    (v3 < 0 → post (-1) σ) ∧ (¬ v3 < 0 → vp_in v3 64 ∧ (¬ (σ 5 v3.toNatClampNeg) = v1 → p_M_lastIn_21 post v1 v2 n σ (v3 + (-1))) ∧ ((σ 5 v3.toNatClampNeg) = v1 → post v3 σ))
def p_M_lastIn_20 (post : Int32 → jS → Prop) (v1 : Int32) (v2 : Int32) (σ : jS) (y0 : Int32) : Prop :=
  ∃ n9, p_M_lastIn_21 post v1 v2 n9 σ y0
def p_M_lastIn (σ : jS) (v1 : Int32) (v2 : Int32) (post : Int32 → jS → Prop) : Prop :=
  (v2 ≤ (σ 0 1) → p_M_lastIn_20 post v1 v2 σ (v2 - 1)) ∧ (¬ v2 ≤ (σ 0 1) → p_M_lastIn_20 post v1 v2 σ ((σ 0 1) - 1))
def p_M_findBad_92 (post : Int32 → jS → Prop) (k2 : jS → Int32 → Prop) (σ : jS) (v1 : Int32) (y0 : Int32) : Prop :=
  k2 (up2 σ 0 11 y0) v1
def p_M_findBad_56 (post : Int32 → jS → Prop) (k2 : jS → Int32 → Prop) (σ : jS) (y0 : Int32) : Prop :=
  (y0 < 0 → (¬ (((up2 σ 0 13 ((σ 0 13) + 1)) 0 13) - ((up2 σ 0 13 ((σ 0 13) + 1)) 0 13) / 2 * 2) = 0 → p_M_findBad_92 post k2 (up2 σ 0 13 ((σ 0 13) + 1)) y0 ((up2 σ 0 13 ((σ 0 13) + 1)) 0 1)) ∧ ((((up2 σ 0 13 ((σ 0 13) + 1)) 0 13) - ((up2 σ 0 13 ((σ 0 13) + 1)) 0 13) / 2 * 2) = 0 → p_M_findBad_92 post k2 (up2 σ 0 13 ((σ 0 13) + 1)) y0 0)) ∧ (¬ y0 < 0 → k2 σ y0)
def p_M_findBad_2 (post : Int32 → jS → Prop) : Nat → jS → Int32 → Prop
  | 0, _, _ => False
  | n + 1, σ, v1 =>
    ((σ 0 9) ≤ (σ 0 13) → post v1 σ) ∧ (¬ (σ 0 9) ≤ (σ 0 13) → (0 ≤ v1 → post v1 σ) ∧ (¬ 0 ≤ v1 → p_M_firstIn σ 3 0 (fun r2 σ1 => (r2 < 0 → post v1 σ1) ∧ (¬ r2 < 0 → (¬ ((σ1 0 13) - (σ1 0 13) / 2 * 2) = 0 → p_M_lastIn σ1 3 (σ1 0 11) (fun r4 σ3 => p_M_findBad_56 post (p_M_findBad_2 post n) σ3 r4)) ∧ (((σ1 0 13) - (σ1 0 13) / 2 * 2) = 0 → p_M_firstIn σ1 3 (σ1 0 11) (fun r6 σ5 => p_M_findBad_56 post (p_M_findBad_2 post n) σ5 r6))))))
def p_M_findBad (σ : jS) (post : Int32 → jS → Prop) : Prop :=
  ∃ n9, p_M_findBad_2 post n9 σ (-1)
def p_M_find_86 (post : Int32 → jS → Prop) (σ : jS) (v1 : Int32) : Prop :=
  (v1 < 0 → bz 0 ∧ post 0 σ) ∧ (¬ v1 < 0 → bz 1 ∧ post 1 σ)
def p_M_find_35 (post : Int32 → jS → Prop) : Nat → jS → Int32 → Prop
  | 0, _, _ => False
  | n + 1, σ, v1 =>
    (v1 < 0 → p_M_find_86 post σ v1) ∧ (¬ v1 < 0 → ((σ 0 1) ≤ (σ 0 16) → p_M_find_86 post σ v1) ∧ (¬ (σ 0 1) ≤ (σ 0 16) → ((v1 + 8) ≤ (σ 0 16) → p_M_find_86 post σ v1) ∧ (¬ (v1 + 8) ≤ (σ 0 16) → vp_in (σ 0 16) 64 ∧ (¬ (σ 5 (σ 0 16).toNatClampNeg) = 0 → p_M_find_86 post σ v1) ∧ ((σ 5 (σ 0 16).toNatClampNeg) = 0 → p_M_find_35 post n (up2 σ 0 16 ((σ 0 16) + 1)) v1))))
def p_M_find_15 (post : Int32 → jS → Prop) (σ : jS) : Prop :=
  p_M_firstIn σ 0 (σ 0 11) (fun r2 σ1 => ∃ n9, p_M_find_35 post n9 (up2 (up2 σ1 0 15 r2) 0 16 r2) r2)
def p_M_find_262 (post : Int32 → jS → Prop) (σ : jS) (v1 : Int32) : Prop :=
  (v1 < 0 → bz 0 ∧ post 0 (up2 (up2 σ 0 15 v1) 0 16 (v1 + 1))) ∧ (¬ v1 < 0 → bz 1 ∧ post 1 (up2 (up2 σ 0 15 v1) 0 16 (v1 + 1)))
def p_M_find_200 (post : Int32 → jS → Prop) : Nat → jS → Int32 → Prop
  | 0, _, _ => False
  | n + 1, σ, v1 =>
    ((σ 0 14) = 0 → p_M_find_262 post σ v1) ∧ (¬ (σ 0 14) = 0 → (v1 < 0 → p_M_find_262 post σ v1) ∧ (¬ v1 < 0 → ((σ 0 1) ≤ (v1 + 1) → p_M_find_262 post σ v1) ∧ (¬ (σ 0 1) ≤ (v1 + 1) → vp_in (v1 + 1) 64 ∧ (¬ (σ 5 (v1 + 1).toNatClampNeg) = (1 : Int32) → p_M_find_262 post σ v1) ∧ ((σ 5 (v1 + 1).toNatClampNeg) = (1 : Int32) → p_M_find_200 post n σ (v1 + 1)))))
def p_M_find_175 (post : Int32 → jS → Prop) (σ : jS) (v1 : Int32) : Prop :=
  (v1 < 0 → bz 0 ∧ post 0 σ) ∧ (¬ v1 < 0 → bz 1 ∧ post 1 σ)
def p_M_find_126 (post : Int32 → jS → Prop) : Nat → jS → Int32 → Prop
  | 0, _, _ => False
  | n + 1, σ, v1 =>
    (v1 < 0 → p_M_find_175 post σ v1) ∧ (¬ v1 < 0 → ((σ 0 15) ≤ 0 → p_M_find_175 post σ v1) ∧ (¬ (σ 0 15) ≤ 0 → ((σ 0 15) ≤ (v1 - 7) → p_M_find_175 post σ v1) ∧ (¬ (σ 0 15) ≤ (v1 - 7) → vp_in ((σ 0 15) - 1) 64 ∧ (¬ (σ 5 ((σ 0 15) - 1).toNatClampNeg) = 0 → p_M_find_175 post σ v1) ∧ ((σ 5 ((σ 0 15) - 1).toNatClampNeg) = 0 → p_M_find_126 post n (up2 σ 0 15 ((σ 0 15) - 1)) v1))))
def p_M_find (σ : jS) (post : Int32 → jS → Prop) : Prop :=
  ((σ 0 8) = 0 → p_M_find_15 post σ) ∧ (¬ (σ 0 8) = 0 → (¬ (σ 0 8) = (2 : Int32) → (¬ (σ 0 8) = (1 : Int32) → (¬ (σ 0 8) = (3 : Int32) → (¬ (σ 0 8) = (4 : Int32) → p_M_findBad σ (fun r4 σ3 => p_M_find_262 post σ3 r4)) ∧ ((σ 0 8) = (4 : Int32) → p_M_firstIn σ 2 0 (fun r6 σ5 => p_M_find_262 post σ5 r6))) ∧ ((σ 0 8) = (3 : Int32) → p_M_firstIn σ 1 0 (fun r8 σ7 => ∃ n9, p_M_find_200 post n9 σ7 r8))) ∧ ((σ 0 8) = (1 : Int32) → p_M_lastIn σ 0 (σ 0 11) (fun r10 σ9 => ∃ n9, p_M_find_126 post n9 (up2 (up2 σ9 0 15 r10) 0 16 (r10 + 1)) r10))) ∧ ((σ 0 8) = (2 : Int32) → p_M_find_15 post σ))
def p_M_mark_5 (post : jS → Prop) (v1 : Int32) : Nat → jS → Int32 → Prop
  | 0, _, _ => False
  | n + 1, σ, v2 =>
    ((σ 0 16) ≤ v2 → post σ) ∧ (¬ (σ 0 16) ≤ v2 → vp_in v2 64 ∧ p_M_mark_5 post v1 n (up2 σ 5 v2.toNatClampNeg v1) (v2 + 1))
def p_M_mark (σ : jS) (v1 : Int32) (post : jS → Prop) : Prop :=
  ∃ n9, p_M_mark_5 post v1 n9 σ (σ 0 15)
def p_M_trimmed_129 (post : jS → Prop) (v1 : Int32) (σ : jS) (v2 : Int32) : Prop :=
  (v1 = 0 → bz 0 ∧ post (up2 σ 0 14 0)) ∧ (¬ v1 = 0 → (v2 = 0 → bz 0 ∧ post (up2 σ 0 14 0)) ∧ (¬ v2 = 0 → bz 1 ∧ post (up2 σ 0 14 1)))
def p_M_trimmed_98 (post : jS → Prop) (v1 : Int32) : Nat → jS → Int32 → Int32 → Prop
  | 0, _, _, _ => False
  | n + 1, σ, v2, v3 =>
    (¬ v1 = 0 → p_M_trimmed_129 post v1 σ v2) ∧ (v1 = 0 → (v3 < 0 → p_M_trimmed_129 post v1 σ v2) ∧ (¬ v3 < 0 → vp_in v3 64 ∧ (¬ (σ 5 v3.toNatClampNeg) = (1 : Int32) → p_M_trimmed_129 post v1 σ v2) ∧ ((σ 5 v3.toNatClampNeg) = (1 : Int32) → vp_in v3 64 ∧ p_M_trimmed_98 post v1 n (up2 σ 5 v3.toNatClampNeg 2) v2 (v3 + (-1)))))
def p_M_trimmed_90 (post : jS → Prop) (v1 : Int32) (σ : jS) (y0 : Int32) : Prop :=
  ∃ n9, p_M_trimmed_98 post v1 n9 σ y0 ((σ 0 15) - 1)
def p_M_trimmed_89 (post : jS → Prop) (v1 : Int32) (σ : jS) : Prop :=
  p_M_trimmed_90 post v1 σ 0
def p_M_trimmed_14 (post : jS → Prop) (v1 : Int32) (σ : jS) : Prop :=
  (¬ (σ 0 14) = 0 → ((σ 0 15) ≤ 0 → p_M_trimmed_89 post v1 σ) ∧ (¬ (σ 0 15) ≤ 0 → vp_in ((σ 0 15) - 1) 64 ∧ (¬ (σ 5 ((σ 0 15) - 1).toNatClampNeg) = (1 : Int32) → p_M_trimmed_89 post v1 σ) ∧ ((σ 5 ((σ 0 15) - 1).toNatClampNeg) = (1 : Int32) → p_M_trimmed_90 post v1 σ 1))) ∧ ((σ 0 14) = 0 → (¬ v1 = 0 → bz 0 ∧ post (up2 σ 0 14 0)) ∧ (v1 = 0 → ((σ 0 1) ≤ ((σ 0 15) + 1) → bz 0 ∧ post (up2 σ 0 14 0)) ∧ (¬ (σ 0 1) ≤ ((σ 0 15) + 1) → vp_in ((σ 0 15) + 1) 64 ∧ (¬ (σ 5 ((σ 0 15) + 1).toNatClampNeg) = (1 : Int32) → bz 0 ∧ post (up2 σ 0 14 0)) ∧ ((σ 5 ((σ 0 15) + 1).toNatClampNeg) = (1 : Int32) → bz 1 ∧ post (up2 σ 0 14 1)))))
def p_M_trimmed (σ : jS) (v1 : Int32) (post : jS → Prop) : Prop :=
  (¬ v1 = 0 → p_M_trimmed_14 post v1 σ) ∧ (v1 = 0 → vp_in (σ 0 15) 64 ∧ p_M_trimmed_14 post v1 (up2 σ 5 (σ 0 15).toNatClampNeg 3))
def p_M_work_165 (post : jS → Prop) (σ : jS) : Prop :=
  (¬ (σ 0 8) = (5 : Int32) → post σ) ∧ ((σ 0 8) = (5 : Int32) → (¬ ((σ 0 13) - (σ 0 13) / 2 * 2) = 0 → post (up2 σ 0 11 (σ 0 15))) ∧ (((σ 0 13) - (σ 0 13) / 2 * 2) = 0 → post (up2 σ 0 11 (σ 0 16))))
def p_M_work_148 (post : jS → Prop) (σ : jS) (v1 : Int32) : Prop :=
  (¬ (σ 0 8) = (4 : Int32) → p_M_work_165 post σ) ∧ ((σ 0 8) = (4 : Int32) → (¬ v1 = 0 → p_M_work_165 post σ) ∧ (v1 = 0 → p_M_mark σ 3 (fun σ3 => p_M_work_165 post σ3)))
def p_M_work_135 (post : jS → Prop) (σ : jS) (v1 : Int32) : Prop :=
  (¬ (σ 0 8) = (3 : Int32) → p_M_work_148 post σ v1) ∧ ((σ 0 8) = (3 : Int32) → p_M_trimmed σ v1 (fun σ4 => p_M_work_148 post σ4 v1))
def p_M_work_132 (post : jS → Prop) (σ : jS) (v1 : Int32) (y0 : Int32) : Prop :=
  p_M_work_135 post (up2 σ 0 12 y0) v1
def p_M_work_94 (post : jS → Prop) (σ : jS) (v1 : Int32) : Prop :=
  ((2 : Int32) ≤ (σ 0 8) → p_M_work_135 post σ v1) ∧ (¬ (2 : Int32) ≤ (σ 0 8) → (v1 = 0 → (¬ (σ 0 12) = (32 : Int32) → p_M_work_132 post σ v1 (2 * (σ 0 12))) ∧ ((σ 0 12) = (32 : Int32) → p_M_work_132 post σ v1 32)) ∧ (¬ v1 = 0 → p_M_work_132 post σ v1 8))
def p_M_work_90 (post : jS → Prop) (σ : jS) (v1 : Int32) (y0 : Int32) (y1 : Int32) : Prop :=
  p_M_work_94 post (up2 σ 0 11 (y1 - y0)) v1
def p_M_work_65 (post : jS → Prop) (σ : jS) (v1 : Int32) : Prop :=
  (¬ (σ 0 8) = (1 : Int32) → p_M_work_94 post σ v1) ∧ ((σ 0 8) = (1 : Int32) → (v1 = 0 → p_M_work_90 post σ v1 (σ 0 12) (σ 0 15)) ∧ (¬ v1 = 0 → p_M_work_90 post σ v1 0 (σ 0 15)))
def p_M_work_61 (post : jS → Prop) (σ : jS) (v1 : Int32) (y0 : Int32) (y1 : Int32) : Prop :=
  p_M_work_65 post (up2 σ 0 11 (y1 + y0)) v1
def p_M_work_60 (post : jS → Prop) (σ : jS) (v1 : Int32) (y0 : Int32) : Prop :=
  p_M_work_61 post σ v1 0 y0
def p_M_work_37 (post : jS → Prop) (σ : jS) (v1 : Int32) : Prop :=
  (¬ (σ 0 8) = 0 → p_M_work_60 post σ v1 (σ 0 16)) ∧ ((σ 0 8) = 0 → (¬ v1 = 0 → p_M_work_60 post σ v1 (σ 0 16)) ∧ (v1 = 0 → p_M_work_61 post σ v1 (σ 0 12) (σ 0 16)))
def p_M_work_22 (post : jS → Prop) (σ : jS) (v1 : Int32) : Prop :=
  ((σ 0 8) = 0 → p_M_work_37 post σ v1) ∧ (¬ (σ 0 8) = 0 → (¬ (σ 0 8) = (2 : Int32) → p_M_work_65 post σ v1) ∧ ((σ 0 8) = (2 : Int32) → p_M_work_37 post σ v1))
def p_M_work (σ : jS) (post : jS → Prop) : Prop :=
  p_M_reading σ (fun r2 σ1 => ((3 : Int32) ≤ (σ1 0 8) → p_M_work_22 post σ1 r2) ∧ (¬ (3 : Int32) ≤ (σ1 0 8) → (¬ r2 = 0 → p_M_work_22 post σ1 r2) ∧ (r2 = 0 → p_M_mark σ1 1 (fun σ5 => p_M_work_22 post σ5 r2))))
def p_M_one_29 (post : Int32 → jS → Prop) (σ : jS) : Prop :=
  ((σ 0 8) = (6 : Int32) → post (σ 0 8) σ) ∧ (¬ (σ 0 8) = (6 : Int32) → p_M_work σ (fun σ1 => post (σ 0 8) σ1))
def p_M_one_0 (post : Int32 → jS → Prop) : Nat → jS → Prop
  | 0, _ => False
  | n + 1, σ =>
    ((σ 0 8) = (6 : Int32) → p_M_one_29 post σ) ∧ (¬ (σ 0 8) = (6 : Int32) → p_M_find σ (fun r3 σ2 => (¬ r3 = 0 → p_M_one_29 post σ2) ∧ (r3 = 0 → p_M_enter σ2 ((σ2 0 8) + 1) (fun σ4 => p_M_one_0 post n σ4))))
def p_M_one (σ : jS) (post : Int32 → jS → Prop) : Prop :=
  ∃ n, p_M_one_0 post n σ
def p_M_step_13 (post : Int32 → jS → Prop) (σ : jS) (y0 : Int32) : Prop :=
  (¬ ((up2 σ 0 0 y0) 0 0) = 0 → post 0 (up2 σ 0 0 y0)) ∧ (((up2 σ 0 0 y0) 0 0) = 0 → p_M_one (up2 σ 0 0 y0) (fun r4 σ3 => post r4 σ3))
def p_M_step (σ : jS) (post : Int32 → jS → Prop) : Prop :=
  p_M_goesOn σ (fun r2 σ1 => (r2 = 0 → p_M_step_13 post σ1 1) ∧ (¬ r2 = 0 → p_M_step_13 post σ1 0))
def p_M_run_42 (post : Int32 → jS → Prop) (v1 : Int32) : Nat → jS → Int32 → Prop
  | 0, _, _ => False
  | n + 1, σ, v2 =>
    (v1 ≤ v2 → post v2 σ) ∧ (¬ v1 ≤ v2 → p_M_one σ (fun r2 σ1 => (r2 = (6 : Int32) → post v2 σ1) ∧ (¬ r2 = (6 : Int32) → p_M_run_42 post v1 n σ1 (v2 + 1))))
def p_M_run_28 (post : Int32 → jS → Prop) (v1 : Int32) (σ : jS) (y0 : Int32) : Prop :=
  (((up2 σ 0 0 y0) 0 0) = 0 → ∃ n9, p_M_run_42 post v1 n9 (up2 σ 0 0 y0) 0) ∧ (¬ ((up2 σ 0 0 y0) 0 0) = 0 → post 0 (up2 σ 0 0 y0))
def p_M_run_12 (post : Int32 → jS → Prop) (v1 : Int32) (σ : jS) : Prop :=
  p_M_run_28 post v1 σ 1
def p_M_run (σ : jS) (v1 : Int32) (post : Int32 → jS → Prop) : Prop :=
  (v1 < 0 → p_M_run_12 post v1 σ) ∧ (¬ v1 < 0 → (v1 ≤ (300 : Int32) → p_M_goesOn σ (fun r4 σ3 => (¬ r4 = 0 → p_M_run_28 post v1 σ3 0) ∧ (r4 = 0 → p_M_run_28 post v1 σ3 2))) ∧ (¬ v1 ≤ (300 : Int32) → p_M_run_12 post v1 σ))
def p_M_put (σ : jS) (v1 : Int32) (post : jS → Prop) : Prop :=
  vp_in (σ 0 20) 140 ∧ post (up2 (up2 σ 7 (σ 0 20).toNatClampNeg v1) 0 20 (((up2 σ 7 (σ 0 20).toNatClampNeg v1) 0 20) + 1))
def p_M_endOf_4 (post : Int32 → jS → Prop) (v1 : Int32) : Nat → jS → Int32 → Prop
  | 0, _, _ => False
  | n + 1, σ, v2 =>
    ((σ 0 1) ≤ v2 → post v2 σ) ∧ (¬ (σ 0 1) ≤ v2 → vp_in v2 64 ∧ vp_in v1 64 ∧ (¬ (σ 5 v2.toNatClampNeg) = (σ 5 v1.toNatClampNeg) → post v2 σ) ∧ ((σ 5 v2.toNatClampNeg) = (σ 5 v1.toNatClampNeg) → p_M_endOf_4 post v1 n σ (v2 + 1)))
def p_M_endOf (σ : jS) (v1 : Int32) (post : Int32 → jS → Prop) : Prop :=
  ∃ n9, p_M_endOf_4 post v1 n9 σ (v1 + 1)
def p_M_runs_4 (post : Int32 → jS → Prop) : Nat → jS → Int32 → Int32 → Prop
  | 0, _, _, _ => False
  | n + 1, σ, v1, v2 =>
    ((σ 0 1) ≤ v2 → post v1 σ) ∧ (¬ (σ 0 1) ≤ v2 → p_M_endOf σ v2 (fun r2 σ1 => p_M_runs_4 post n σ1 (v1 + 1) r2))
def p_M_runs (σ : jS) (post : Int32 → jS → Prop) : Prop :=
  ∃ n9, p_M_runs_4 post n9 σ 0 0
def p_M_next (σ : jS) (v0 : Int32) (post : Int32 → jS → Prop) : Prop :=
  (¬ v0 = (199 : Int32) → post (v0 + 1) σ) ∧ (v0 = (199 : Int32) → post 0 σ)
def p_M_makeImage_62 (post : jS → Prop) (v1 : Int32) : Nat → jS → Int32 → Int32 → Prop
  | 0, _, _, _ => False
  | n + 1, σ, v2, v3 =>
    ((σ 0 20) ≤ v3 → p_M_put σ v2 (fun σ5 => post σ5)) ∧ (¬ (σ 0 20) ≤ v3 → vp_in v3 140 ∧ p_M_makeImage_62 post v1 n σ ((v2 + ((σ 7 v3.toNatClampNeg) * (v3 + 1))) - (v2 + ((σ 7 v3.toNatClampNeg) * (v3 + 1))) / 251 * 251) (v3 + 1))
def p_M_makeImage_20 (post : jS → Prop) (v1 : Int32) : Nat → jS → Int32 → Prop
  | 0, _, _ => False
  | n + 1, σ, v2 =>
    ((σ 0 1) ≤ v2 → ∃ n9, p_M_makeImage_62 post v1 n9 σ 0 0) ∧ (¬ (σ 0 1) ≤ v2 → p_M_endOf σ v2 (fun r7 σ6 => p_M_put σ6 (r7 - v2) (fun σ8 => vp_in v2 64 ∧ p_M_put σ8 (σ8 5 v2.toNatClampNeg) (fun σ9 => p_M_endOf σ9 v2 (fun r11 σ10 => p_M_makeImage_20 post v1 n σ10 r11)))))
def p_M_makeImage (σ : jS) (v1 : Int32) (post : jS → Prop) : Prop :=
  p_M_put (up2 σ 0 20 0) v1 (fun σ1 => p_M_runs σ1 (fun r3 σ2 => p_M_put σ2 r3 (fun σ4 => ∃ n9, p_M_makeImage_20 post v1 n9 σ4 0)))
def p_M_write_2 (post : jS → Prop) (v1 : Int32) : Nat → jS → Int32 → Prop
  | 0, _, _ => False
  | n + 1, σ, v2 =>
    (v1 ≤ v2 → post σ) ∧ (¬ v1 ≤ v2 → ((σ 0 20) ≤ v2 → post σ) ∧ (¬ (σ 0 20) ≤ v2 → vp_in v2 140 ∧ vp_in ((140 * ((σ 0 17) - (σ 0 17) / 2 * 2)) + v2) 280 ∧ p_M_write_2 post v1 n (up2 σ 6 ((140 * ((σ 0 17) - (σ 0 17) / 2 * 2)) + v2).toNatClampNeg (σ 7 v2.toNatClampNeg)) (v2 + 1)))
def p_M_write (σ : jS) (v1 : Int32) (post : jS → Prop) : Prop :=
  ∃ n9, p_M_write_2 post v1 n9 σ 0
def p_M_save_13 (post : Int32 → jS → Prop) (σ : jS) (y0 : Int32) : Prop :=
  (((up2 σ 0 0 y0) 0 0) = 0 → p_M_next (up2 σ 0 0 y0) ((up2 σ 0 0 y0) 0 17) (fun r4 σ3 => p_M_makeImage (up2 σ3 0 17 r4) ((up2 σ3 0 17 r4) 0 17) (fun σ5 => p_M_write σ5 (σ5 0 20) (fun σ6 => post (σ6 0 17) σ6)))) ∧ (¬ ((up2 σ 0 0 y0) 0 0) = 0 → post 0 (up2 σ 0 0 y0))
def p_M_save (σ : jS) (post : Int32 → jS → Prop) : Prop :=
  p_M_goesOn σ (fun r2 σ1 => (r2 = 0 → p_M_save_13 post σ1 1) ∧ (¬ r2 = 0 → p_M_save_13 post σ1 0))
def p_M_stop_21 (post : Int32 → jS → Prop) (v1 : Int32) (σ : jS) (y0 : Int32) : Prop :=
  (((up2 σ 0 0 y0) 0 0) = 0 → (¬ v1 = 0 → p_M_next (up2 (up2 σ 0 0 y0) 0 8 7) ((up2 (up2 σ 0 0 y0) 0 8 7) 0 17) (fun r4 σ3 => p_M_makeImage (up2 σ3 0 17 r4) ((up2 σ3 0 17 r4) 0 17) (fun σ5 => p_M_write σ5 v1 (fun σ6 => post (σ6 0 17) σ6)))) ∧ (v1 = 0 → post 0 (up2 (up2 σ 0 0 y0) 0 8 7))) ∧ (¬ ((up2 σ 0 0 y0) 0 0) = 0 → post 0 (up2 σ 0 0 y0))
def p_M_stop (σ : jS) (v1 : Int32) (post : Int32 → jS → Prop) : Prop :=
  (0 ≤ v1 → p_M_goesOn σ (fun r2 σ1 => (¬ r2 = 0 → p_M_stop_21 post v1 σ1 0) ∧ (r2 = 0 → p_M_stop_21 post v1 σ1 2))) ∧ (¬ 0 ≤ v1 → p_M_stop_21 post v1 σ 1)
def p_M_at (σ : jS) (v1 : Int32) (v2 : Int32) (post : Int32 → jS → Prop) : Prop :=
  vp_in ((140 * v1) + v2) 280 ∧ post (σ 6 ((140 * v1) + v2).toNatClampNeg) σ
def p_M_isWhole_135 (post : Int32 → jS → Prop) (v1 : Int32) : Nat → jS → Int32 → Int32 → Int32 → Int32 → Int32 → Prop
  | 0, _, _, _, _, _, _ => False
  | n + 1, σ, v2, v3, v4, v5, v6 =>
    ((2 + (2 * v2)) ≤ v6 → (v4 = 0 → bz 0 ∧ post 0 σ) ∧ (¬ v4 = 0 → (¬ v3 = (σ 0 1) → bz 0 ∧ post 0 σ) ∧ (v3 = (σ 0 1) → p_M_at σ v1 (2 + (2 * v2)) (fun r6 σ5 => (¬ v5 = r6 → bz 0 ∧ post 0 σ5) ∧ (v5 = r6 → bz 1 ∧ post 1 σ5))))) ∧ (¬ (2 + (2 * v2)) ≤ v6 → p_M_at σ v1 v6 (fun r8 σ7 => p_M_isWhole_135 post v1 n σ7 v2 v3 v4 ((v5 + (r8 * (v6 + 1))) - (v5 + (r8 * (v6 + 1))) / 251 * 251) (v6 + 1)))
def p_M_isWhole_116 (post : Int32 → jS → Prop) (k42 : jS → Int32 → Int32 → Int32 → Int32 → Prop) (v1 : Int32) (σ : jS) (v2 : Int32) (v3 : Int32) (v5 : Int32) (v6 : Int32) (y0 : Int32) : Prop :=
  k42 σ v2 (v3 + v6) y0 (v5 + 1)
def p_M_isWhole_115 (post : Int32 → jS → Prop) (k42 : jS → Int32 → Int32 → Int32 → Int32 → Prop) (v1 : Int32) (σ : jS) (v2 : Int32) (v3 : Int32) (v5 : Int32) (v6 : Int32) : Prop :=
  p_M_isWhole_116 post k42 v1 σ v2 v3 v5 v6 0
def p_M_isWhole_111 (post : Int32 → jS → Prop) (k42 : jS → Int32 → Int32 → Int32 → Int32 → Prop) (v1 : Int32) (σ : jS) (v2 : Int32) (v3 : Int32) (v5 : Int32) (v6 : Int32) : Prop :=
  p_M_isWhole_116 post k42 v1 σ v2 v3 v5 v6 1
def p_M_isWhole_42 (post : Int32 → jS → Prop) (v1 : Int32) : Nat → jS → Int32 → Int32 → Int32 → Int32 → Prop
  | 0, _, _, _, _, _ => False
  | n + 1, σ, v2, v3, v4, v5 =>
    (v2 ≤ v5 → ∃ n9, p_M_isWhole_135 post v1 n9 σ v2 v3 v4 0 0) ∧ (¬ v2 ≤ v5 → p_M_at σ v1 (2 + (2 * v5)) (fun r10 σ9 => p_M_at σ9 v1 (3 + (2 * v5)) (fun r12 σ11 => (v4 = 0 → p_M_isWhole_115 post (p_M_isWhole_42 post v1 n) v1 σ11 v2 v3 v5 r10) ∧ (¬ v4 = 0 → (r10 ≤ 0 → p_M_isWhole_115 post (p_M_isWhole_42 post v1 n) v1 σ11 v2 v3 v5 r10) ∧ (¬ r10 ≤ 0 → ((4 : Int32) < r12 → p_M_isWhole_115 post (p_M_isWhole_42 post v1 n) v1 σ11 v2 v3 v5 r10) ∧ (¬ (4 : Int32) < r12 → (v5 = 0 → p_M_isWhole_111 post (p_M_isWhole_42 post v1 n) v1 σ11 v2 v3 v5 r10) ∧ (¬ v5 = 0 → p_M_at σ11 v1 (1 + (2 * v5)) (fun r14 σ13 => (r12 = r14 → p_M_isWhole_115 post (p_M_isWhole_42 post v1 n) v1 σ13 v2 v3 v5 r10) ∧ (¬ r12 = r14 → p_M_isWhole_111 post (p_M_isWhole_42 post v1 n) v1 σ13 v2 v3 v5 r10)))))))))
def p_M_isWhole (σ : jS) (v1 : Int32) (post : Int32 → jS → Prop) : Prop :=
  p_M_at σ v1 1 (fun r2 σ1 => p_M_at σ1 v1 0 (fun r4 σ3 => ((199 : Int32) < r4 → bz 0 ∧ post 0 σ3) ∧ (¬ (199 : Int32) < r4 → (r2 < (1 : Int32) → bz 0 ∧ post 0 σ3) ∧ (¬ r2 < (1 : Int32) → (r2 ≤ (σ3 0 1) → ∃ n9, p_M_isWhole_42 post v1 n9 σ3 r2 0 1 0) ∧ (¬ r2 ≤ (σ3 0 1) → bz 0 ∧ post 0 σ3)))))
def p_M_resume_198 (post : Int32 → jS → Prop) (σ : jS) (v3 : Int32) : Prop :=
  p_M_enter σ 0 (fun σ7 => post v3 σ7)
def p_M_resume_149 (post : Int32 → jS → Prop) (k131 : jS → Int32 → Int32 → Int32 → Prop) : Nat → jS → Int32 → Int32 → Int32 → Int32 → Prop
  | 0, _, _, _, _, _ => False
  | n + 1, σ, v3, v4, v5, v6 =>
    p_M_at σ v3 (2 + (2 * v5)) (fun r11 σ10 => (r11 ≤ v6 → k131 σ10 v3 v4 (v5 + 1)) ∧ (¬ r11 ≤ v6 → p_M_at σ10 v3 (3 + (2 * v5)) (fun r13 σ12 => vp_in v4 64 ∧ p_M_resume_149 post k131 n (up2 σ12 5 v4.toNatClampNeg r13) v3 (v4 + 1) v5 (v6 + 1))))
def p_M_resume_131 (post : Int32 → jS → Prop) : Nat → jS → Int32 → Int32 → Int32 → Prop
  | 0, _, _, _, _ => False
  | n + 1, σ, v3, v4, v5 =>
    (v3 < 0 → p_M_resume_198 post σ v3) ∧ (¬ v3 < 0 → p_M_at σ v3 1 (fun r9 σ8 => (r9 ≤ v5 → p_M_resume_198 post σ8 v3) ∧ (¬ r9 ≤ v5 → ∃ n9, p_M_resume_149 post (p_M_resume_131 post n) n9 σ8 v3 v4 v5 0)))
def p_M_resume_104 (post : Int32 → jS → Prop) : Nat → jS → Int32 → Int32 → Prop
  | 0, _, _, _ => False
  | n + 1, σ, v3, v4 =>
    ((64 : Int32) ≤ v4 → ∃ n9, p_M_resume_131 post n9 σ v3 0 0) ∧ (¬ (64 : Int32) ≤ v4 → vp_in v4 64 ∧ p_M_resume_104 post n (up2 σ 5 v4.toNatClampNeg 0) v3 (v4 + 1))
def p_M_resume_98 (post : Int32 → jS → Prop) (σ : jS) (v3 : Int32) (y0 : Int32) : Prop :=
  ∃ n9, p_M_resume_104 post n9 (up2 σ 0 17 y0) v3 0
def p_M_resume_82 (post : Int32 → jS → Prop) (σ : jS) (y0 : Int32) : Prop :=
  (0 ≤ y0 → p_M_at σ y0 0 (fun r6 σ5 => p_M_resume_98 post σ5 y0 r6)) ∧ (¬ 0 ≤ y0 → p_M_resume_98 post σ y0 0)
def p_M_resume_69 (post : Int32 → jS → Prop) (σ : jS) : Prop :=
  p_M_resume_82 post σ 0
def p_M_resume_15 (post : Int32 → jS → Prop) (σ : jS) (y0 : Int32) : Prop :=
  (((up2 σ 0 0 y0) 0 0) = 0 → p_M_isWhole (up2 σ 0 0 y0) 0 (fun r2 σ1 => p_M_isWhole σ1 1 (fun r4 σ3 => (r2 = 0 → (r4 = 0 → p_M_resume_82 post σ3 (-1)) ∧ (¬ r4 = 0 → p_M_resume_82 post σ3 1)) ∧ (¬ r2 = 0 → (r4 = 0 → p_M_resume_69 post σ3) ∧ (¬ r4 = 0 → p_M_at σ3 1 0 (fun r15 σ14 => p_M_at σ14 0 0 (fun r17 σ16 => p_M_next σ16 r17 (fun r19 σ18 => (¬ r15 = r19 → p_M_resume_69 post σ18) ∧ (r15 = r19 → p_M_resume_82 post σ18 1))))))))) ∧ (¬ ((up2 σ 0 0 y0) 0 0) = 0 → post 0 (up2 σ 0 0 y0))
def p_M_resume (σ : jS) (post : Int32 → jS → Prop) : Prop :=
  (¬ (σ 0 8) = (7 : Int32) → p_M_resume_15 post σ 1) ∧ ((σ 0 8) = (7 : Int32) → p_M_resume_15 post σ 0)
def p_M_poke_37 (post : jS → Prop) (v1 : Int32) (v2 : Int32) (v3 : Int32) (σ : jS) (y0 : Int32) : Prop :=
  (¬ ((up2 σ 0 0 y0) 0 0) = 0 → post (up2 σ 0 0 y0)) ∧ (((up2 σ 0 0 y0) 0 0) = 0 → vp_in ((140 * v1) + v2) 280 ∧ post (up2 (up2 σ 0 0 y0) 6 ((140 * v1) + v2).toNatClampNeg v3))
def p_M_poke_32 (post : jS → Prop) (v1 : Int32) (v2 : Int32) (v3 : Int32) (σ : jS) : Prop :=
  p_M_poke_37 post v1 v2 v3 σ 1
def p_M_poke (σ : jS) (v1 : Int32) (v2 : Int32) (v3 : Int32) (post : jS → Prop) : Prop :=
  (v1 < 0 → p_M_poke_32 post v1 v2 v3 σ) ∧ (¬ v1 < 0 → ((1 : Int32) < v1 → p_M_poke_32 post v1 v2 v3 σ) ∧ (¬ (1 : Int32) < v1 → (v2 < 0 → p_M_poke_32 post v1 v2 v3 σ) ∧ (¬ v2 < 0 → ((139 : Int32) < v2 → p_M_poke_32 post v1 v2 v3 σ) ∧ (¬ (139 : Int32) < v2 → (v3 < 0 → p_M_poke_32 post v1 v2 v3 σ) ∧ (¬ v3 < 0 → (v3 ≤ (255 : Int32) → p_M_poke_37 post v1 v2 v3 σ 0) ∧ (¬ v3 ≤ (255 : Int32) → p_M_poke_32 post v1 v2 v3 σ))))))
def p_M_second_25 (post : Int32 → jS → Prop) (v1 : Int32) (v2 : Int32) (σ : jS) (y0 : Int32) : Prop :=
  (¬ ((up2 σ 0 0 y0) 0 0) = 0 → bz 0 ∧ post 0 (up2 σ 0 0 y0)) ∧ (((up2 σ 0 0 y0) 0 0) = 0 → vp_in v1 64 ∧ (((up2 σ 0 0 y0) 5 v1.toNatClampNeg) = (3 : Int32) → vp_in v1 64 ∧ vp_in v1 64 ∧ bz 1 ∧ post 1 (up2 (up2 (up2 σ 0 0 y0) 5 v1.toNatClampNeg 4) 4 v1.toNatClampNeg v2)) ∧ (¬ ((up2 σ 0 0 y0) 5 v1.toNatClampNeg) = (3 : Int32) → bz 0 ∧ post 0 (up2 σ 0 0 y0)))
def p_M_second (σ : jS) (v1 : Int32) (v2 : Int32) (post : Int32 → jS → Prop) : Prop :=
  p_M_isSector σ v1 (fun r2 σ1 => (¬ r2 = 0 → p_M_goesOn σ1 (fun r4 σ3 => (¬ r4 = 0 → p_M_second_25 post v1 v2 σ3 0) ∧ (r4 = 0 → p_M_second_25 post v1 v2 σ3 2))) ∧ (r2 = 0 → p_M_second_25 post v1 v2 σ1 1))
def p_M_state (σ : jS) (v1 : Int32) (post : Int32 → jS → Prop) : Prop :=
  p_M_goesOn (up2 σ 0 0 0) (fun r2 σ1 => (r2 = 0 → post (-1) σ1) ∧ (¬ r2 = 0 → p_M_isSector σ1 v1 (fun r4 σ3 => (r4 = 0 → post (-1) σ3) ∧ (¬ r4 = 0 → vp_in v1 64 ∧ post (σ3 5 v1.toNatClampNeg) σ3))))
def p_M_count_40 (post : Int32 → jS → Prop) (k9 : jS → Int32 → Int32 → Prop) (v1 : Int32) (σ : jS) (v3 : Int32) (y0 : Int32) (y1 : Int32) : Prop :=
  k9 σ (y1 + y0) (v3 + 1)
def p_M_count_39 (post : Int32 → jS → Prop) (k9 : jS → Int32 → Int32 → Prop) (v1 : Int32) (σ : jS) (v3 : Int32) (y0 : Int32) : Prop :=
  p_M_count_40 post k9 v1 σ v3 0 y0
def p_M_count_9 (post : Int32 → jS → Prop) (v1 : Int32) : Nat → jS → Int32 → Int32 → Prop
  | 0, _, _, _ => False
  | n + 1, σ, v2, v3 =>
    ((σ 0 1) ≤ v3 → post v2 σ) ∧ (¬ (σ 0 1) ≤ v3 → p_M_goesOn σ (fun r2 σ1 => (r2 = 0 → p_M_count_39 post (p_M_count_9 post v1 n) v1 σ1 v3 v2) ∧ (¬ r2 = 0 → vp_in v3 64 ∧ (¬ (σ1 5 v3.toNatClampNeg) = v1 → p_M_count_39 post (p_M_count_9 post v1 n) v1 σ1 v3 v2) ∧ ((σ1 5 v3.toNatClampNeg) = v1 → p_M_count_40 post (p_M_count_9 post v1 n) v1 σ1 v3 1 v2))))
def p_M_count (σ : jS) (v1 : Int32) (post : Int32 → jS → Prop) : Prop :=
  ∃ n9, p_M_count_9 post v1 n9 (up2 σ 0 0 0) 0 0
def p_M_part_49 (post : Int32 → jS → Prop) (v1 : Int32) (v2 : Int32) (σ : jS) (v3 : Int32) : Prop :=
  (v3 < (σ 0 1) → (¬ v2 = 0 → (¬ v2 = (1 : Int32) → (¬ v2 = (2 : Int32) → post (-1) σ) ∧ (v2 = (2 : Int32) → vp_in v3 64 ∧ post (σ 5 v3.toNatClampNeg) σ)) ∧ (v2 = (1 : Int32) → p_M_endOf σ v3 (fun r4 σ3 => post (r4 - v3) σ3))) ∧ (v2 = 0 → post v3 σ)) ∧ (¬ v3 < (σ 0 1) → post (-1) σ)
def p_M_part_23 (post : Int32 → jS → Prop) (v1 : Int32) (v2 : Int32) : Nat → jS → Int32 → Int32 → Prop
  | 0, _, _, _ => False
  | n + 1, σ, v3, v4 =>
    (v1 ≤ v4 → p_M_part_49 post v1 v2 σ v3) ∧ (¬ v1 ≤ v4 → ((σ 0 1) ≤ v3 → p_M_part_49 post v1 v2 σ v3) ∧ (¬ (σ 0 1) ≤ v3 → p_M_endOf σ v3 (fun r6 σ5 => p_M_part_23 post v1 v2 n σ5 r6 (v4 + 1))))
def p_M_part (σ : jS) (v1 : Int32) (v2 : Int32) (post : Int32 → jS → Prop) : Prop :=
  p_M_goesOn (up2 σ 0 0 0) (fun r2 σ1 => (r2 = 0 → post (-1) σ1) ∧ (¬ r2 = 0 → (0 ≤ v1 → ∃ n9, p_M_part_23 post v1 v2 n9 σ1 0 0) ∧ (¬ 0 ≤ v1 → post (-1) σ1)))
def p_M_phase (σ : jS) (post : Int32 → jS → Prop) : Prop :=
  post ((up2 σ 0 0 0) 0 8) (up2 σ 0 0 0)
def p_M_out (σ : jS) (v1 : Int32) (post : Int32 → jS → Prop) : Prop :=
  p_M_isSector (up2 σ 0 0 0) v1 (fun r2 σ1 => (r2 = 0 → post 0 σ1) ∧ (¬ r2 = 0 → vp_in v1 64 ∧ post (σ1 4 v1.toNatClampNeg) σ1))
def p_M_reads (σ : jS) (v1 : Int32) (post : Int32 → jS → Prop) : Prop :=
  p_M_isSector (up2 σ 0 0 0) v1 (fun r2 σ1 => (r2 = 0 → post 0 σ1) ∧ (¬ r2 = 0 → vp_in v1 64 ∧ post (σ1 3 v1.toNatClampNeg) σ1))
def p_M_made (σ : jS) (v1 : Int32) (post : Int32 → jS → Prop) : Prop :=
  (v1 = 0 → post ((up2 σ 0 0 0) 0 6) (up2 σ 0 0 0)) ∧ (¬ v1 = 0 → post ((up2 σ 0 0 0) 0 7) (up2 σ 0 0 0))
def p_M_image (σ : jS) (v1 : Int32) (v2 : Int32) (post : Int32 → jS → Prop) : Prop :=
  (v1 < 0 → post (-1) (up2 σ 0 0 0)) ∧ (¬ v1 < 0 → ((1 : Int32) < v1 → post (-1) (up2 σ 0 0 0)) ∧ (¬ (1 : Int32) < v1 → (v2 < 0 → post (-1) (up2 σ 0 0 0)) ∧ (¬ v2 < 0 → (v2 ≤ (139 : Int32) → p_M_at (up2 σ 0 0 0) v1 v2 (fun r2 σ1 => post r2 σ1)) ∧ (¬ v2 ≤ (139 : Int32) → post (-1) (up2 σ 0 0 0)))))

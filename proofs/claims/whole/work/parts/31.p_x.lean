theorem kw_287 : Cond.methodLink rn_R 46 y_D_lay ∈ wb := wb_t 287 (by decide +kernel) (by decide +kernel)
theorem kw_288 : Cond.instanceMethod y_D_lay ∈ wb := wb_t 288 (by decide +kernel) (by decide +kernel)
theorem kw_289 : Cond.selects rn_D y_D_lay y_D_lay ∈ wb := wb_t 289 (by decide +kernel) (by decide +kernel)
theorem kw_290 : Cond.code y_D_lay b_D_lay 2 none ∈ wb := wb_t 290 (by decide +kernel) (by decide +kernel)
theorem kw_294 : Cond.methodLink rn_R 50 y_V_wipe ∈ wb := wb_t 294 (by decide +kernel) (by decide +kernel)
theorem kw_295 : Cond.instanceMethod y_V_wipe ∈ wb := wb_t 295 (by decide +kernel) (by decide +kernel)
theorem kw_296 : Cond.selects rn_V y_V_wipe y_V_wipe ∈ wb := wb_t 296 (by decide +kernel) (by decide +kernel)
theorem kw_297 : Cond.code y_V_wipe b_V_wipe 2 none ∈ wb := wb_t 297 (by decide +kernel) (by decide +kernel)
theorem kw_299 : Cond.methodLink rn_R 53 y_K_forget ∈ wb := wb_t 299 (by decide +kernel) (by decide +kernel)
theorem kw_300 : Cond.instanceMethod y_K_forget ∈ wb := wb_t 300 (by decide +kernel) (by decide +kernel)
theorem kw_301 : Cond.selects rn_K y_K_forget y_K_forget ∈ wb := wb_t 301 (by decide +kernel) (by decide +kernel)
theorem kw_302 : Cond.code y_K_forget b_K_forget 1 none ∈ wb := wb_t 302 (by decide +kernel) (by decide +kernel)
theorem kw_310 : Cond.methodLink rn_R 56 y_D_has ∈ wb := wb_t 310 (by decide +kernel) (by decide +kernel)
theorem kw_313 : Cond.methodLink rn_R 64 y_D_put ∈ wb := wb_t 313 (by decide +kernel) (by decide +kernel)
theorem kw_314 : Cond.instanceMethod y_D_put ∈ wb := wb_t 314 (by decide +kernel) (by decide +kernel)
theorem kw_315 : Cond.selects rn_D y_D_put y_D_put ∈ wb := wb_t 315 (by decide +kernel) (by decide +kernel)
theorem kw_316 : Cond.code y_D_put b_D_put 4 none ∈ wb := wb_t 316 (by decide +kernel) (by decide +kernel)
theorem kw_326 : Cond.methodLink rn_R 70 y_D_size ∈ wb := wb_t 326 (by decide +kernel) (by decide +kernel)
theorem kw_327 : Cond.instanceMethod y_D_size ∈ wb := wb_t 327 (by decide +kernel) (by decide +kernel)
theorem kw_328 : Cond.selects rn_D y_D_size y_D_size ∈ wb := wb_t 328 (by decide +kernel) (by decide +kernel)
theorem kw_329 : Cond.code y_D_size b_D_size 1 (some .int) ∈ wb := wb_t 329 (by decide +kernel) (by decide +kernel)
theorem kw_346 : Cond.methodLink rn_R 82 y_S_clear ∈ wb := wb_t 346 (by decide +kernel) (by decide +kernel)
theorem kw_347 : Cond.instanceMethod y_S_clear ∈ wb := wb_t 347 (by decide +kernel) (by decide +kernel)
theorem kw_348 : Cond.selects rn_S y_S_clear y_S_clear ∈ wb := wb_t 348 (by decide +kernel) (by decide +kernel)
theorem kw_349 : Cond.code y_S_clear b_S_clear 2 none ∈ wb := wb_t 349 (by decide +kernel) (by decide +kernel)
theorem kw_357 : Cond.methodLink rn_R 85 y_K_start ∈ wb := wb_t 357 (by decide +kernel) (by decide +kernel)
theorem kw_358 : Cond.instanceMethod y_K_start ∈ wb := wb_t 358 (by decide +kernel) (by decide +kernel)
theorem kw_359 : Cond.selects rn_K y_K_start y_K_start ∈ wb := wb_t 359 (by decide +kernel) (by decide +kernel)
theorem kw_360 : Cond.code y_K_start b_K_start 2 none ∈ wb := wb_t 360 (by decide +kernel) (by decide +kernel)
theorem kw_377 : Cond.methodLink rn_R 94 y_K_makeStep ∈ wb := wb_t 377 (by decide +kernel) (by decide +kernel)
theorem kw_378 : Cond.instanceMethod y_K_makeStep ∈ wb := wb_t 378 (by decide +kernel) (by decide +kernel)
theorem kw_379 : Cond.selects rn_K y_K_makeStep y_K_makeStep ∈ wb := wb_t 379 (by decide +kernel) (by decide +kernel)
theorem kw_380 : Cond.code y_K_makeStep b_K_makeStep 2 (some .int) ∈ wb := wb_t 380 (by decide +kernel) (by decide +kernel)
theorem kw_465 : Cond.methodLink rn_R 99 y_V_write ∈ wb := wb_t 465 (by decide +kernel) (by decide +kernel)
theorem kw_466 : Cond.instanceMethod y_V_write ∈ wb := wb_t 466 (by decide +kernel) (by decide +kernel)
theorem kw_467 : Cond.selects rn_V y_V_write y_V_write ∈ wb := wb_t 467 (by decide +kernel) (by decide +kernel)
theorem kw_468 : Cond.code y_V_write b_V_write 5 (some .int) ∈ wb := wb_t 468 (by decide +kernel) (by decide +kernel)
theorem kw_506 : Cond.methodLink rn_R 105 y_K_halt ∈ wb := wb_t 506 (by decide +kernel) (by decide +kernel)
theorem kw_507 : Cond.instanceMethod y_K_halt ∈ wb := wb_t 507 (by decide +kernel) (by decide +kernel)
theorem kw_508 : Cond.selects rn_K y_K_halt y_K_halt ∈ wb := wb_t 508 (by decide +kernel) (by decide +kernel)
theorem kw_509 : Cond.code y_K_halt b_K_halt 1 none ∈ wb := wb_t 509 (by decide +kernel) (by decide +kernel)
theorem kw_518 : Cond.methodLink rn_R 110 y_V_newestWhole ∈ wb := wb_t 518 (by decide +kernel) (by decide +kernel)
theorem kw_519 : Cond.instanceMethod y_V_newestWhole ∈ wb := wb_t 519 (by decide +kernel) (by decide +kernel)
theorem kw_520 : Cond.selects rn_V y_V_newestWhole y_V_newestWhole ∈ wb := wb_t 520 (by decide +kernel) (by decide +kernel)
theorem kw_521 : Cond.code y_V_newestWhole b_V_newestWhole 4 (some .int) ∈ wb := wb_t 521 (by decide +kernel) (by decide +kernel)
theorem kw_531 : Cond.methodLink rn_R 114 y_V_load ∈ wb := wb_t 531 (by decide +kernel) (by decide +kernel)
theorem kw_532 : Cond.instanceMethod y_V_load ∈ wb := wb_t 532 (by decide +kernel) (by decide +kernel)
theorem kw_533 : Cond.selects rn_V y_V_load y_V_load ∈ wb := wb_t 533 (by decide +kernel) (by decide +kernel)
theorem kw_534 : Cond.code y_V_load b_V_load 7 none ∈ wb := wb_t 534 (by decide +kernel) (by decide +kernel)
theorem kw_536 : Cond.methodLink rn_R 118 y_K_enter ∈ wb := wb_t 536 (by decide +kernel) (by decide +kernel)
theorem kw_544 : Cond.methodLink rn_R 121 y_V_has ∈ wb := wb_t 544 (by decide +kernel) (by decide +kernel)
theorem kw_547 : Cond.methodLink rn_R 128 y_V_put ∈ wb := wb_t 547 (by decide +kernel) (by decide +kernel)
theorem kw_555 : Cond.methodLink rn_R 132 y_D_deliver ∈ wb := wb_t 555 (by decide +kernel) (by decide +kernel)
theorem kw_556 : Cond.instanceMethod y_D_deliver ∈ wb := wb_t 556 (by decide +kernel) (by decide +kernel)
theorem kw_557 : Cond.selects rn_D y_D_deliver y_D_deliver ∈ wb := wb_t 557 (by decide +kernel) (by decide +kernel)
theorem kw_558 : Cond.code y_D_deliver b_D_deliver 3 none ∈ wb := wb_t 558 (by decide +kernel) (by decide +kernel)
theorem kw_559 : Cond.methodLink rn_R 136 y_S_mark ∈ wb := wb_t 559 (by decide +kernel) (by decide +kernel)
theorem hd_D_lay : y_D_lay.cls = rn_D ∧ y_D_lay.cls ≠ "java/lang/invoke/MethodHandle" ∧ y_D_lay.cls ≠ "java/lang/invoke/VarHandle" ∧ (parseMethodDescriptor y_D_lay.desc).map (fun d => d.parameters.length) = some 1 := by decide +kernel
theorem g_R_46 : GoodIn wb (wsV rn_R 46 rn_D y_D_lay (Cond.code y_D_lay b_D_lay 2 none :: wb)) := gw_V kw_287 kw_288 kw_289 kw_2 kw_290
theorem hd_V_wipe : y_V_wipe.cls = rn_V ∧ y_V_wipe.cls ≠ "java/lang/invoke/MethodHandle" ∧ y_V_wipe.cls ≠ "java/lang/invoke/VarHandle" ∧ (parseMethodDescriptor y_V_wipe.desc).map (fun d => d.parameters.length) = some 0 := by decide +kernel
theorem g_R_50 : GoodIn wb (wsV rn_R 50 rn_V y_V_wipe (Cond.code y_V_wipe b_V_wipe 2 none :: wb)) := gw_V kw_294 kw_295 kw_296 kw_5 kw_297
theorem hd_K_forget : y_K_forget.cls = rn_K ∧ y_K_forget.cls ≠ "java/lang/invoke/MethodHandle" ∧ y_K_forget.cls ≠ "java/lang/invoke/VarHandle" ∧ (parseMethodDescriptor y_K_forget.desc).map (fun d => d.parameters.length) = some 0 := by decide +kernel
theorem g_R_53 : GoodIn wb (wsV rn_R 53 rn_K y_K_forget (Cond.code y_K_forget b_K_forget 1 none :: wb)) := gw_V kw_299 kw_300 kw_301 kw_4 kw_302
theorem g_R_56 : GoodIn wb (wsV rn_R 56 rn_D y_D_has (Cond.code y_D_has b_D_has 2 (some .boolean) :: wb)) := gw_V kw_310 kw_181 kw_182 kw_2 kw_183
theorem hd_D_put : y_D_put.cls = rn_D ∧ y_D_put.cls ≠ "java/lang/invoke/MethodHandle" ∧ y_D_put.cls ≠ "java/lang/invoke/VarHandle" ∧ (parseMethodDescriptor y_D_put.desc).map (fun d => d.parameters.length) = some 3 := by decide +kernel
theorem g_R_64 : GoodIn wb (wsV rn_R 64 rn_D y_D_put (Cond.code y_D_put b_D_put 4 none :: wb)) := gw_V kw_313 kw_314 kw_315 kw_2 kw_316
theorem hd_D_size : y_D_size.cls = rn_D ∧ y_D_size.cls ≠ "java/lang/invoke/MethodHandle" ∧ y_D_size.cls ≠ "java/lang/invoke/VarHandle" ∧ (parseMethodDescriptor y_D_size.desc).map (fun d => d.parameters.length) = some 0 := by decide +kernel
theorem g_R_70 : GoodIn wb (wsV rn_R 70 rn_D y_D_size (Cond.code y_D_size b_D_size 1 (some .int) :: wb)) := gw_V kw_326 kw_327 kw_328 kw_2 kw_329
theorem hd_S_clear : y_S_clear.cls = rn_S ∧ y_S_clear.cls ≠ "java/lang/invoke/MethodHandle" ∧ y_S_clear.cls ≠ "java/lang/invoke/VarHandle" ∧ (parseMethodDescriptor y_S_clear.desc).map (fun d => d.parameters.length) = some 1 := by decide +kernel
theorem g_R_82 : GoodIn wb (wsV rn_R 82 rn_S y_S_clear (Cond.code y_S_clear b_S_clear 2 none :: wb)) := gw_V kw_346 kw_347 kw_348 kw_3 kw_349
theorem hd_K_start : y_K_start.cls = rn_K ∧ y_K_start.cls ≠ "java/lang/invoke/MethodHandle" ∧ y_K_start.cls ≠ "java/lang/invoke/VarHandle" ∧ (parseMethodDescriptor y_K_start.desc).map (fun d => d.parameters.length) = some 1 := by decide +kernel
theorem g_R_85 : GoodIn wb (wsV rn_R 85 rn_K y_K_start (Cond.code y_K_start b_K_start 2 none :: wb)) := gw_V kw_357 kw_358 kw_359 kw_4 kw_360
theorem hd_K_makeStep : y_K_makeStep.cls = rn_K ∧ y_K_makeStep.cls ≠ "java/lang/invoke/MethodHandle" ∧ y_K_makeStep.cls ≠ "java/lang/invoke/VarHandle" ∧ (parseMethodDescriptor y_K_makeStep.desc).map (fun d => d.parameters.length) = some 0 := by decide +kernel
theorem g_R_94 : GoodIn wb (wsV rn_R 94 rn_K y_K_makeStep (Cond.code y_K_makeStep b_K_makeStep 2 (some .int) :: wb)) := gw_V kw_377 kw_378 kw_379 kw_4 kw_380
theorem hd_V_write : y_V_write.cls = rn_V ∧ y_V_write.cls ≠ "java/lang/invoke/MethodHandle" ∧ y_V_write.cls ≠ "java/lang/invoke/VarHandle" ∧ (parseMethodDescriptor y_V_write.desc).map (fun d => d.parameters.length) = some 2 := by decide +kernel
theorem g_R_99 : GoodIn wb (wsV rn_R 99 rn_V y_V_write (Cond.code y_V_write b_V_write 5 (some .int) :: wb)) := gw_V kw_465 kw_466 kw_467 kw_5 kw_468
theorem hd_K_halt : y_K_halt.cls = rn_K ∧ y_K_halt.cls ≠ "java/lang/invoke/MethodHandle" ∧ y_K_halt.cls ≠ "java/lang/invoke/VarHandle" ∧ (parseMethodDescriptor y_K_halt.desc).map (fun d => d.parameters.length) = some 0 := by decide +kernel
theorem g_R_105 : GoodIn wb (wsV rn_R 105 rn_K y_K_halt (Cond.code y_K_halt b_K_halt 1 none :: wb)) := gw_V kw_506 kw_507 kw_508 kw_4 kw_509
theorem hd_V_newestWhole : y_V_newestWhole.cls = rn_V ∧ y_V_newestWhole.cls ≠ "java/lang/invoke/MethodHandle" ∧ y_V_newestWhole.cls ≠ "java/lang/invoke/VarHandle" ∧ (parseMethodDescriptor y_V_newestWhole.desc).map (fun d => d.parameters.length) = some 1 := by decide +kernel
theorem g_R_110 : GoodIn wb (wsV rn_R 110 rn_V y_V_newestWhole (Cond.code y_V_newestWhole b_V_newestWhole 4 (some .int) :: wb)) := gw_V kw_518 kw_519 kw_520 kw_5 kw_521
theorem hd_V_load : y_V_load.cls = rn_V ∧ y_V_load.cls ≠ "java/lang/invoke/MethodHandle" ∧ y_V_load.cls ≠ "java/lang/invoke/VarHandle" ∧ (parseMethodDescriptor y_V_load.desc).map (fun d => d.parameters.length) = some 2 := by decide +kernel
theorem g_R_114 : GoodIn wb (wsV rn_R 114 rn_V y_V_load (Cond.code y_V_load b_V_load 7 none :: wb)) := gw_V kw_531 kw_532 kw_533 kw_5 kw_534
theorem g_R_118 : GoodIn wb (wsV rn_R 118 rn_K y_K_enter (Cond.code y_K_enter b_K_enter 2 none :: wb)) := gw_V kw_536 kw_362 kw_363 kw_4 kw_364
theorem g_R_121 : GoodIn wb (wsV rn_R 121 rn_V y_V_has (Cond.code y_V_has b_V_has 3 (some .boolean) :: wb)) := gw_V kw_544 kw_209 kw_210 kw_5 kw_211
theorem g_R_128 : GoodIn wb (wsV rn_R 128 rn_V y_V_put (Cond.code y_V_put b_V_put 4 none :: wb)) := gw_V kw_547 kw_495 kw_496 kw_5 kw_497
theorem hd_D_deliver : y_D_deliver.cls = rn_D ∧ y_D_deliver.cls ≠ "java/lang/invoke/MethodHandle" ∧ y_D_deliver.cls ≠ "java/lang/invoke/VarHandle" ∧ (parseMethodDescriptor y_D_deliver.desc).map (fun d => d.parameters.length) = some 2 := by decide +kernel
theorem g_R_132 : GoodIn wb (wsV rn_R 132 rn_D y_D_deliver (Cond.code y_D_deliver b_D_deliver 3 none :: wb)) := gw_V kw_555 kw_556 kw_557 kw_2 kw_558
theorem g_R_136 : GoodIn wb (wsV rn_R 136 rn_S y_S_mark (Cond.code y_S_mark b_S_mark 6 none :: wb)) := gw_V kw_559 kw_406 kw_407 kw_3 kw_408
def p_R_source_11 (post : jS → Prop) (px : Nat → jS → Prop) (v1 : Int32) (σ : jS) : Prop :=
  px 1 σ
def p_R_source (σ : jS) (v1 : Int32) (post : jS → Prop) (px : Nat → jS → Prop) : Prop :=
  (v1 < (1 : Int32) → p_R_source_11 post px v1 σ) ∧ (¬ v1 < (1 : Int32) → (v1 ≤ (64 : Int32) → p_D_lay σ v1 (fun σ1 => p_V_wipe σ1 (fun σ2 => p_K_forget σ2 (fun σ3 => post σ3)))) ∧ (¬ v1 ≤ (64 : Int32) → p_R_source_11 post px v1 σ))
def p_R_sector_32 (post : jS → Prop) (px : Nat → jS → Prop) (v1 : Int32) (v2 : Int32) (v3 : Int32) (σ : jS) : Prop :=
  px 1 σ
def p_R_sector (σ : jS) (v1 : Int32) (v2 : Int32) (v3 : Int32) (post : jS → Prop) (px : Nat → jS → Prop) : Prop :=
  p_D_has σ v1 (fun r2 σ1 => (¬ r2 = 0 → (v3 < ((-1) : Int32) → p_R_sector_32 post px v1 v2 v3 σ1) ∧ (¬ v3 < ((-1) : Int32) → (v3 ≤ (9 : Int32) → p_D_put σ1 v1 v2 v3 (fun σ3 => post σ3)) ∧ (¬ v3 ≤ (9 : Int32) → p_R_sector_32 post px v1 v2 v3 σ1))) ∧ (r2 = 0 → px 1 σ1))
def p_R_begin_9 (post : jS → Prop) (px : Nat → jS → Prop) (v1 : Int32) (σ : jS) : Prop :=
  px 1 σ
def p_R_begin_40 (post : jS → Prop) (px : Nat → jS → Prop) (v1 : Int32) (σ : jS) : Prop :=
  px 2 σ
def p_R_begin (σ : jS) (v1 : Int32) (post : jS → Prop) (px : Nat → jS → Prop) : Prop :=
  (v1 < 0 → p_R_begin_9 post px v1 σ) ∧ (¬ v1 < 0 → (v1 ≤ (5 : Int32) → p_D_size σ (fun r2 σ1 => (r2 = 0 → p_R_begin_40 post px v1 σ1) ∧ (¬ r2 = 0 → p_K_currentPhase σ1 (fun r4 σ3 => (r4 = ((-1) : Int32) → p_D_size σ3 (fun r6 σ5 => p_S_clear σ5 r6 (fun σ7 => p_K_start σ7 v1 (fun σ8 => post σ8)))) ∧ (¬ r4 = ((-1) : Int32) → p_R_begin_40 post px v1 σ3))))) ∧ (¬ v1 ≤ (5 : Int32) → p_R_begin_9 post px v1 σ))
def p_R_step (σ : jS) (post : Int32 → jS → Prop) (px : Nat → jS → Prop) : Prop :=
  p_K_goesOn σ (fun r2 σ1 => (¬ r2 = 0 → p_K_makeStep σ1 (fun r4 σ3 => post r4 σ3)) ∧ (r2 = 0 → px 2 σ1))
def p_R_run_11 (post : Int32 → jS → Prop) (px : Nat → jS → Prop) (v1 : Int32) (σ : jS) : Prop :=
  px 1 σ
def p_R_run_43 (post : Int32 → jS → Prop) (px : Nat → jS → Prop) (v1 : Int32) : Nat → jS → Int32 → Prop
  | 0, _, _ => False
  | n + 1, σ, v2 =>
    (v1 ≤ v2 → post v2 σ) ∧ (¬ v1 ≤ v2 → p_K_makeStep σ (fun r4 σ3 => (r4 = (6 : Int32) → post v2 σ3) ∧ (¬ r4 = (6 : Int32) → p_R_run_43 post px v1 n σ3 (v2 + 1))))
def p_R_run (σ : jS) (v1 : Int32) (post : Int32 → jS → Prop) (px : Nat → jS → Prop) : Prop :=
  (v1 < 0 → p_R_run_11 post px v1 σ) ∧ (¬ v1 < 0 → (v1 ≤ (300 : Int32) → p_K_goesOn σ (fun r2 σ1 => (¬ r2 = 0 → ∃ n9, p_R_run_43 post px v1 n9 σ1 0) ∧ (r2 = 0 → px 2 σ1))) ∧ (¬ v1 ≤ (300 : Int32) → p_R_run_11 post px v1 σ))
def p_R_save (σ : jS) (post : Int32 → jS → Prop) (px : Nat → jS → Prop) : Prop :=
  p_K_goesOn σ (fun r2 σ1 => (¬ r2 = 0 → p_V_write σ1 140 (fun r4 σ3 => post r4 σ3)) ∧ (r2 = 0 → px 2 σ1))
def p_R_stop (σ : jS) (v1 : Int32) (post : Int32 → jS → Prop) (px : Nat → jS → Prop) : Prop :=
  (0 ≤ v1 → p_K_goesOn σ (fun r2 σ1 => (¬ r2 = 0 → p_K_halt σ1 (fun σ3 => (¬ v1 = 0 → p_V_write σ3 v1 (fun r5 σ4 => post r5 σ4)) ∧ (v1 = 0 → post 0 σ3))) ∧ (r2 = 0 → px 2 σ1))) ∧ (¬ 0 ≤ v1 → px 1 σ)
def p_R_resume (σ : jS) (post : Int32 → jS → Prop) (px : Nat → jS → Prop) : Prop :=
  p_K_currentPhase σ (fun r2 σ1 => (r2 = (7 : Int32) → p_D_size σ1 (fun r4 σ3 => p_S_clear σ3 r4 (fun σ5 => p_D_size σ5 (fun r7 σ6 => p_V_newestWhole σ6 r7 (fun r9 σ8 => p_V_load σ8 r9 (fun σ10 => p_K_enter σ10 0 (fun σ11 => post r9 σ11))))))) ∧ (¬ r2 = (7 : Int32) → px 2 σ1))
def p_R_poke_33 (post : jS → Prop) (px : Nat → jS → Prop) (v1 : Int32) (v2 : Int32) (v3 : Int32) (σ : jS) : Prop :=
  px 1 σ
def p_R_poke (σ : jS) (v1 : Int32) (v2 : Int32) (v3 : Int32) (post : jS → Prop) (px : Nat → jS → Prop) : Prop :=
  p_V_has σ v1 v2 (fun r2 σ1 => (¬ r2 = 0 → (v3 < 0 → p_R_poke_33 post px v1 v2 v3 σ1) ∧ (¬ v3 < 0 → (v3 ≤ (255 : Int32) → p_V_put σ1 v1 v2 v3 (fun σ3 => post σ3)) ∧ (¬ v3 ≤ (255 : Int32) → p_R_poke_33 post px v1 v2 v3 σ1))) ∧ (r2 = 0 → px 1 σ1))
def p_R_second (σ : jS) (v1 : Int32) (v2 : Int32) (post : Int32 → jS → Prop) (px : Nat → jS → Prop) : Prop :=
  p_D_has σ v1 (fun r2 σ1 => (¬ r2 = 0 → p_K_goesOn σ1 (fun r4 σ3 => (¬ r4 = 0 → p_S_stateOf σ3 v1 (fun r6 σ5 => (r6 = (3 : Int32) → p_D_deliver σ5 v1 v2 (fun σ7 => p_S_mark σ7 v1 (v1 + 1) 4 (fun σ8 => bz 1 ∧ post 1 σ8))) ∧ (¬ r6 = (3 : Int32) → bz 0 ∧ post 0 σ5))) ∧ (r4 = 0 → px 2 σ3))) ∧ (r2 = 0 → px 1 σ1))

set_option maxRecDepth 100000 in
theorem w_law_0 {p : Program} {l : Launch} {e : Env} {s : State} {m : MethodId} {args : Array Value} {below : List Frame} {meth : Method} {c : Code} {Q : State → Prop} {D : va_G} {A : Nat → Prop} {cI cA cL : ClassId} {ad am : Nat → Nat} {ao b L : Nat} {xs : Nat → Int32} (X : jv_CL p l s m args c D A cI cA cL b L xs) {nc ns : Nat} (hnc : nc + 1 ≤ room_1.cells) (hns : ns + 6 ≤ room_1.slots) {v4 : Int32} {σ ρ : jS} {fo : Nat → Int64} {post : jS → (Nat → Int64) → jS → Prop} (H9 : ∀ (σ : jS) (fo : Nat → Int64) (ρ : jS), post σ fo ρ → jv_V p l e room_1 s m args below meth c D jClasses A 7 (nc + 1) (ns + 6) Q (cw ad cI cA σ (oc ao cL fo :: mw am cI cA ρ [])) [(0, .ref b), (1, .ref (ad 0)), (2, .ref (am 0)), (3, .ref ao), (4, .int v4)] 863 []) (h : p_law_0 L xs v4 σ fo ρ post) : jv_V p l e room_1 s m args below meth c D jClasses A 7 nc ns Q (cw ad cI cA σ (oc ao cL fo :: mw am cI cA ρ [])) [(0, .ref b), (1, .ref (ad 0)), (2, .ref (am 0)), (3, .ref ao), (4, .int v4)] 124 [] := by
  obtain ⟨B, hml, hown, hts, hK, hA, hJ, hX, hbl, hbA, hl⟩ := id X
  have hc0 : nc + 0 ≤ room_1.cells ∧ ns + 0 ≤ room_1.slots := ⟨Nat.le_of_succ_le hnc, Nat.le_trans (Nat.add_le_add_left (Nat.zero_le 6) ns) hns⟩
  have hcm : nc + 1 + 0 ≤ room_1.cells ∧ ns + 6 + 0 ≤ room_1.slots := ⟨hnc, hns⟩
  unfold p_law_0 at h
  refine jv_aload_n B d_L_law_124 rfl 1 rfl ?_
  refine jv_aload_n B d_L_law_125 rfl 0 rfl ?_
  refine jv_iload B d_L_law_126 4 rfl ?_
  refine jv_iconst (v := 1) B d_L_law_128 (by decide) ?_
  refine jv_iadd B d_L_law_129 ?_
  refine jv_sld B hX hbl hbA h.1 d_L_law_130 ?_
  replace h := h.2
  refine jv_hs (As := [.ref (ad 0), .int (xs (v4 + 1).toNatClampNeg)]) B hml hown hts hK hA hJ (c_L_source hl (ad := ad) (cI := cI) (cA := cA) (cL := cL) (ao := ao) (G := mw am cI cA ρ []) h) (vx_cwSW 2 hts g_L_52 rfl rfl rfl hd_L_source ⟨Nat.le_of_ble_eq_true rfl, Nat.le_of_ble_eq_true rfl⟩) rfl (Nat.le_of_ble_eq_true rfl) d_L_law_131 ⟨hnc, hns⟩ rfl (fun r1 u2 h => ?_)
  refine jv_istore (lv' := [(5, .int r1), (0, .ref b), (1, .ref (ad 0)), (2, .ref (am 0)), (3, .ref ao), (4, .int v4)]) B d_L_law_134 (by decide) rfl ?_
  refine jv_aload_n B d_L_law_136 rfl 3 rfl ?_
  refine jv_aload_n B d_L_law_137 rfl 1 rfl ?_
  refine jv_iload B d_L_law_138 5 rfl ?_
  refine jv_iconst (v := 1) B d_L_law_140 (by decide) ?_
  refine jv_iadd B d_L_law_141 ?_
  refine jv_sld B hX hbl hbA h.1 d_L_law_142 ?_
  replace h := h.2
  refine jv_toM ?_
  refine jv_cvv (As := [.int (xs (v4 + 1).toNatClampNeg)]) B hml hown hts hK hA (c_M_source (ad := am) (cI := cI) (cA := cA) (cL := cL) (F := cw ad cI cA (u2.1) [oc ao cL (u2.2)]) h) (cwV 1 hts g_L_57 rfl rfl rfl hd_M_source ⟨Nat.le_of_ble_eq_true rfl, Nat.le_of_ble_eq_true rfl⟩) 0 5 rfl rfl rfl rfl (Nat.le_of_ble_eq_true rfl) d_L_law_143 hcm rfl (fun ρ3 h => ?_)
  refine jv_toC ?_
  refine jv_aload_n B d_L_law_146 rfl 3 rfl ?_
  refine jv_toM ?_
  refine jv_civ (As := []) B hml hown hts hK hA (c_M_thrown (ad := am) (cI := cI) (cA := cA) (cL := cL) (F := cw ad cI cA (u2.1) [oc ao cL (u2.2)]) h) (cwV 0 hts g_L_58 rfl rfl rfl hd_M_thrown ⟨Nat.le_of_ble_eq_true rfl, Nat.le_of_ble_eq_true rfl⟩) 0 5 rfl rfl rfl rfl (Nat.le_of_ble_eq_true rfl) d_L_law_147 hcm rfl (fun r4 ρ5 h => ?_)
  refine jv_toC ?_
  refine jv_iload B d_L_law_150 0 rfl ?_
  refine jv_icmp_eq (tgt := 157) B d_L_law_152 (by decide) (fun hc => ?_) (fun hc => ?_)
  · replace h := h.1 hc
    refine jv_goto (tgt := 863) B d_L_law_157 (by decide) ?_
    refine jv_sub [1, 2, 3, 4, 5] rfl ?_
    exact H9 _ _ _ h
  · replace h := h.2 hc
    refine jv_iconst (v := 0) B d_L_law_155 (by decide) ?_
    exact h.elim
set_option maxRecDepth 100000 in
theorem w_law_1 {p : Program} {l : Launch} {e : Env} {s : State} {m : MethodId} {args : Array Value} {below : List Frame} {meth : Method} {c : Code} {Q : State → Prop} {D : va_G} {A : Nat → Prop} {cI cA cL : ClassId} {ad am : Nat → Nat} {ao b L : Nat} {xs : Nat → Int32} (X : jv_CL p l s m args c D A cI cA cL b L xs) {nc ns : Nat} (hnc : nc + 1 ≤ room_1.cells) (hns : ns + 6 ≤ room_1.slots) {v4 : Int32} {σ ρ : jS} {fo : Nat → Int64} {post : jS → (Nat → Int64) → jS → Prop} (H9 : ∀ (σ : jS) (fo : Nat → Int64) (ρ : jS), post σ fo ρ → jv_V p l e room_1 s m args below meth c D jClasses A 7 (nc + 1) (ns + 6) Q (cw ad cI cA σ (oc ao cL fo :: mw am cI cA ρ [])) [(0, .ref b), (1, .ref (ad 0)), (2, .ref (am 0)), (3, .ref ao), (4, .int v4)] 863 []) (h : p_law_1 L xs v4 σ fo ρ post) : jv_V p l e room_1 s m args below meth c D jClasses A 7 nc ns Q (cw ad cI cA σ (oc ao cL fo :: mw am cI cA ρ [])) [(0, .ref b), (1, .ref (ad 0)), (2, .ref (am 0)), (3, .ref ao), (4, .int v4)] 160 [] := by
  obtain ⟨B, hml, hown, hts, hK, hA, hJ, hX, hbl, hbA, hl⟩ := id X
  have hc0 : nc + 0 ≤ room_1.cells ∧ ns + 0 ≤ room_1.slots := ⟨Nat.le_of_succ_le hnc, Nat.le_trans (Nat.add_le_add_left (Nat.zero_le 6) ns) hns⟩
  have hcm : nc + 1 + 0 ≤ room_1.cells ∧ ns + 6 + 0 ≤ room_1.slots := ⟨hnc, hns⟩
  unfold p_law_1 at h
  refine jv_aload_n B d_L_law_160 rfl 1 rfl ?_
  refine jv_aload_n B d_L_law_161 rfl 0 rfl ?_
  refine jv_iload B d_L_law_162 4 rfl ?_
  refine jv_iconst (v := 1) B d_L_law_164 (by decide) ?_
  refine jv_iadd B d_L_law_165 ?_
  refine jv_sld B hX hbl hbA h.1 d_L_law_166 ?_
  replace h := h.2
  refine jv_aload_n B d_L_law_167 rfl 0 rfl ?_
  refine jv_iload B d_L_law_168 4 rfl ?_
  refine jv_iconst (v := 2) B d_L_law_170 (by decide) ?_
  refine jv_iadd B d_L_law_171 ?_
  refine jv_sld B hX hbl hbA h.1 d_L_law_172 ?_
  replace h := h.2
  refine jv_aload_n B d_L_law_173 rfl 0 rfl ?_
  refine jv_iload B d_L_law_174 4 rfl ?_
  refine jv_iconst (v := 3) B d_L_law_176 (by decide) ?_
  refine jv_iadd B d_L_law_177 ?_
  refine jv_sld B hX hbl hbA h.1 d_L_law_178 ?_
  replace h := h.2
  refine jv_hs (As := [.ref (ad 0), .int (xs (v4 + 1).toNatClampNeg), .int (xs (v4 + 2).toNatClampNeg), .int (xs (v4 + 3).toNatClampNeg)]) B hml hown hts hK hA hJ (c_L_sector hl (ad := ad) (cI := cI) (cA := cA) (cL := cL) (ao := ao) (G := mw am cI cA ρ []) h) (vx_cwSW 4 hts g_L_61 rfl rfl rfl hd_L_sector ⟨Nat.le_of_ble_eq_true rfl, Nat.le_of_ble_eq_true rfl⟩) rfl (Nat.le_of_ble_eq_true rfl) d_L_law_179 ⟨hnc, hns⟩ rfl (fun r1 u2 h => ?_)
  refine jv_istore (lv' := [(5, .int r1), (0, .ref b), (1, .ref (ad 0)), (2, .ref (am 0)), (3, .ref ao), (4, .int v4)]) B d_L_law_182 (by decide) rfl ?_
  refine jv_aload_n B d_L_law_184 rfl 3 rfl ?_
  refine jv_aload_n B d_L_law_185 rfl 1 rfl ?_
  refine jv_iload B d_L_law_186 5 rfl ?_
  refine jv_iconst (v := 1) B d_L_law_188 (by decide) ?_
  refine jv_iadd B d_L_law_189 ?_
  refine jv_sld B hX hbl hbA h.1 d_L_law_190 ?_
  replace h := h.2
  refine jv_aload_n B d_L_law_191 rfl 1 rfl ?_
  refine jv_iload B d_L_law_192 5 rfl ?_
  refine jv_iconst (v := 2) B d_L_law_194 (by decide) ?_
  refine jv_iadd B d_L_law_195 ?_
  refine jv_sld B hX hbl hbA h.1 d_L_law_196 ?_
  replace h := h.2
  refine jv_aload_n B d_L_law_197 rfl 1 rfl ?_
  refine jv_iload B d_L_law_198 5 rfl ?_
  refine jv_iconst (v := 3) B d_L_law_200 (by decide) ?_
  refine jv_iadd B d_L_law_201 ?_
  refine jv_sld B hX hbl hbA h.1 d_L_law_202 ?_
  replace h := h.2
  refine jv_toM ?_
  refine jv_cvv (As := [.int (xs (v4 + 1).toNatClampNeg), .int (xs (v4 + 2).toNatClampNeg), .int (xs (v4 + 3).toNatClampNeg)]) B hml hown hts hK hA (c_M_sector (ad := am) (cI := cI) (cA := cA) (cL := cL) (F := cw ad cI cA (u2.1) [oc ao cL (u2.2)]) h) (cwV 3 hts g_L_64 rfl rfl rfl hd_M_sector ⟨Nat.le_of_ble_eq_true rfl, Nat.le_of_ble_eq_true rfl⟩) 0 5 rfl rfl rfl rfl (Nat.le_of_ble_eq_true rfl) d_L_law_203 hcm rfl (fun ρ3 h => ?_)
  refine jv_toC ?_
  refine jv_aload_n B d_L_law_206 rfl 3 rfl ?_
  refine jv_toM ?_
  refine jv_civ (As := []) B hml hown hts hK hA (c_M_thrown (ad := am) (cI := cI) (cA := cA) (cL := cL) (F := cw ad cI cA (u2.1) [oc ao cL (u2.2)]) h) (cwV 0 hts g_L_58 rfl rfl rfl hd_M_thrown ⟨Nat.le_of_ble_eq_true rfl, Nat.le_of_ble_eq_true rfl⟩) 0 5 rfl rfl rfl rfl (Nat.le_of_ble_eq_true rfl) d_L_law_207 hcm rfl (fun r4 ρ5 h => ?_)
  refine jv_toC ?_
  refine jv_iload B d_L_law_210 0 rfl ?_
  refine jv_icmp_eq (tgt := 217) B d_L_law_212 (by decide) (fun hc => ?_) (fun hc => ?_)
  · replace h := h.1 hc
    refine jv_goto (tgt := 863) B d_L_law_217 (by decide) ?_
    refine jv_sub [1, 2, 3, 4, 5] rfl ?_
    exact H9 _ _ _ h
  · replace h := h.2 hc
    refine jv_iconst (v := 0) B d_L_law_215 (by decide) ?_
    exact h.elim
set_option maxRecDepth 100000 in
theorem w_law_2 {p : Program} {l : Launch} {e : Env} {s : State} {m : MethodId} {args : Array Value} {below : List Frame} {meth : Method} {c : Code} {Q : State → Prop} {D : va_G} {A : Nat → Prop} {cI cA cL : ClassId} {ad am : Nat → Nat} {ao b L : Nat} {xs : Nat → Int32} (X : jv_CL p l s m args c D A cI cA cL b L xs) {nc ns : Nat} (hnc : nc + 1 ≤ room_1.cells) (hns : ns + 6 ≤ room_1.slots) {v4 : Int32} {σ ρ : jS} {fo : Nat → Int64} {post : jS → (Nat → Int64) → jS → Prop} (H9 : ∀ (σ : jS) (fo : Nat → Int64) (ρ : jS), post σ fo ρ → jv_V p l e room_1 s m args below meth c D jClasses A 7 (nc + 1) (ns + 6) Q (cw ad cI cA σ (oc ao cL fo :: mw am cI cA ρ [])) [(0, .ref b), (1, .ref (ad 0)), (2, .ref (am 0)), (3, .ref ao), (4, .int v4)] 863 []) (h : p_law_2 L xs v4 σ fo ρ post) : jv_V p l e room_1 s m args below meth c D jClasses A 7 nc ns Q (cw ad cI cA σ (oc ao cL fo :: mw am cI cA ρ [])) [(0, .ref b), (1, .ref (ad 0)), (2, .ref (am 0)), (3, .ref ao), (4, .int v4)] 220 [] := by
  obtain ⟨B, hml, hown, hts, hK, hA, hJ, hX, hbl, hbA, hl⟩ := id X
  have hc0 : nc + 0 ≤ room_1.cells ∧ ns + 0 ≤ room_1.slots := ⟨Nat.le_of_succ_le hnc, Nat.le_trans (Nat.add_le_add_left (Nat.zero_le 6) ns) hns⟩
  have hcm : nc + 1 + 0 ≤ room_1.cells ∧ ns + 6 + 0 ≤ room_1.slots := ⟨hnc, hns⟩
  unfold p_law_2 at h
  refine jv_aload_n B d_L_law_220 rfl 1 rfl ?_
  refine jv_aload_n B d_L_law_221 rfl 0 rfl ?_
  refine jv_iload B d_L_law_222 4 rfl ?_
  refine jv_iconst (v := 1) B d_L_law_224 (by decide) ?_
  refine jv_iadd B d_L_law_225 ?_
  refine jv_sld B hX hbl hbA h.1 d_L_law_226 ?_
  replace h := h.2
  refine jv_hs (As := [.ref (ad 0), .int (xs (v4 + 1).toNatClampNeg)]) B hml hown hts hK hA hJ (c_L_begin hl (ad := ad) (cI := cI) (cA := cA) (cL := cL) (ao := ao) (G := mw am cI cA ρ []) h) (vx_cwSW 2 hts g_L_65 rfl rfl rfl hd_L_begin ⟨Nat.le_of_ble_eq_true rfl, Nat.le_of_ble_eq_true rfl⟩) rfl (Nat.le_of_ble_eq_true rfl) d_L_law_227 ⟨hnc, hns⟩ rfl (fun r1 u2 h => ?_)
  refine jv_istore (lv' := [(5, .int r1), (0, .ref b), (1, .ref (ad 0)), (2, .ref (am 0)), (3, .ref ao), (4, .int v4)]) B d_L_law_230 (by decide) rfl ?_
  refine jv_aload_n B d_L_law_232 rfl 3 rfl ?_
  refine jv_aload_n B d_L_law_233 rfl 1 rfl ?_
  refine jv_iload B d_L_law_234 5 rfl ?_
  refine jv_iconst (v := 1) B d_L_law_236 (by decide) ?_
  refine jv_iadd B d_L_law_237 ?_
  refine jv_sld B hX hbl hbA h.1 d_L_law_238 ?_
  replace h := h.2
  refine jv_toM ?_
  refine jv_cvv (As := [.int (xs (v4 + 1).toNatClampNeg)]) B hml hown hts hK hA (c_M_begin (ad := am) (cI := cI) (cA := cA) (cL := cL) (F := cw ad cI cA (u2.1) [oc ao cL (u2.2)]) h) (cwV 1 hts g_L_67 rfl rfl rfl hd_M_begin ⟨Nat.le_of_ble_eq_true rfl, Nat.le_of_ble_eq_true rfl⟩) 0 5 rfl rfl rfl rfl (Nat.le_of_ble_eq_true rfl) d_L_law_239 hcm rfl (fun ρ3 h => ?_)
  refine jv_toC ?_
  refine jv_aload_n B d_L_law_242 rfl 3 rfl ?_
  refine jv_toM ?_
  refine jv_civ (As := []) B hml hown hts hK hA (c_M_thrown (ad := am) (cI := cI) (cA := cA) (cL := cL) (F := cw ad cI cA (u2.1) [oc ao cL (u2.2)]) h) (cwV 0 hts g_L_58 rfl rfl rfl hd_M_thrown ⟨Nat.le_of_ble_eq_true rfl, Nat.le_of_ble_eq_true rfl⟩) 0 5 rfl rfl rfl rfl (Nat.le_of_ble_eq_true rfl) d_L_law_243 hcm rfl (fun r4 ρ5 h => ?_)
  refine jv_toC ?_
  refine jv_iload B d_L_law_246 0 rfl ?_
  refine jv_icmp_eq (tgt := 253) B d_L_law_248 (by decide) (fun hc => ?_) (fun hc => ?_)
  · replace h := h.1 hc
    refine jv_goto (tgt := 863) B d_L_law_253 (by decide) ?_
    refine jv_sub [1, 2, 3, 4, 5] rfl ?_
    exact H9 _ _ _ h
  · replace h := h.2 hc
    refine jv_iconst (v := 0) B d_L_law_251 (by decide) ?_
    exact h.elim
set_option maxRecDepth 100000 in
theorem w_law_3 {p : Program} {l : Launch} {e : Env} {s : State} {m : MethodId} {args : Array Value} {below : List Frame} {meth : Method} {c : Code} {Q : State → Prop} {D : va_G} {A : Nat → Prop} {cI cA cL : ClassId} {ad am : Nat → Nat} {ao b L : Nat} {xs : Nat → Int32} (X : jv_CL p l s m args c D A cI cA cL b L xs) {nc ns : Nat} (hnc : nc + 1 ≤ room_1.cells) (hns : ns + 6 ≤ room_1.slots) {v4 : Int32} {σ ρ : jS} {fo : Nat → Int64} {post : jS → (Nat → Int64) → jS → Prop} (H9 : ∀ (σ : jS) (fo : Nat → Int64) (ρ : jS), post σ fo ρ → jv_V p l e room_1 s m args below meth c D jClasses A 7 (nc + 1) (ns + 6) Q (cw ad cI cA σ (oc ao cL fo :: mw am cI cA ρ [])) [(0, .ref b), (1, .ref (ad 0)), (2, .ref (am 0)), (3, .ref ao), (4, .int v4)] 863 []) (h : p_law_3 L xs v4 σ fo ρ post) : jv_V p l e room_1 s m args below meth c D jClasses A 7 nc ns Q (cw ad cI cA σ (oc ao cL fo :: mw am cI cA ρ [])) [(0, .ref b), (1, .ref (ad 0)), (2, .ref (am 0)), (3, .ref ao), (4, .int v4)] 256 [] := by
  obtain ⟨B, hml, hown, hts, hK, hA, hJ, hX, hbl, hbA, hl⟩ := id X
  have hc0 : nc + 0 ≤ room_1.cells ∧ ns + 0 ≤ room_1.slots := ⟨Nat.le_of_succ_le hnc, Nat.le_trans (Nat.add_le_add_left (Nat.zero_le 6) ns) hns⟩
  have hcm : nc + 1 + 0 ≤ room_1.cells ∧ ns + 6 + 0 ≤ room_1.slots := ⟨hnc, hns⟩
  unfold p_law_3 at h
  refine jv_aload_n B d_L_law_256 rfl 1 rfl ?_
  refine jv_aload_n B d_L_law_257 rfl 3 rfl ?_
  refine jv_hs (As := [.ref (ad 0), .ref ao]) B hml hown hts hK hA hJ (c_L_step hl (ad := ad) (cI := cI) (cA := cA) (cL := cL) (ao := ao) (G := mw am cI cA ρ []) h) (vx_cwSW 2 hts g_L_68 rfl rfl rfl hd_L_step ⟨Nat.le_of_ble_eq_true rfl, Nat.le_of_ble_eq_true rfl⟩) rfl (Nat.le_of_ble_eq_true rfl) d_L_law_258 ⟨hnc, hns⟩ rfl (fun r1 u2 h => ?_)
  refine jv_istore (lv' := [(5, .int r1), (0, .ref b), (1, .ref (ad 0)), (2, .ref (am 0)), (3, .ref ao), (4, .int v4)]) B d_L_law_261 (by decide) rfl ?_
  refine jv_aload_n B d_L_law_263 rfl 3 rfl ?_
  refine jv_toM ?_
  refine jv_civ (As := []) B hml hown hts hK hA (c_M_step (ad := am) (cI := cI) (cA := cA) (cL := cL) (F := cw ad cI cA (u2.1) [oc ao cL (u2.2)]) h) (cwV 0 hts g_L_71 rfl rfl rfl hd_M_step ⟨Nat.le_of_ble_eq_true rfl, Nat.le_of_ble_eq_true rfl⟩) 0 5 rfl rfl rfl rfl (Nat.le_of_ble_eq_true rfl) d_L_law_264 hcm rfl (fun r3 ρ4 h => ?_)
  refine jv_toC ?_
  refine jv_istore (lv' := [(6, .int r3), (5, .int r1), (0, .ref b), (1, .ref (ad 0)), (2, .ref (am 0)), (3, .ref ao), (4, .int v4)]) B d_L_law_267 (by decide) rfl ?_
  refine jv_aload_n B d_L_law_269 rfl 4 rfl ?_
  refine jv_toM ?_
  refine jv_civ (As := []) B hml hown hts hK hA (c_M_thrown (ad := am) (cI := cI) (cA := cA) (cL := cL) (F := cw ad cI cA (u2.1) [oc ao cL (u2.2)]) h) (cwV 0 hts g_L_58 rfl rfl rfl hd_M_thrown ⟨Nat.le_of_ble_eq_true rfl, Nat.le_of_ble_eq_true rfl⟩) 0 5 rfl rfl rfl rfl (Nat.le_of_ble_eq_true rfl) d_L_law_270 hcm rfl (fun r5 ρ6 h => ?_)
  refine jv_toC ?_
  refine jv_iload B d_L_law_273 1 rfl ?_
  refine jv_icmp_eq (tgt := 280) B d_L_law_275 (by decide) (fun hc => ?_) (fun hc => ?_)
  · replace h := h.1 hc
    refine jv_iload B d_L_law_280 1 rfl ?_
    refine jv_if_ne (tgt := 297) B d_L_law_282 (by decide) (fun hc => ?_) (fun hc => ?_)
    · replace h := h.1 hc
      refine jv_goto (tgt := 863) B d_L_law_297 (by decide) ?_
      refine jv_sub [2, 3, 4, 5, 6] rfl ?_
      exact H9 _ _ _ h
    · replace h := h.2 hc
      refine jv_aload_n B d_L_law_285 rfl 5 rfl ?_
      refine jv_iconst (v := 0) B d_L_law_286 (by decide) ?_
      refine jv_lald B hK 14 2 rfl rfl (vp_in_nI (n := 0) (N := 1) (by decide) (by decide)) d_L_law_287 ?_
      refine jv_iload B d_L_law_288 0 rfl ?_
      refine jv_i2l (v := r3.toInt64) B d_L_law_290 rfl ?_
      refine jv_lcmp B d_L_law_291 ?_
      refine jv_if_eq (tgt := 297) B d_L_law_292 (by decide) (fun hc => ?_) (fun hc => ?_)
      · replace h := h.1 hc
        refine jv_goto (tgt := 863) B d_L_law_297 (by decide) ?_
        refine jv_sub [2, 3, 4, 5, 6] rfl ?_
        exact H9 _ _ _ h
      · replace h := h.2 hc
        refine jv_iconst (v := 0) B d_L_law_295 (by decide) ?_
        exact h.elim
  · replace h := h.2 hc
    refine jv_iconst (v := 0) B d_L_law_278 (by decide) ?_
    exact h.elim
set_option maxRecDepth 100000 in
theorem w_law_4 {p : Program} {l : Launch} {e : Env} {s : State} {m : MethodId} {args : Array Value} {below : List Frame} {meth : Method} {c : Code} {Q : State → Prop} {D : va_G} {A : Nat → Prop} {cI cA cL : ClassId} {ad am : Nat → Nat} {ao b L : Nat} {xs : Nat → Int32} (X : jv_CL p l s m args c D A cI cA cL b L xs) {nc ns : Nat} (hnc : nc + 1 ≤ room_1.cells) (hns : ns + 6 ≤ room_1.slots) {v4 : Int32} {σ ρ : jS} {fo : Nat → Int64} {post : jS → (Nat → Int64) → jS → Prop} (H9 : ∀ (σ : jS) (fo : Nat → Int64) (ρ : jS), post σ fo ρ → jv_V p l e room_1 s m args below meth c D jClasses A 7 (nc + 1) (ns + 6) Q (cw ad cI cA σ (oc ao cL fo :: mw am cI cA ρ [])) [(0, .ref b), (1, .ref (ad 0)), (2, .ref (am 0)), (3, .ref ao), (4, .int v4)] 863 []) (h : p_law_4 L xs v4 σ fo ρ post) : jv_V p l e room_1 s m args below meth c D jClasses A 7 nc ns Q (cw ad cI cA σ (oc ao cL fo :: mw am cI cA ρ [])) [(0, .ref b), (1, .ref (ad 0)), (2, .ref (am 0)), (3, .ref ao), (4, .int v4)] 300 [] := by
  obtain ⟨B, hml, hown, hts, hK, hA, hJ, hX, hbl, hbA, hl⟩ := id X
  have hc0 : nc + 0 ≤ room_1.cells ∧ ns + 0 ≤ room_1.slots := ⟨Nat.le_of_succ_le hnc, Nat.le_trans (Nat.add_le_add_left (Nat.zero_le 6) ns) hns⟩
  have hcm : nc + 1 + 0 ≤ room_1.cells ∧ ns + 6 + 0 ≤ room_1.slots := ⟨hnc, hns⟩
  unfold p_law_4 at h
  refine jv_aload_n B d_L_law_300 rfl 1 rfl ?_
  refine jv_aload_n B d_L_law_301 rfl 0 rfl ?_
  refine jv_iload B d_L_law_302 4 rfl ?_
  refine jv_iconst (v := 1) B d_L_law_304 (by decide) ?_
  refine jv_iadd B d_L_law_305 ?_
  refine jv_sld B hX hbl hbA h.1 d_L_law_306 ?_
  replace h := h.2
  refine jv_aload_n B d_L_law_307 rfl 3 rfl ?_
  refine jv_hs (As := [.ref (ad 0), .int (xs (v4 + 1).toNatClampNeg), .ref ao]) B hml hown hts hK hA hJ (c_L_run hl (ad := ad) (cI := cI) (cA := cA) (cL := cL) (ao := ao) (G := mw am cI cA ρ []) h) (vx_cwSW 3 hts g_L_72 rfl rfl rfl hd_L_run ⟨Nat.le_of_ble_eq_true rfl, Nat.le_of_ble_eq_true rfl⟩) rfl (Nat.le_of_ble_eq_true rfl) d_L_law_308 ⟨hnc, hns⟩ rfl (fun r1 u2 h => ?_)
  refine jv_istore (lv' := [(5, .int r1), (0, .ref b), (1, .ref (ad 0)), (2, .ref (am 0)), (3, .ref ao), (4, .int v4)]) B d_L_law_311 (by decide) rfl ?_
  refine jv_aload_n B d_L_law_313 rfl 3 rfl ?_
  refine jv_aload_n B d_L_law_314 rfl 1 rfl ?_
  refine jv_iload B d_L_law_315 5 rfl ?_
  refine jv_iconst (v := 1) B d_L_law_317 (by decide) ?_
  refine jv_iadd B d_L_law_318 ?_
  refine jv_sld B hX hbl hbA h.1 d_L_law_319 ?_
  replace h := h.2
  refine jv_toM ?_
  refine jv_civ (As := [.int (xs (v4 + 1).toNatClampNeg)]) B hml hown hts hK hA (c_M_run (ad := am) (cI := cI) (cA := cA) (cL := cL) (F := cw ad cI cA (u2.1) [oc ao cL (u2.2)]) h) (cwV 1 hts g_L_75 rfl rfl rfl hd_M_run ⟨Nat.le_of_ble_eq_true rfl, Nat.le_of_ble_eq_true rfl⟩) 0 5 rfl rfl rfl rfl (Nat.le_of_ble_eq_true rfl) d_L_law_320 hcm rfl (fun r3 ρ4 h => ?_)
  refine jv_toC ?_
  refine jv_istore (lv' := [(6, .int r3), (5, .int r1), (0, .ref b), (1, .ref (ad 0)), (2, .ref (am 0)), (3, .ref ao), (4, .int v4)]) B d_L_law_323 (by decide) rfl ?_
  refine jv_aload_n B d_L_law_325 rfl 4 rfl ?_
  refine jv_toM ?_
  refine jv_civ (As := []) B hml hown hts hK hA (c_M_thrown (ad := am) (cI := cI) (cA := cA) (cL := cL) (F := cw ad cI cA (u2.1) [oc ao cL (u2.2)]) h) (cwV 0 hts g_L_58 rfl rfl rfl hd_M_thrown ⟨Nat.le_of_ble_eq_true rfl, Nat.le_of_ble_eq_true rfl⟩) 0 5 rfl rfl rfl rfl (Nat.le_of_ble_eq_true rfl) d_L_law_326 hcm rfl (fun r5 ρ6 h => ?_)
  refine jv_toC ?_
  refine jv_iload B d_L_law_329 1 rfl ?_
  refine jv_icmp_eq (tgt := 336) B d_L_law_331 (by decide) (fun hc => ?_) (fun hc => ?_)
  · replace h := h.1 hc
    refine jv_iload B d_L_law_336 1 rfl ?_
    refine jv_if_ne (tgt := 353) B d_L_law_338 (by decide) (fun hc => ?_) (fun hc => ?_)
    · replace h := h.1 hc
      refine jv_goto (tgt := 863) B d_L_law_353 (by decide) ?_
      refine jv_sub [2, 3, 4, 5, 6] rfl ?_
      exact H9 _ _ _ h
    · replace h := h.2 hc
      refine jv_aload_n B d_L_law_341 rfl 5 rfl ?_
      refine jv_iconst (v := 0) B d_L_law_342 (by decide) ?_
      refine jv_lald B hK 14 2 rfl rfl (vp_in_nI (n := 0) (N := 1) (by decide) (by decide)) d_L_law_343 ?_
      refine jv_iload B d_L_law_344 0 rfl ?_
      refine jv_i2l (v := r3.toInt64) B d_L_law_346 rfl ?_
      refine jv_lcmp B d_L_law_347 ?_
      refine jv_if_eq (tgt := 353) B d_L_law_348 (by decide) (fun hc => ?_) (fun hc => ?_)
      · replace h := h.1 hc
        refine jv_goto (tgt := 863) B d_L_law_353 (by decide) ?_
        refine jv_sub [2, 3, 4, 5, 6] rfl ?_
        exact H9 _ _ _ h
      · replace h := h.2 hc
        refine jv_iconst (v := 0) B d_L_law_351 (by decide) ?_
        exact h.elim
  · replace h := h.2 hc
    refine jv_iconst (v := 0) B d_L_law_334 (by decide) ?_
    exact h.elim
set_option maxRecDepth 100000 in
theorem w_law_5 {p : Program} {l : Launch} {e : Env} {s : State} {m : MethodId} {args : Array Value} {below : List Frame} {meth : Method} {c : Code} {Q : State → Prop} {D : va_G} {A : Nat → Prop} {cI cA cL : ClassId} {ad am : Nat → Nat} {ao b L : Nat} {xs : Nat → Int32} (X : jv_CL p l s m args c D A cI cA cL b L xs) {nc ns : Nat} (hnc : nc + 1 ≤ room_1.cells) (hns : ns + 6 ≤ room_1.slots) {v4 : Int32} {σ ρ : jS} {fo : Nat → Int64} {post : jS → (Nat → Int64) → jS → Prop} (H9 : ∀ (σ : jS) (fo : Nat → Int64) (ρ : jS), post σ fo ρ → jv_V p l e room_1 s m args below meth c D jClasses A 7 (nc + 1) (ns + 6) Q (cw ad cI cA σ (oc ao cL fo :: mw am cI cA ρ [])) [(0, .ref b), (1, .ref (ad 0)), (2, .ref (am 0)), (3, .ref ao), (4, .int v4)] 863 []) (h : p_law_5 L xs v4 σ fo ρ post) : jv_V p l e room_1 s m args below meth c D jClasses A 7 nc ns Q (cw ad cI cA σ (oc ao cL fo :: mw am cI cA ρ [])) [(0, .ref b), (1, .ref (ad 0)), (2, .ref (am 0)), (3, .ref ao), (4, .int v4)] 356 [] := by
  obtain ⟨B, hml, hown, hts, hK, hA, hJ, hX, hbl, hbA, hl⟩ := id X
  have hc0 : nc + 0 ≤ room_1.cells ∧ ns + 0 ≤ room_1.slots := ⟨Nat.le_of_succ_le hnc, Nat.le_trans (Nat.add_le_add_left (Nat.zero_le 6) ns) hns⟩
  have hcm : nc + 1 + 0 ≤ room_1.cells ∧ ns + 6 + 0 ≤ room_1.slots := ⟨hnc, hns⟩
  unfold p_law_5 at h
  refine jv_aload_n B d_L_law_356 rfl 1 rfl ?_
  refine jv_aload_n B d_L_law_357 rfl 3 rfl ?_
  refine jv_hs (As := [.ref (ad 0), .ref ao]) B hml hown hts hK hA hJ (c_L_save hl (ad := ad) (cI := cI) (cA := cA) (cL := cL) (ao := ao) (G := mw am cI cA ρ []) h) (vx_cwSW 2 hts g_L_76 rfl rfl rfl hd_L_save ⟨Nat.le_of_ble_eq_true rfl, Nat.le_of_ble_eq_true rfl⟩) rfl (Nat.le_of_ble_eq_true rfl) d_L_law_358 ⟨hnc, hns⟩ rfl (fun r1 u2 h => ?_)
  refine jv_istore (lv' := [(5, .int r1), (0, .ref b), (1, .ref (ad 0)), (2, .ref (am 0)), (3, .ref ao), (4, .int v4)]) B d_L_law_361 (by decide) rfl ?_
  refine jv_aload_n B d_L_law_363 rfl 3 rfl ?_
  refine jv_toM ?_
  refine jv_civ (As := []) B hml hown hts hK hA (c_M_save (ad := am) (cI := cI) (cA := cA) (cL := cL) (F := cw ad cI cA (u2.1) [oc ao cL (u2.2)]) h) (cwV 0 hts g_L_78 rfl rfl rfl hd_M_save ⟨Nat.le_of_ble_eq_true rfl, Nat.le_of_ble_eq_true rfl⟩) 0 5 rfl rfl rfl rfl (Nat.le_of_ble_eq_true rfl) d_L_law_364 hcm rfl (fun r3 ρ4 h => ?_)
  refine jv_toC ?_
  refine jv_istore (lv' := [(6, .int r3), (5, .int r1), (0, .ref b), (1, .ref (ad 0)), (2, .ref (am 0)), (3, .ref ao), (4, .int v4)]) B d_L_law_367 (by decide) rfl ?_
  refine jv_aload_n B d_L_law_369 rfl 4 rfl ?_
  refine jv_toM ?_
  refine jv_civ (As := []) B hml hown hts hK hA (c_M_thrown (ad := am) (cI := cI) (cA := cA) (cL := cL) (F := cw ad cI cA (u2.1) [oc ao cL (u2.2)]) h) (cwV 0 hts g_L_58 rfl rfl rfl hd_M_thrown ⟨Nat.le_of_ble_eq_true rfl, Nat.le_of_ble_eq_true rfl⟩) 0 5 rfl rfl rfl rfl (Nat.le_of_ble_eq_true rfl) d_L_law_370 hcm rfl (fun r5 ρ6 h => ?_)
  refine jv_toC ?_
  refine jv_iload B d_L_law_373 1 rfl ?_
  refine jv_icmp_eq (tgt := 380) B d_L_law_375 (by decide) (fun hc => ?_) (fun hc => ?_)
  · replace h := h.1 hc
    refine jv_iload B d_L_law_380 1 rfl ?_
    refine jv_if_ne (tgt := 397) B d_L_law_382 (by decide) (fun hc => ?_) (fun hc => ?_)
    · replace h := h.1 hc
      refine jv_goto (tgt := 863) B d_L_law_397 (by decide) ?_
      refine jv_sub [2, 3, 4, 5, 6] rfl ?_
      exact H9 _ _ _ h
    · replace h := h.2 hc
      refine jv_aload_n B d_L_law_385 rfl 5 rfl ?_
      refine jv_iconst (v := 0) B d_L_law_386 (by decide) ?_
      refine jv_lald B hK 14 2 rfl rfl (vp_in_nI (n := 0) (N := 1) (by decide) (by decide)) d_L_law_387 ?_
      refine jv_iload B d_L_law_388 0 rfl ?_
      refine jv_i2l (v := r3.toInt64) B d_L_law_390 rfl ?_
      refine jv_lcmp B d_L_law_391 ?_
      refine jv_if_eq (tgt := 397) B d_L_law_392 (by decide) (fun hc => ?_) (fun hc => ?_)
      · replace h := h.1 hc
        refine jv_goto (tgt := 863) B d_L_law_397 (by decide) ?_
        refine jv_sub [2, 3, 4, 5, 6] rfl ?_
        exact H9 _ _ _ h
      · replace h := h.2 hc
        refine jv_iconst (v := 0) B d_L_law_395 (by decide) ?_
        exact h.elim
  · replace h := h.2 hc
    refine jv_iconst (v := 0) B d_L_law_378 (by decide) ?_
    exact h.elim
set_option maxRecDepth 100000 in
theorem w_law_6 {p : Program} {l : Launch} {e : Env} {s : State} {m : MethodId} {args : Array Value} {below : List Frame} {meth : Method} {c : Code} {Q : State → Prop} {D : va_G} {A : Nat → Prop} {cI cA cL : ClassId} {ad am : Nat → Nat} {ao b L : Nat} {xs : Nat → Int32} (X : jv_CL p l s m args c D A cI cA cL b L xs) {nc ns : Nat} (hnc : nc + 1 ≤ room_1.cells) (hns : ns + 6 ≤ room_1.slots) {v4 : Int32} {σ ρ : jS} {fo : Nat → Int64} {post : jS → (Nat → Int64) → jS → Prop} (H9 : ∀ (σ : jS) (fo : Nat → Int64) (ρ : jS), post σ fo ρ → jv_V p l e room_1 s m args below meth c D jClasses A 7 (nc + 1) (ns + 6) Q (cw ad cI cA σ (oc ao cL fo :: mw am cI cA ρ [])) [(0, .ref b), (1, .ref (ad 0)), (2, .ref (am 0)), (3, .ref ao), (4, .int v4)] 863 []) (h : p_law_6 L xs v4 σ fo ρ post) : jv_V p l e room_1 s m args below meth c D jClasses A 7 nc ns Q (cw ad cI cA σ (oc ao cL fo :: mw am cI cA ρ [])) [(0, .ref b), (1, .ref (ad 0)), (2, .ref (am 0)), (3, .ref ao), (4, .int v4)] 400 [] := by
  obtain ⟨B, hml, hown, hts, hK, hA, hJ, hX, hbl, hbA, hl⟩ := id X
  have hc0 : nc + 0 ≤ room_1.cells ∧ ns + 0 ≤ room_1.slots := ⟨Nat.le_of_succ_le hnc, Nat.le_trans (Nat.add_le_add_left (Nat.zero_le 6) ns) hns⟩
  have hcm : nc + 1 + 0 ≤ room_1.cells ∧ ns + 6 + 0 ≤ room_1.slots := ⟨hnc, hns⟩
  unfold p_law_6 at h
  refine jv_aload_n B d_L_law_400 rfl 1 rfl ?_
  refine jv_aload_n B d_L_law_401 rfl 0 rfl ?_
  refine jv_iload B d_L_law_402 4 rfl ?_
  refine jv_iconst (v := 1) B d_L_law_404 (by decide) ?_
  refine jv_iadd B d_L_law_405 ?_
  refine jv_sld B hX hbl hbA h.1 d_L_law_406 ?_
  replace h := h.2
  refine jv_aload_n B d_L_law_407 rfl 3 rfl ?_
  refine jv_hs (As := [.ref (ad 0), .int (xs (v4 + 1).toNatClampNeg), .ref ao]) B hml hown hts hK hA hJ (c_L_stop hl (ad := ad) (cI := cI) (cA := cA) (cL := cL) (ao := ao) (G := mw am cI cA ρ []) h) (vx_cwSW 3 hts g_L_79 rfl rfl rfl hd_L_stop ⟨Nat.le_of_ble_eq_true rfl, Nat.le_of_ble_eq_true rfl⟩) rfl (Nat.le_of_ble_eq_true rfl) d_L_law_408 ⟨hnc, hns⟩ rfl (fun r1 u2 h => ?_)
  refine jv_istore (lv' := [(5, .int r1), (0, .ref b), (1, .ref (ad 0)), (2, .ref (am 0)), (3, .ref ao), (4, .int v4)]) B d_L_law_411 (by decide) rfl ?_
  refine jv_aload_n B d_L_law_413 rfl 3 rfl ?_
  refine jv_aload_n B d_L_law_414 rfl 1 rfl ?_
  refine jv_iload B d_L_law_415 5 rfl ?_
  refine jv_iconst (v := 1) B d_L_law_417 (by decide) ?_
  refine jv_iadd B d_L_law_418 ?_
  refine jv_sld B hX hbl hbA h.1 d_L_law_419 ?_
  replace h := h.2
  refine jv_toM ?_
  refine jv_civ (As := [.int (xs (v4 + 1).toNatClampNeg)]) B hml hown hts hK hA (c_M_stop (ad := am) (cI := cI) (cA := cA) (cL := cL) (F := cw ad cI cA (u2.1) [oc ao cL (u2.2)]) h) (cwV 1 hts g_L_81 rfl rfl rfl hd_M_stop ⟨Nat.le_of_ble_eq_true rfl, Nat.le_of_ble_eq_true rfl⟩) 0 5 rfl rfl rfl rfl (Nat.le_of_ble_eq_true rfl) d_L_law_420 hcm rfl (fun r3 ρ4 h => ?_)
  refine jv_toC ?_
  refine jv_istore (lv' := [(6, .int r3), (5, .int r1), (0, .ref b), (1, .ref (ad 0)), (2, .ref (am 0)), (3, .ref ao), (4, .int v4)]) B d_L_law_423 (by decide) rfl ?_
  refine jv_aload_n B d_L_law_425 rfl 4 rfl ?_
  refine jv_toM ?_
  refine jv_civ (As := []) B hml hown hts hK hA (c_M_thrown (ad := am) (cI := cI) (cA := cA) (cL := cL) (F := cw ad cI cA (u2.1) [oc ao cL (u2.2)]) h) (cwV 0 hts g_L_58 rfl rfl rfl hd_M_thrown ⟨Nat.le_of_ble_eq_true rfl, Nat.le_of_ble_eq_true rfl⟩) 0 5 rfl rfl rfl rfl (Nat.le_of_ble_eq_true rfl) d_L_law_426 hcm rfl (fun r5 ρ6 h => ?_)
  refine jv_toC ?_
  refine jv_iload B d_L_law_429 1 rfl ?_
  refine jv_icmp_eq (tgt := 436) B d_L_law_431 (by decide) (fun hc => ?_) (fun hc => ?_)
  · replace h := h.1 hc
    refine jv_iload B d_L_law_436 1 rfl ?_
    refine jv_if_ne (tgt := 453) B d_L_law_438 (by decide) (fun hc => ?_) (fun hc => ?_)
    · replace h := h.1 hc
      refine jv_goto (tgt := 863) B d_L_law_453 (by decide) ?_
      refine jv_sub [2, 3, 4, 5, 6] rfl ?_
      exact H9 _ _ _ h
    · replace h := h.2 hc
      refine jv_aload_n B d_L_law_441 rfl 5 rfl ?_
      refine jv_iconst (v := 0) B d_L_law_442 (by decide) ?_
      refine jv_lald B hK 14 2 rfl rfl (vp_in_nI (n := 0) (N := 1) (by decide) (by decide)) d_L_law_443 ?_
      refine jv_iload B d_L_law_444 0 rfl ?_
      refine jv_i2l (v := r3.toInt64) B d_L_law_446 rfl ?_
      refine jv_lcmp B d_L_law_447 ?_
      refine jv_if_eq (tgt := 453) B d_L_law_448 (by decide) (fun hc => ?_) (fun hc => ?_)
      · replace h := h.1 hc
        refine jv_goto (tgt := 863) B d_L_law_453 (by decide) ?_
        refine jv_sub [2, 3, 4, 5, 6] rfl ?_
        exact H9 _ _ _ h
      · replace h := h.2 hc
        refine jv_iconst (v := 0) B d_L_law_451 (by decide) ?_
        exact h.elim
  · replace h := h.2 hc
    refine jv_iconst (v := 0) B d_L_law_434 (by decide) ?_
    exact h.elim
set_option maxRecDepth 100000 in
theorem w_law_7 {p : Program} {l : Launch} {e : Env} {s : State} {m : MethodId} {args : Array Value} {below : List Frame} {meth : Method} {c : Code} {Q : State → Prop} {D : va_G} {A : Nat → Prop} {cI cA cL : ClassId} {ad am : Nat → Nat} {ao b L : Nat} {xs : Nat → Int32} (X : jv_CL p l s m args c D A cI cA cL b L xs) {nc ns : Nat} (hnc : nc + 1 ≤ room_1.cells) (hns : ns + 6 ≤ room_1.slots) {v4 : Int32} {σ ρ : jS} {fo : Nat → Int64} {post : jS → (Nat → Int64) → jS → Prop} (H9 : ∀ (σ : jS) (fo : Nat → Int64) (ρ : jS), post σ fo ρ → jv_V p l e room_1 s m args below meth c D jClasses A 7 (nc + 1) (ns + 6) Q (cw ad cI cA σ (oc ao cL fo :: mw am cI cA ρ [])) [(0, .ref b), (1, .ref (ad 0)), (2, .ref (am 0)), (3, .ref ao), (4, .int v4)] 863 []) (h : p_law_7 L xs v4 σ fo ρ post) : jv_V p l e room_1 s m args below meth c D jClasses A 7 nc ns Q (cw ad cI cA σ (oc ao cL fo :: mw am cI cA ρ [])) [(0, .ref b), (1, .ref (ad 0)), (2, .ref (am 0)), (3, .ref ao), (4, .int v4)] 456 [] := by
  obtain ⟨B, hml, hown, hts, hK, hA, hJ, hX, hbl, hbA, hl⟩ := id X
  have hc0 : nc + 0 ≤ room_1.cells ∧ ns + 0 ≤ room_1.slots := ⟨Nat.le_of_succ_le hnc, Nat.le_trans (Nat.add_le_add_left (Nat.zero_le 6) ns) hns⟩
  have hcm : nc + 1 + 0 ≤ room_1.cells ∧ ns + 6 + 0 ≤ room_1.slots := ⟨hnc, hns⟩
  unfold p_law_7 at h
  refine jv_aload_n B d_L_law_456 rfl 1 rfl ?_
  refine jv_aload_n B d_L_law_457 rfl 3 rfl ?_
  refine jv_hs (As := [.ref (ad 0), .ref ao]) B hml hown hts hK hA hJ (c_L_resume hl (ad := ad) (cI := cI) (cA := cA) (cL := cL) (ao := ao) (G := mw am cI cA ρ []) h) (vx_cwSW 2 hts g_L_82 rfl rfl rfl hd_L_resume ⟨Nat.le_of_ble_eq_true rfl, Nat.le_of_ble_eq_true rfl⟩) rfl (Nat.le_of_ble_eq_true rfl) d_L_law_458 ⟨hnc, hns⟩ rfl (fun r1 u2 h => ?_)
  refine jv_istore (lv' := [(5, .int r1), (0, .ref b), (1, .ref (ad 0)), (2, .ref (am 0)), (3, .ref ao), (4, .int v4)]) B d_L_law_461 (by decide) rfl ?_
  refine jv_aload_n B d_L_law_463 rfl 3 rfl ?_
  refine jv_toM ?_
  refine jv_civ (As := []) B hml hown hts hK hA (c_M_resume (ad := am) (cI := cI) (cA := cA) (cL := cL) (F := cw ad cI cA (u2.1) [oc ao cL (u2.2)]) h) (cwV 0 hts g_L_84 rfl rfl rfl hd_M_resume ⟨Nat.le_of_ble_eq_true rfl, Nat.le_of_ble_eq_true rfl⟩) 0 5 rfl rfl rfl rfl (Nat.le_of_ble_eq_true rfl) d_L_law_464 hcm rfl (fun r3 ρ4 h => ?_)
  refine jv_toC ?_
  refine jv_istore (lv' := [(6, .int r3), (5, .int r1), (0, .ref b), (1, .ref (ad 0)), (2, .ref (am 0)), (3, .ref ao), (4, .int v4)]) B d_L_law_467 (by decide) rfl ?_
  refine jv_aload_n B d_L_law_469 rfl 4 rfl ?_
  refine jv_toM ?_
  refine jv_civ (As := []) B hml hown hts hK hA (c_M_thrown (ad := am) (cI := cI) (cA := cA) (cL := cL) (F := cw ad cI cA (u2.1) [oc ao cL (u2.2)]) h) (cwV 0 hts g_L_58 rfl rfl rfl hd_M_thrown ⟨Nat.le_of_ble_eq_true rfl, Nat.le_of_ble_eq_true rfl⟩) 0 5 rfl rfl rfl rfl (Nat.le_of_ble_eq_true rfl) d_L_law_470 hcm rfl (fun r5 ρ6 h => ?_)
  refine jv_toC ?_
  refine jv_iload B d_L_law_473 1 rfl ?_
  refine jv_icmp_eq (tgt := 480) B d_L_law_475 (by decide) (fun hc => ?_) (fun hc => ?_)
  · replace h := h.1 hc
    refine jv_iload B d_L_law_480 1 rfl ?_
    refine jv_if_ne (tgt := 497) B d_L_law_482 (by decide) (fun hc => ?_) (fun hc => ?_)
    · replace h := h.1 hc
      refine jv_goto (tgt := 863) B d_L_law_497 (by decide) ?_
      refine jv_sub [2, 3, 4, 5, 6] rfl ?_
      exact H9 _ _ _ h
    · replace h := h.2 hc
      refine jv_aload_n B d_L_law_485 rfl 5 rfl ?_
      refine jv_iconst (v := 0) B d_L_law_486 (by decide) ?_
      refine jv_lald B hK 14 2 rfl rfl (vp_in_nI (n := 0) (N := 1) (by decide) (by decide)) d_L_law_487 ?_
      refine jv_iload B d_L_law_488 0 rfl ?_
      refine jv_i2l (v := r3.toInt64) B d_L_law_490 rfl ?_
      refine jv_lcmp B d_L_law_491 ?_
      refine jv_if_eq (tgt := 497) B d_L_law_492 (by decide) (fun hc => ?_) (fun hc => ?_)
      · replace h := h.1 hc
        refine jv_goto (tgt := 863) B d_L_law_497 (by decide) ?_
        refine jv_sub [2, 3, 4, 5, 6] rfl ?_
        exact H9 _ _ _ h
      · replace h := h.2 hc
        refine jv_iconst (v := 0) B d_L_law_495 (by decide) ?_
        exact h.elim
  · replace h := h.2 hc
    refine jv_iconst (v := 0) B d_L_law_478 (by decide) ?_
    exact h.elim
set_option maxRecDepth 100000 in
theorem w_law_8 {p : Program} {l : Launch} {e : Env} {s : State} {m : MethodId} {args : Array Value} {below : List Frame} {meth : Method} {c : Code} {Q : State → Prop} {D : va_G} {A : Nat → Prop} {cI cA cL : ClassId} {ad am : Nat → Nat} {ao b L : Nat} {xs : Nat → Int32} (X : jv_CL p l s m args c D A cI cA cL b L xs) {nc ns : Nat} (hnc : nc + 1 ≤ room_1.cells) (hns : ns + 6 ≤ room_1.slots) {v4 : Int32} {σ ρ : jS} {fo : Nat → Int64} {post : jS → (Nat → Int64) → jS → Prop} (H9 : ∀ (σ : jS) (fo : Nat → Int64) (ρ : jS), post σ fo ρ → jv_V p l e room_1 s m args below meth c D jClasses A 7 (nc + 1) (ns + 6) Q (cw ad cI cA σ (oc ao cL fo :: mw am cI cA ρ [])) [(0, .ref b), (1, .ref (ad 0)), (2, .ref (am 0)), (3, .ref ao), (4, .int v4)] 863 []) (h : p_law_8 L xs v4 σ fo ρ post) : jv_V p l e room_1 s m args below meth c D jClasses A 7 nc ns Q (cw ad cI cA σ (oc ao cL fo :: mw am cI cA ρ [])) [(0, .ref b), (1, .ref (ad 0)), (2, .ref (am 0)), (3, .ref ao), (4, .int v4)] 500 [] := by
  obtain ⟨B, hml, hown, hts, hK, hA, hJ, hX, hbl, hbA, hl⟩ := id X
  have hc0 : nc + 0 ≤ room_1.cells ∧ ns + 0 ≤ room_1.slots := ⟨Nat.le_of_succ_le hnc, Nat.le_trans (Nat.add_le_add_left (Nat.zero_le 6) ns) hns⟩
  have hcm : nc + 1 + 0 ≤ room_1.cells ∧ ns + 6 + 0 ≤ room_1.slots := ⟨hnc, hns⟩
  unfold p_law_8 at h
  refine jv_aload_n B d_L_law_500 rfl 1 rfl ?_
  refine jv_aload_n B d_L_law_501 rfl 0 rfl ?_
  refine jv_iload B d_L_law_502 4 rfl ?_
  refine jv_iconst (v := 1) B d_L_law_504 (by decide) ?_
  refine jv_iadd B d_L_law_505 ?_
  refine jv_sld B hX hbl hbA h.1 d_L_law_506 ?_
  replace h := h.2
  refine jv_aload_n B d_L_law_507 rfl 0 rfl ?_
  refine jv_iload B d_L_law_508 4 rfl ?_
  refine jv_iconst (v := 2) B d_L_law_510 (by decide) ?_
  refine jv_iadd B d_L_law_511 ?_
  refine jv_sld B hX hbl hbA h.1 d_L_law_512 ?_
  replace h := h.2
  refine jv_aload_n B d_L_law_513 rfl 0 rfl ?_
  refine jv_iload B d_L_law_514 4 rfl ?_
  refine jv_iconst (v := 3) B d_L_law_516 (by decide) ?_
  refine jv_iadd B d_L_law_517 ?_
  refine jv_sld B hX hbl hbA h.1 d_L_law_518 ?_
  replace h := h.2
  refine jv_hs (As := [.ref (ad 0), .int (xs (v4 + 1).toNatClampNeg), .int (xs (v4 + 2).toNatClampNeg), .int (xs (v4 + 3).toNatClampNeg)]) B hml hown hts hK hA hJ (c_L_poke hl (ad := ad) (cI := cI) (cA := cA) (cL := cL) (ao := ao) (G := mw am cI cA ρ []) h) (vx_cwSW 4 hts g_L_85 rfl rfl rfl hd_L_poke ⟨Nat.le_of_ble_eq_true rfl, Nat.le_of_ble_eq_true rfl⟩) rfl (Nat.le_of_ble_eq_true rfl) d_L_law_519 ⟨hnc, hns⟩ rfl (fun r1 u2 h => ?_)
  refine jv_istore (lv' := [(5, .int r1), (0, .ref b), (1, .ref (ad 0)), (2, .ref (am 0)), (3, .ref ao), (4, .int v4)]) B d_L_law_522 (by decide) rfl ?_
  refine jv_aload_n B d_L_law_524 rfl 3 rfl ?_
  refine jv_aload_n B d_L_law_525 rfl 1 rfl ?_
  refine jv_iload B d_L_law_526 5 rfl ?_
  refine jv_iconst (v := 1) B d_L_law_528 (by decide) ?_
  refine jv_iadd B d_L_law_529 ?_
  refine jv_sld B hX hbl hbA h.1 d_L_law_530 ?_
  replace h := h.2
  refine jv_aload_n B d_L_law_531 rfl 1 rfl ?_
  refine jv_iload B d_L_law_532 5 rfl ?_
  refine jv_iconst (v := 2) B d_L_law_534 (by decide) ?_
  refine jv_iadd B d_L_law_535 ?_
  refine jv_sld B hX hbl hbA h.1 d_L_law_536 ?_
  replace h := h.2
  refine jv_aload_n B d_L_law_537 rfl 1 rfl ?_
  refine jv_iload B d_L_law_538 5 rfl ?_
  refine jv_iconst (v := 3) B d_L_law_540 (by decide) ?_
  refine jv_iadd B d_L_law_541 ?_
  refine jv_sld B hX hbl hbA h.1 d_L_law_542 ?_
  replace h := h.2
  refine jv_toM ?_
  refine jv_cvv (As := [.int (xs (v4 + 1).toNatClampNeg), .int (xs (v4 + 2).toNatClampNeg), .int (xs (v4 + 3).toNatClampNeg)]) B hml hown hts hK hA (c_M_poke (ad := am) (cI := cI) (cA := cA) (cL := cL) (F := cw ad cI cA (u2.1) [oc ao cL (u2.2)]) h) (cwV 3 hts g_L_87 rfl rfl rfl hd_M_poke ⟨Nat.le_of_ble_eq_true rfl, Nat.le_of_ble_eq_true rfl⟩) 0 5 rfl rfl rfl rfl (Nat.le_of_ble_eq_true rfl) d_L_law_543 hcm rfl (fun ρ3 h => ?_)
  refine jv_toC ?_
  refine jv_aload_n B d_L_law_546 rfl 3 rfl ?_
  refine jv_toM ?_
  refine jv_civ (As := []) B hml hown hts hK hA (c_M_thrown (ad := am) (cI := cI) (cA := cA) (cL := cL) (F := cw ad cI cA (u2.1) [oc ao cL (u2.2)]) h) (cwV 0 hts g_L_58 rfl rfl rfl hd_M_thrown ⟨Nat.le_of_ble_eq_true rfl, Nat.le_of_ble_eq_true rfl⟩) 0 5 rfl rfl rfl rfl (Nat.le_of_ble_eq_true rfl) d_L_law_547 hcm rfl (fun r4 ρ5 h => ?_)
  refine jv_toC ?_
  refine jv_iload B d_L_law_550 0 rfl ?_
  refine jv_icmp_eq (tgt := 557) B d_L_law_552 (by decide) (fun hc => ?_) (fun hc => ?_)
  · replace h := h.1 hc
    refine jv_goto (tgt := 863) B d_L_law_557 (by decide) ?_
    refine jv_sub [1, 2, 3, 4, 5] rfl ?_
    exact H9 _ _ _ h
  · replace h := h.2 hc
    refine jv_iconst (v := 0) B d_L_law_555 (by decide) ?_
    exact h.elim
set_option maxRecDepth 100000 in
theorem w_law_9 {p : Program} {l : Launch} {e : Env} {s : State} {m : MethodId} {args : Array Value} {below : List Frame} {meth : Method} {c : Code} {Q : State → Prop} {D : va_G} {A : Nat → Prop} {cI cA cL : ClassId} {ad am : Nat → Nat} {ao b L : Nat} {xs : Nat → Int32} (X : jv_CL p l s m args c D A cI cA cL b L xs) {nc ns : Nat} (hnc : nc + 1 ≤ room_1.cells) (hns : ns + 6 ≤ room_1.slots) {v4 : Int32} {σ ρ : jS} {fo : Nat → Int64} {post : jS → (Nat → Int64) → jS → Prop} (H9 : ∀ (σ : jS) (fo : Nat → Int64) (ρ : jS), post σ fo ρ → jv_V p l e room_1 s m args below meth c D jClasses A 7 (nc + 1) (ns + 6) Q (cw ad cI cA σ (oc ao cL fo :: mw am cI cA ρ [])) [(0, .ref b), (1, .ref (ad 0)), (2, .ref (am 0)), (3, .ref ao), (4, .int v4)] 863 []) (h : p_law_9 L xs v4 σ fo ρ post) : jv_V p l e room_1 s m args below meth c D jClasses A 7 nc ns Q (cw ad cI cA σ (oc ao cL fo :: mw am cI cA ρ [])) [(0, .ref b), (1, .ref (ad 0)), (2, .ref (am 0)), (3, .ref ao), (4, .int v4)] 560 [] := by
  obtain ⟨B, hml, hown, hts, hK, hA, hJ, hX, hbl, hbA, hl⟩ := id X
  have hc0 : nc + 0 ≤ room_1.cells ∧ ns + 0 ≤ room_1.slots := ⟨Nat.le_of_succ_le hnc, Nat.le_trans (Nat.add_le_add_left (Nat.zero_le 6) ns) hns⟩
  have hcm : nc + 1 + 0 ≤ room_1.cells ∧ ns + 6 + 0 ≤ room_1.slots := ⟨hnc, hns⟩
  unfold p_law_9 at h
  refine jv_aload_n B d_L_law_560 rfl 1 rfl ?_
  refine jv_aload_n B d_L_law_561 rfl 0 rfl ?_
  refine jv_iload B d_L_law_562 4 rfl ?_
  refine jv_iconst (v := 1) B d_L_law_564 (by decide) ?_
  refine jv_iadd B d_L_law_565 ?_
  refine jv_sld B hX hbl hbA h.1 d_L_law_566 ?_
  replace h := h.2
  refine jv_aload_n B d_L_law_567 rfl 0 rfl ?_
  refine jv_iload B d_L_law_568 4 rfl ?_
  refine jv_iconst (v := 2) B d_L_law_570 (by decide) ?_
  refine jv_iadd B d_L_law_571 ?_
  refine jv_sld B hX hbl hbA h.1 d_L_law_572 ?_
  replace h := h.2
  refine jv_aload_n B d_L_law_573 rfl 3 rfl ?_
  refine jv_hs (As := [.ref (ad 0), .int (xs (v4 + 1).toNatClampNeg), .int (xs (v4 + 2).toNatClampNeg), .ref ao]) B hml hown hts hK hA hJ (c_L_second hl (ad := ad) (cI := cI) (cA := cA) (cL := cL) (ao := ao) (G := mw am cI cA ρ []) h) (vx_cwSW 4 hts g_L_88 rfl rfl rfl hd_L_second ⟨Nat.le_of_ble_eq_true rfl, Nat.le_of_ble_eq_true rfl⟩) rfl (Nat.le_of_ble_eq_true rfl) d_L_law_574 ⟨hnc, hns⟩ rfl (fun r1 u2 h => ?_)
  refine jv_istore (lv' := [(5, .int r1), (0, .ref b), (1, .ref (ad 0)), (2, .ref (am 0)), (3, .ref ao), (4, .int v4)]) B d_L_law_577 (by decide) rfl ?_
  refine jv_aload_n B d_L_law_579 rfl 3 rfl ?_
  refine jv_aload_n B d_L_law_580 rfl 1 rfl ?_
  refine jv_iload B d_L_law_581 5 rfl ?_
  refine jv_iconst (v := 1) B d_L_law_583 (by decide) ?_
  refine jv_iadd B d_L_law_584 ?_
  refine jv_sld B hX hbl hbA h.1 d_L_law_585 ?_
  replace h := h.2
  refine jv_aload_n B d_L_law_586 rfl 1 rfl ?_
  refine jv_iload B d_L_law_587 5 rfl ?_
  refine jv_iconst (v := 2) B d_L_law_589 (by decide) ?_
  refine jv_iadd B d_L_law_590 ?_
  refine jv_sld B hX hbl hbA h.1 d_L_law_591 ?_
  replace h := h.2
  refine jv_toM ?_
  refine jv_civ (As := [.int (xs (v4 + 1).toNatClampNeg), .int (xs (v4 + 2).toNatClampNeg)]) B hml hown hts hK hA (c_M_second (ad := am) (cI := cI) (cA := cA) (cL := cL) (F := cw ad cI cA (u2.1) [oc ao cL (u2.2)]) h) (cwV 2 hts g_L_91 rfl rfl rfl hd_M_second ⟨Nat.le_of_ble_eq_true rfl, Nat.le_of_ble_eq_true rfl⟩) 0 5 rfl rfl rfl rfl (Nat.le_of_ble_eq_true rfl) d_L_law_592 hcm rfl (fun r3 ρ4 h => ?_)
  refine jv_toC ?_
  refine jv_istore (lv' := [(6, .int r3), (5, .int r1), (0, .ref b), (1, .ref (ad 0)), (2, .ref (am 0)), (3, .ref ao), (4, .int v4)]) B d_L_law_595 (by decide) rfl ?_
  refine jv_aload_n B d_L_law_597 rfl 4 rfl ?_
  refine jv_toM ?_
  refine jv_civ (As := []) B hml hown hts hK hA (c_M_thrown (ad := am) (cI := cI) (cA := cA) (cL := cL) (F := cw ad cI cA (u2.1) [oc ao cL (u2.2)]) h) (cwV 0 hts g_L_58 rfl rfl rfl hd_M_thrown ⟨Nat.le_of_ble_eq_true rfl, Nat.le_of_ble_eq_true rfl⟩) 0 5 rfl rfl rfl rfl (Nat.le_of_ble_eq_true rfl) d_L_law_598 hcm rfl (fun r5 ρ6 h => ?_)
  refine jv_toC ?_
  refine jv_iload B d_L_law_601 1 rfl ?_
  refine jv_icmp_eq (tgt := 608) B d_L_law_603 (by decide) (fun hc => ?_) (fun hc => ?_)
  · replace h := h.1 hc
    refine jv_iload B d_L_law_608 1 rfl ?_
    refine jv_if_ne (tgt := 632) B d_L_law_610 (by decide) (fun hc => ?_) (fun hc => ?_)
    · replace h := h.1 hc
      refine jv_goto (tgt := 863) B d_L_law_632 (by decide) ?_
      refine jv_sub [2, 3, 4, 5, 6] rfl ?_
      exact H9 _ _ _ h
    · replace h := h.2 hc
      refine jv_aload_n B d_L_law_613 rfl 5 rfl ?_
      refine jv_iconst (v := 0) B d_L_law_614 (by decide) ?_
      refine jv_lald B hK 14 2 rfl rfl (vp_in_nI (n := 0) (N := 1) (by decide) (by decide)) d_L_law_615 ?_
      refine jv_iload B d_L_law_616 0 rfl ?_
      refine jv_if_eq (tgt := 625) B d_L_law_618 (by decide) (fun hc => ?_) (fun hc => ?_)
      · replace h := h.1 hc
        refine jv_lconst (v := 0) B d_L_law_625 (by decide) ?_
        refine jv_lcmp B d_L_law_626 ?_
        refine jv_if_eq (tgt := 632) B d_L_law_627 (by decide) (fun hc => ?_) (fun hc => ?_)
        · replace h := h.1 hc
          refine jv_goto (tgt := 863) B d_L_law_632 (by decide) ?_
          refine jv_sub [2, 3, 4, 5, 6] rfl ?_
          exact H9 _ _ _ h
        · replace h := h.2 hc
          refine jv_iconst (v := 0) B d_L_law_630 (by decide) ?_
          exact h.elim
      · replace h := h.2 hc
        refine jv_lconst (v := 1) B d_L_law_621 (by decide) ?_
        refine jv_goto (tgt := 626) B d_L_law_622 (by decide) ?_
        refine jv_lcmp B d_L_law_626 ?_
        refine jv_if_eq (tgt := 632) B d_L_law_627 (by decide) (fun hc => ?_) (fun hc => ?_)
        · replace h := h.1 hc
          refine jv_goto (tgt := 863) B d_L_law_632 (by decide) ?_
          refine jv_sub [2, 3, 4, 5, 6] rfl ?_
          exact H9 _ _ _ h
        · replace h := h.2 hc
          refine jv_iconst (v := 0) B d_L_law_630 (by decide) ?_
          exact h.elim
  · replace h := h.2 hc
    refine jv_iconst (v := 0) B d_L_law_606 (by decide) ?_
    exact h.elim
set_option maxRecDepth 100000 in
theorem w_law_10 {p : Program} {l : Launch} {e : Env} {s : State} {m : MethodId} {args : Array Value} {below : List Frame} {meth : Method} {c : Code} {Q : State → Prop} {D : va_G} {A : Nat → Prop} {cI cA cL : ClassId} {ad am : Nat → Nat} {ao b L : Nat} {xs : Nat → Int32} (X : jv_CL p l s m args c D A cI cA cL b L xs) {nc ns : Nat} (hnc : nc + 1 ≤ room_1.cells) (hns : ns + 6 ≤ room_1.slots) {v4 : Int32} {σ ρ : jS} {fo : Nat → Int64} {post : jS → (Nat → Int64) → jS → Prop} (H9 : ∀ (σ : jS) (fo : Nat → Int64) (ρ : jS), post σ fo ρ → jv_V p l e room_1 s m args below meth c D jClasses A 7 (nc + 1) (ns + 6) Q (cw ad cI cA σ (oc ao cL fo :: mw am cI cA ρ [])) [(0, .ref b), (1, .ref (ad 0)), (2, .ref (am 0)), (3, .ref ao), (4, .int v4)] 863 []) (h : p_law_10 L xs v4 σ fo ρ post) : jv_V p l e room_1 s m args below meth c D jClasses A 7 nc ns Q (cw ad cI cA σ (oc ao cL fo :: mw am cI cA ρ [])) [(0, .ref b), (1, .ref (ad 0)), (2, .ref (am 0)), (3, .ref ao), (4, .int v4)] 635 [] := by
  obtain ⟨B, hml, hown, hts, hK, hA, hJ, hX, hbl, hbA, hl⟩ := id X
  have hc0 : nc + 0 ≤ room_1.cells ∧ ns + 0 ≤ room_1.slots := ⟨Nat.le_of_succ_le hnc, Nat.le_trans (Nat.add_le_add_left (Nat.zero_le 6) ns) hns⟩
  have hcm : nc + 1 + 0 ≤ room_1.cells ∧ ns + 6 + 0 ≤ room_1.slots := ⟨hnc, hns⟩
  unfold p_law_10 at h
  refine jv_aload_n B d_L_law_635 rfl 1 rfl ?_
  refine jv_aload_n B d_L_law_636 rfl 0 rfl ?_
  refine jv_iload B d_L_law_637 4 rfl ?_
  refine jv_iconst (v := 1) B d_L_law_639 (by decide) ?_
  refine jv_iadd B d_L_law_640 ?_
  refine jv_sld B hX hbl hbA h.1 d_L_law_641 ?_
  replace h := h.2
  refine jv_civ (As := [.int (xs (v4 + 1).toNatClampNeg)]) B hml hown hts hK hA (c_R_state (ad := ad) (cI := cI) (cA := cA) (cL := cL) (F := oc ao cL fo :: mw am cI cA ρ []) h) (cwV 1 hts g_L_92 rfl rfl rfl hd_R_state ⟨Nat.le_of_ble_eq_true rfl, Nat.le_of_ble_eq_true rfl⟩) 0 4 rfl rfl rfl rfl (Nat.le_of_ble_eq_true rfl) d_L_law_642 hc0 rfl (fun r1 σ2 h => ?_)
  refine jv_aload_n B d_L_law_645 rfl 2 rfl ?_
  refine jv_aload_n B d_L_law_646 rfl 0 rfl ?_
  refine jv_iload B d_L_law_647 4 rfl ?_
  refine jv_iconst (v := 1) B d_L_law_649 (by decide) ?_
  refine jv_iadd B d_L_law_650 ?_
  refine jv_sld B hX hbl hbA h.1 d_L_law_651 ?_
  replace h := h.2
  refine jv_toM ?_
  refine jv_civ (As := [.int (xs (v4 + 1).toNatClampNeg)]) B hml hown hts hK hA (c_M_state (ad := am) (cI := cI) (cA := cA) (cL := cL) (F := cw ad cI cA σ2 [oc ao cL fo]) h) (cwV 1 hts g_L_95 rfl rfl rfl hd_M_state ⟨Nat.le_of_ble_eq_true rfl, Nat.le_of_ble_eq_true rfl⟩) 0 5 rfl rfl rfl rfl (Nat.le_of_ble_eq_true rfl) d_L_law_652 hc0 rfl (fun r3 ρ4 h => ?_)
  refine jv_toC ?_
  refine jv_icmp_eq (tgt := 863) B d_L_law_655 (by decide) (fun hc => ?_) (fun hc => ?_)
  · replace h := h.1 hc
    refine jv_sub [0, 1, 2, 3, 4] rfl ?_
    refine jv_widen (k := nc + 1) (n := ns + 6) (Nat.le_succ _) (Nat.le_add_right _ _) ?_
    exact H9 _ _ _ h
  · replace h := h.2 hc
    refine jv_iconst (v := 0) B d_L_law_658 (by decide) ?_
    exact h.elim
set_option maxRecDepth 100000 in
theorem w_law_11 {p : Program} {l : Launch} {e : Env} {s : State} {m : MethodId} {args : Array Value} {below : List Frame} {meth : Method} {c : Code} {Q : State → Prop} {D : va_G} {A : Nat → Prop} {cI cA cL : ClassId} {ad am : Nat → Nat} {ao b L : Nat} {xs : Nat → Int32} (X : jv_CL p l s m args c D A cI cA cL b L xs) {nc ns : Nat} (hnc : nc + 1 ≤ room_1.cells) (hns : ns + 6 ≤ room_1.slots) {v4 : Int32} {σ ρ : jS} {fo : Nat → Int64} {post : jS → (Nat → Int64) → jS → Prop} (H9 : ∀ (σ : jS) (fo : Nat → Int64) (ρ : jS), post σ fo ρ → jv_V p l e room_1 s m args below meth c D jClasses A 7 (nc + 1) (ns + 6) Q (cw ad cI cA σ (oc ao cL fo :: mw am cI cA ρ [])) [(0, .ref b), (1, .ref (ad 0)), (2, .ref (am 0)), (3, .ref ao), (4, .int v4)] 863 []) (h : p_law_11 L xs v4 σ fo ρ post) : jv_V p l e room_1 s m args below meth c D jClasses A 7 nc ns Q (cw ad cI cA σ (oc ao cL fo :: mw am cI cA ρ [])) [(0, .ref b), (1, .ref (ad 0)), (2, .ref (am 0)), (3, .ref ao), (4, .int v4)] 660 [] := by
  obtain ⟨B, hml, hown, hts, hK, hA, hJ, hX, hbl, hbA, hl⟩ := id X
  have hc0 : nc + 0 ≤ room_1.cells ∧ ns + 0 ≤ room_1.slots := ⟨Nat.le_of_succ_le hnc, Nat.le_trans (Nat.add_le_add_left (Nat.zero_le 6) ns) hns⟩
  have hcm : nc + 1 + 0 ≤ room_1.cells ∧ ns + 6 + 0 ≤ room_1.slots := ⟨hnc, hns⟩
  unfold p_law_11 at h
  refine jv_aload_n B d_L_law_660 rfl 1 rfl ?_
  refine jv_aload_n B d_L_law_661 rfl 0 rfl ?_
  refine jv_iload B d_L_law_662 4 rfl ?_
  refine jv_iconst (v := 1) B d_L_law_664 (by decide) ?_
  refine jv_iadd B d_L_law_665 ?_
  refine jv_sld B hX hbl hbA h.1 d_L_law_666 ?_
  replace h := h.2
  refine jv_civ (As := [.int (xs (v4 + 1).toNatClampNeg)]) B hml hown hts hK hA (c_R_count (ad := ad) (cI := cI) (cA := cA) (cL := cL) (F := oc ao cL fo :: mw am cI cA ρ []) h) (cwV 1 hts g_L_96 rfl rfl rfl hd_R_count ⟨Nat.le_of_ble_eq_true rfl, Nat.le_of_ble_eq_true rfl⟩) 0 4 rfl rfl rfl rfl (Nat.le_of_ble_eq_true rfl) d_L_law_667 hc0 rfl (fun r1 σ2 h => ?_)
  refine jv_aload_n B d_L_law_670 rfl 2 rfl ?_
  refine jv_aload_n B d_L_law_671 rfl 0 rfl ?_
  refine jv_iload B d_L_law_672 4 rfl ?_
  refine jv_iconst (v := 1) B d_L_law_674 (by decide) ?_
  refine jv_iadd B d_L_law_675 ?_
  refine jv_sld B hX hbl hbA h.1 d_L_law_676 ?_
  replace h := h.2
  refine jv_toM ?_
  refine jv_civ (As := [.int (xs (v4 + 1).toNatClampNeg)]) B hml hown hts hK hA (c_M_count (ad := am) (cI := cI) (cA := cA) (cL := cL) (F := cw ad cI cA σ2 [oc ao cL fo]) h) (cwV 1 hts g_L_99 rfl rfl rfl hd_M_count ⟨Nat.le_of_ble_eq_true rfl, Nat.le_of_ble_eq_true rfl⟩) 0 5 rfl rfl rfl rfl (Nat.le_of_ble_eq_true rfl) d_L_law_677 hc0 rfl (fun r3 ρ4 h => ?_)
  refine jv_toC ?_
  refine jv_icmp_eq (tgt := 863) B d_L_law_680 (by decide) (fun hc => ?_) (fun hc => ?_)
  · replace h := h.1 hc
    refine jv_sub [0, 1, 2, 3, 4] rfl ?_
    refine jv_widen (k := nc + 1) (n := ns + 6) (Nat.le_succ _) (Nat.le_add_right _ _) ?_
    exact H9 _ _ _ h
  · replace h := h.2 hc
    refine jv_iconst (v := 0) B d_L_law_683 (by decide) ?_
    exact h.elim
set_option maxRecDepth 100000 in
theorem w_law_12 {p : Program} {l : Launch} {e : Env} {s : State} {m : MethodId} {args : Array Value} {below : List Frame} {meth : Method} {c : Code} {Q : State → Prop} {D : va_G} {A : Nat → Prop} {cI cA cL : ClassId} {ad am : Nat → Nat} {ao b L : Nat} {xs : Nat → Int32} (X : jv_CL p l s m args c D A cI cA cL b L xs) {nc ns : Nat} (hnc : nc + 1 ≤ room_1.cells) (hns : ns + 6 ≤ room_1.slots) {v4 : Int32} {σ ρ : jS} {fo : Nat → Int64} {post : jS → (Nat → Int64) → jS → Prop} (H9 : ∀ (σ : jS) (fo : Nat → Int64) (ρ : jS), post σ fo ρ → jv_V p l e room_1 s m args below meth c D jClasses A 7 (nc + 1) (ns + 6) Q (cw ad cI cA σ (oc ao cL fo :: mw am cI cA ρ [])) [(0, .ref b), (1, .ref (ad 0)), (2, .ref (am 0)), (3, .ref ao), (4, .int v4)] 863 []) (h : p_law_12 L xs v4 σ fo ρ post) : jv_V p l e room_1 s m args below meth c D jClasses A 7 nc ns Q (cw ad cI cA σ (oc ao cL fo :: mw am cI cA ρ [])) [(0, .ref b), (1, .ref (ad 0)), (2, .ref (am 0)), (3, .ref ao), (4, .int v4)] 685 [] := by
  obtain ⟨B, hml, hown, hts, hK, hA, hJ, hX, hbl, hbA, hl⟩ := id X
  have hc0 : nc + 0 ≤ room_1.cells ∧ ns + 0 ≤ room_1.slots := ⟨Nat.le_of_succ_le hnc, Nat.le_trans (Nat.add_le_add_left (Nat.zero_le 6) ns) hns⟩
  have hcm : nc + 1 + 0 ≤ room_1.cells ∧ ns + 6 + 0 ≤ room_1.slots := ⟨hnc, hns⟩
  unfold p_law_12 at h
  refine jv_aload_n B d_L_law_685 rfl 1 rfl ?_
  refine jv_aload_n B d_L_law_686 rfl 0 rfl ?_
  refine jv_iload B d_L_law_687 4 rfl ?_
  refine jv_iconst (v := 1) B d_L_law_689 (by decide) ?_
  refine jv_iadd B d_L_law_690 ?_
  refine jv_sld B hX hbl hbA h.1 d_L_law_691 ?_
  replace h := h.2
  refine jv_aload_n B d_L_law_692 rfl 0 rfl ?_
  refine jv_iload B d_L_law_693 4 rfl ?_
  refine jv_iconst (v := 2) B d_L_law_695 (by decide) ?_
  refine jv_iadd B d_L_law_696 ?_
  refine jv_sld B hX hbl hbA h.1 d_L_law_697 ?_
  replace h := h.2
  refine jv_civ (As := [.int (xs (v4 + 1).toNatClampNeg), .int (xs (v4 + 2).toNatClampNeg)]) B hml hown hts hK hA (c_R_part (ad := ad) (cI := cI) (cA := cA) (cL := cL) (F := oc ao cL fo :: mw am cI cA ρ []) h) (cwV 2 hts g_L_100 rfl rfl rfl hd_R_part ⟨Nat.le_of_ble_eq_true rfl, Nat.le_of_ble_eq_true rfl⟩) 0 4 rfl rfl rfl rfl (Nat.le_of_ble_eq_true rfl) d_L_law_698 hc0 rfl (fun r1 σ2 h => ?_)
  refine jv_aload_n B d_L_law_701 rfl 2 rfl ?_
  refine jv_aload_n B d_L_law_702 rfl 0 rfl ?_
  refine jv_iload B d_L_law_703 4 rfl ?_
  refine jv_iconst (v := 1) B d_L_law_705 (by decide) ?_
  refine jv_iadd B d_L_law_706 ?_
  refine jv_sld B hX hbl hbA h.1 d_L_law_707 ?_
  replace h := h.2
  refine jv_aload_n B d_L_law_708 rfl 0 rfl ?_
  refine jv_iload B d_L_law_709 4 rfl ?_
  refine jv_iconst (v := 2) B d_L_law_711 (by decide) ?_
  refine jv_iadd B d_L_law_712 ?_
  refine jv_sld B hX hbl hbA h.1 d_L_law_713 ?_
  replace h := h.2
  refine jv_toM ?_
  refine jv_civ (As := [.int (xs (v4 + 1).toNatClampNeg), .int (xs (v4 + 2).toNatClampNeg)]) B hml hown hts hK hA (c_M_part (ad := am) (cI := cI) (cA := cA) (cL := cL) (F := cw ad cI cA σ2 [oc ao cL fo]) h) (cwV 2 hts g_L_104 rfl rfl rfl hd_M_part ⟨Nat.le_of_ble_eq_true rfl, Nat.le_of_ble_eq_true rfl⟩) 0 5 rfl rfl rfl rfl (Nat.le_of_ble_eq_true rfl) d_L_law_714 hc0 rfl (fun r3 ρ4 h => ?_)
  refine jv_toC ?_
  refine jv_icmp_eq (tgt := 863) B d_L_law_717 (by decide) (fun hc => ?_) (fun hc => ?_)
  · replace h := h.1 hc
    refine jv_sub [0, 1, 2, 3, 4] rfl ?_
    refine jv_widen (k := nc + 1) (n := ns + 6) (Nat.le_succ _) (Nat.le_add_right _ _) ?_
    exact H9 _ _ _ h
  · replace h := h.2 hc
    refine jv_iconst (v := 0) B d_L_law_720 (by decide) ?_
    exact h.elim
set_option maxRecDepth 100000 in
theorem w_law_13 {p : Program} {l : Launch} {e : Env} {s : State} {m : MethodId} {args : Array Value} {below : List Frame} {meth : Method} {c : Code} {Q : State → Prop} {D : va_G} {A : Nat → Prop} {cI cA cL : ClassId} {ad am : Nat → Nat} {ao b L : Nat} {xs : Nat → Int32} (X : jv_CL p l s m args c D A cI cA cL b L xs) {nc ns : Nat} (hnc : nc + 1 ≤ room_1.cells) (hns : ns + 6 ≤ room_1.slots) {v4 : Int32} {σ ρ : jS} {fo : Nat → Int64} {post : jS → (Nat → Int64) → jS → Prop} (H9 : ∀ (σ : jS) (fo : Nat → Int64) (ρ : jS), post σ fo ρ → jv_V p l e room_1 s m args below meth c D jClasses A 7 (nc + 1) (ns + 6) Q (cw ad cI cA σ (oc ao cL fo :: mw am cI cA ρ [])) [(0, .ref b), (1, .ref (ad 0)), (2, .ref (am 0)), (3, .ref ao), (4, .int v4)] 863 []) (h : p_law_13 L xs v4 σ fo ρ post) : jv_V p l e room_1 s m args below meth c D jClasses A 7 nc ns Q (cw ad cI cA σ (oc ao cL fo :: mw am cI cA ρ [])) [(0, .ref b), (1, .ref (ad 0)), (2, .ref (am 0)), (3, .ref ao), (4, .int v4)] 722 [] := by
  obtain ⟨B, hml, hown, hts, hK, hA, hJ, hX, hbl, hbA, hl⟩ := id X
  have hc0 : nc + 0 ≤ room_1.cells ∧ ns + 0 ≤ room_1.slots := ⟨Nat.le_of_succ_le hnc, Nat.le_trans (Nat.add_le_add_left (Nat.zero_le 6) ns) hns⟩
  have hcm : nc + 1 + 0 ≤ room_1.cells ∧ ns + 6 + 0 ≤ room_1.slots := ⟨hnc, hns⟩
  unfold p_law_13 at h
  refine jv_aload_n B d_L_law_722 rfl 1 rfl ?_
  refine jv_civ (As := []) B hml hown hts hK hA (c_R_phase (ad := ad) (cI := cI) (cA := cA) (cL := cL) (F := oc ao cL fo :: mw am cI cA ρ []) h) (cwV 0 hts g_L_105 rfl rfl rfl hd_R_phase ⟨Nat.le_of_ble_eq_true rfl, Nat.le_of_ble_eq_true rfl⟩) 0 4 rfl rfl rfl rfl (Nat.le_of_ble_eq_true rfl) d_L_law_723 hc0 rfl (fun r1 σ2 h => ?_)
  refine jv_aload_n B d_L_law_726 rfl 2 rfl ?_
  refine jv_toM ?_
  refine jv_civ (As := []) B hml hown hts hK hA (c_M_phase (ad := am) (cI := cI) (cA := cA) (cL := cL) (F := cw ad cI cA σ2 [oc ao cL fo]) h) (cwV 0 hts g_L_108 rfl rfl rfl hd_M_phase ⟨Nat.le_of_ble_eq_true rfl, Nat.le_of_ble_eq_true rfl⟩) 0 5 rfl rfl rfl rfl (Nat.le_of_ble_eq_true rfl) d_L_law_727 hc0 rfl (fun r3 ρ4 h => ?_)
  refine jv_toC ?_
  refine jv_icmp_eq (tgt := 863) B d_L_law_730 (by decide) (fun hc => ?_) (fun hc => ?_)
  · replace h := h.1 hc
    refine jv_sub [0, 1, 2, 3, 4] rfl ?_
    refine jv_widen (k := nc + 1) (n := ns + 6) (Nat.le_succ _) (Nat.le_add_right _ _) ?_
    exact H9 _ _ _ h
  · replace h := h.2 hc
    refine jv_iconst (v := 0) B d_L_law_733 (by decide) ?_
    exact h.elim
set_option maxRecDepth 100000 in
theorem w_law_14 {p : Program} {l : Launch} {e : Env} {s : State} {m : MethodId} {args : Array Value} {below : List Frame} {meth : Method} {c : Code} {Q : State → Prop} {D : va_G} {A : Nat → Prop} {cI cA cL : ClassId} {ad am : Nat → Nat} {ao b L : Nat} {xs : Nat → Int32} (X : jv_CL p l s m args c D A cI cA cL b L xs) {nc ns : Nat} (hnc : nc + 1 ≤ room_1.cells) (hns : ns + 6 ≤ room_1.slots) {v4 : Int32} {σ ρ : jS} {fo : Nat → Int64} {post : jS → (Nat → Int64) → jS → Prop} (H9 : ∀ (σ : jS) (fo : Nat → Int64) (ρ : jS), post σ fo ρ → jv_V p l e room_1 s m args below meth c D jClasses A 7 (nc + 1) (ns + 6) Q (cw ad cI cA σ (oc ao cL fo :: mw am cI cA ρ [])) [(0, .ref b), (1, .ref (ad 0)), (2, .ref (am 0)), (3, .ref ao), (4, .int v4)] 863 []) (h : p_law_14 L xs v4 σ fo ρ post) : jv_V p l e room_1 s m args below meth c D jClasses A 7 nc ns Q (cw ad cI cA σ (oc ao cL fo :: mw am cI cA ρ [])) [(0, .ref b), (1, .ref (ad 0)), (2, .ref (am 0)), (3, .ref ao), (4, .int v4)] 735 [] := by
  obtain ⟨B, hml, hown, hts, hK, hA, hJ, hX, hbl, hbA, hl⟩ := id X
  have hc0 : nc + 0 ≤ room_1.cells ∧ ns + 0 ≤ room_1.slots := ⟨Nat.le_of_succ_le hnc, Nat.le_trans (Nat.add_le_add_left (Nat.zero_le 6) ns) hns⟩
  have hcm : nc + 1 + 0 ≤ room_1.cells ∧ ns + 6 + 0 ≤ room_1.slots := ⟨hnc, hns⟩
  unfold p_law_14 at h
  refine jv_aload_n B d_L_law_735 rfl 1 rfl ?_
  refine jv_aload_n B d_L_law_736 rfl 0 rfl ?_
  refine jv_iload B d_L_law_737 4 rfl ?_
  refine jv_iconst (v := 1) B d_L_law_739 (by decide) ?_
  refine jv_iadd B d_L_law_740 ?_
  refine jv_sld B hX hbl hbA h.1 d_L_law_741 ?_
  replace h := h.2
  refine jv_civ (As := [.int (xs (v4 + 1).toNatClampNeg)]) B hml hown hts hK hA (c_R_out (ad := ad) (cI := cI) (cA := cA) (cL := cL) (F := oc ao cL fo :: mw am cI cA ρ []) h) (cwV 1 hts g_L_109 rfl rfl rfl hd_R_out ⟨Nat.le_of_ble_eq_true rfl, Nat.le_of_ble_eq_true rfl⟩) 0 4 rfl rfl rfl rfl (Nat.le_of_ble_eq_true rfl) d_L_law_742 hc0 rfl (fun r1 σ2 h => ?_)
  refine jv_aload_n B d_L_law_745 rfl 2 rfl ?_
  refine jv_aload_n B d_L_law_746 rfl 0 rfl ?_
  refine jv_iload B d_L_law_747 4 rfl ?_
  refine jv_iconst (v := 1) B d_L_law_749 (by decide) ?_
  refine jv_iadd B d_L_law_750 ?_
  refine jv_sld B hX hbl hbA h.1 d_L_law_751 ?_
  replace h := h.2
  refine jv_toM ?_
  refine jv_civ (As := [.int (xs (v4 + 1).toNatClampNeg)]) B hml hown hts hK hA (c_M_out (ad := am) (cI := cI) (cA := cA) (cL := cL) (F := cw ad cI cA σ2 [oc ao cL fo]) h) (cwV 1 hts g_L_112 rfl rfl rfl hd_M_out ⟨Nat.le_of_ble_eq_true rfl, Nat.le_of_ble_eq_true rfl⟩) 0 5 rfl rfl rfl rfl (Nat.le_of_ble_eq_true rfl) d_L_law_752 hc0 rfl (fun r3 ρ4 h => ?_)
  refine jv_toC ?_
  refine jv_icmp_eq (tgt := 863) B d_L_law_755 (by decide) (fun hc => ?_) (fun hc => ?_)
  · replace h := h.1 hc
    refine jv_sub [0, 1, 2, 3, 4] rfl ?_
    refine jv_widen (k := nc + 1) (n := ns + 6) (Nat.le_succ _) (Nat.le_add_right _ _) ?_
    exact H9 _ _ _ h
  · replace h := h.2 hc
    refine jv_iconst (v := 0) B d_L_law_758 (by decide) ?_
    exact h.elim
set_option maxRecDepth 100000 in
theorem w_law_15 {p : Program} {l : Launch} {e : Env} {s : State} {m : MethodId} {args : Array Value} {below : List Frame} {meth : Method} {c : Code} {Q : State → Prop} {D : va_G} {A : Nat → Prop} {cI cA cL : ClassId} {ad am : Nat → Nat} {ao b L : Nat} {xs : Nat → Int32} (X : jv_CL p l s m args c D A cI cA cL b L xs) {nc ns : Nat} (hnc : nc + 1 ≤ room_1.cells) (hns : ns + 6 ≤ room_1.slots) {v4 : Int32} {σ ρ : jS} {fo : Nat → Int64} {post : jS → (Nat → Int64) → jS → Prop} (H9 : ∀ (σ : jS) (fo : Nat → Int64) (ρ : jS), post σ fo ρ → jv_V p l e room_1 s m args below meth c D jClasses A 7 (nc + 1) (ns + 6) Q (cw ad cI cA σ (oc ao cL fo :: mw am cI cA ρ [])) [(0, .ref b), (1, .ref (ad 0)), (2, .ref (am 0)), (3, .ref ao), (4, .int v4)] 863 []) (h : p_law_15 L xs v4 σ fo ρ post) : jv_V p l e room_1 s m args below meth c D jClasses A 7 nc ns Q (cw ad cI cA σ (oc ao cL fo :: mw am cI cA ρ [])) [(0, .ref b), (1, .ref (ad 0)), (2, .ref (am 0)), (3, .ref ao), (4, .int v4)] 760 [] := by
  obtain ⟨B, hml, hown, hts, hK, hA, hJ, hX, hbl, hbA, hl⟩ := id X
  have hc0 : nc + 0 ≤ room_1.cells ∧ ns + 0 ≤ room_1.slots := ⟨Nat.le_of_succ_le hnc, Nat.le_trans (Nat.add_le_add_left (Nat.zero_le 6) ns) hns⟩
  have hcm : nc + 1 + 0 ≤ room_1.cells ∧ ns + 6 + 0 ≤ room_1.slots := ⟨hnc, hns⟩
  unfold p_law_15 at h
  refine jv_aload_n B d_L_law_760 rfl 1 rfl ?_
  refine jv_aload_n B d_L_law_761 rfl 0 rfl ?_
  refine jv_iload B d_L_law_762 4 rfl ?_
  refine jv_iconst (v := 1) B d_L_law_764 (by decide) ?_
  refine jv_iadd B d_L_law_765 ?_
  refine jv_sld B hX hbl hbA h.1 d_L_law_766 ?_
  replace h := h.2
  refine jv_civ (As := [.int (xs (v4 + 1).toNatClampNeg)]) B hml hown hts hK hA (c_R_reads (ad := ad) (cI := cI) (cA := cA) (cL := cL) (F := oc ao cL fo :: mw am cI cA ρ []) h) (cwV 1 hts g_L_113 rfl rfl rfl hd_R_reads ⟨Nat.le_of_ble_eq_true rfl, Nat.le_of_ble_eq_true rfl⟩) 0 4 rfl rfl rfl rfl (Nat.le_of_ble_eq_true rfl) d_L_law_767 hc0 rfl (fun r1 σ2 h => ?_)
  refine jv_aload_n B d_L_law_770 rfl 2 rfl ?_
  refine jv_aload_n B d_L_law_771 rfl 0 rfl ?_
  refine jv_iload B d_L_law_772 4 rfl ?_
  refine jv_iconst (v := 1) B d_L_law_774 (by decide) ?_
  refine jv_iadd B d_L_law_775 ?_
  refine jv_sld B hX hbl hbA h.1 d_L_law_776 ?_
  replace h := h.2
  refine jv_toM ?_
  refine jv_civ (As := [.int (xs (v4 + 1).toNatClampNeg)]) B hml hown hts hK hA (c_M_reads (ad := am) (cI := cI) (cA := cA) (cL := cL) (F := cw ad cI cA σ2 [oc ao cL fo]) h) (cwV 1 hts g_L_116 rfl rfl rfl hd_M_reads ⟨Nat.le_of_ble_eq_true rfl, Nat.le_of_ble_eq_true rfl⟩) 0 5 rfl rfl rfl rfl (Nat.le_of_ble_eq_true rfl) d_L_law_777 hc0 rfl (fun r3 ρ4 h => ?_)
  refine jv_toC ?_
  refine jv_icmp_eq (tgt := 863) B d_L_law_780 (by decide) (fun hc => ?_) (fun hc => ?_)
  · replace h := h.1 hc
    refine jv_sub [0, 1, 2, 3, 4] rfl ?_
    refine jv_widen (k := nc + 1) (n := ns + 6) (Nat.le_succ _) (Nat.le_add_right _ _) ?_
    exact H9 _ _ _ h
  · replace h := h.2 hc
    refine jv_iconst (v := 0) B d_L_law_783 (by decide) ?_
    exact h.elim
set_option maxRecDepth 100000 in
theorem w_law_16 {p : Program} {l : Launch} {e : Env} {s : State} {m : MethodId} {args : Array Value} {below : List Frame} {meth : Method} {c : Code} {Q : State → Prop} {D : va_G} {A : Nat → Prop} {cI cA cL : ClassId} {ad am : Nat → Nat} {ao b L : Nat} {xs : Nat → Int32} (X : jv_CL p l s m args c D A cI cA cL b L xs) {nc ns : Nat} (hnc : nc + 1 ≤ room_1.cells) (hns : ns + 6 ≤ room_1.slots) {v4 : Int32} {σ ρ : jS} {fo : Nat → Int64} {post : jS → (Nat → Int64) → jS → Prop} (H9 : ∀ (σ : jS) (fo : Nat → Int64) (ρ : jS), post σ fo ρ → jv_V p l e room_1 s m args below meth c D jClasses A 7 (nc + 1) (ns + 6) Q (cw ad cI cA σ (oc ao cL fo :: mw am cI cA ρ [])) [(0, .ref b), (1, .ref (ad 0)), (2, .ref (am 0)), (3, .ref ao), (4, .int v4)] 863 []) (h : p_law_16 L xs v4 σ fo ρ post) : jv_V p l e room_1 s m args below meth c D jClasses A 7 nc ns Q (cw ad cI cA σ (oc ao cL fo :: mw am cI cA ρ [])) [(0, .ref b), (1, .ref (ad 0)), (2, .ref (am 0)), (3, .ref ao), (4, .int v4)] 785 [] := by
  obtain ⟨B, hml, hown, hts, hK, hA, hJ, hX, hbl, hbA, hl⟩ := id X
  have hc0 : nc + 0 ≤ room_1.cells ∧ ns + 0 ≤ room_1.slots := ⟨Nat.le_of_succ_le hnc, Nat.le_trans (Nat.add_le_add_left (Nat.zero_le 6) ns) hns⟩
  have hcm : nc + 1 + 0 ≤ room_1.cells ∧ ns + 6 + 0 ≤ room_1.slots := ⟨hnc, hns⟩
  unfold p_law_16 at h
  refine jv_aload_n B d_L_law_785 rfl 1 rfl ?_
  refine jv_aload_n B d_L_law_786 rfl 0 rfl ?_
  refine jv_iload B d_L_law_787 4 rfl ?_
  refine jv_iconst (v := 1) B d_L_law_789 (by decide) ?_
  refine jv_iadd B d_L_law_790 ?_
  refine jv_sld B hX hbl hbA h.1 d_L_law_791 ?_
  replace h := h.2
  refine jv_if_eq (tgt := 799) B d_L_law_792 (by decide) (fun hc => ?_) (fun hc => ?_)
  · replace h := h.1 hc
    refine jv_iconst (v := 0) B d_L_law_799 (by decide) ?_
    refine jv_civ (As := [.int 0]) B hml hown hts hK hA (c_R_made (ad := ad) (cI := cI) (cA := cA) (cL := cL) (F := oc ao cL fo :: mw am cI cA ρ []) h) (cwV 1 hts g_L_117 rfl rfl rfl hd_R_made ⟨Nat.le_of_ble_eq_true rfl, Nat.le_of_ble_eq_true rfl⟩) 0 4 rfl rfl rfl rfl (Nat.le_of_ble_eq_true rfl) d_L_law_800 hc0 rfl (fun r1 σ2 h => ?_)
    refine jv_aload_n B d_L_law_803 rfl 2 rfl ?_
    refine jv_aload_n B d_L_law_804 rfl 0 rfl ?_
    refine jv_iload B d_L_law_805 4 rfl ?_
    refine jv_iconst (v := 1) B d_L_law_807 (by decide) ?_
    refine jv_iadd B d_L_law_808 ?_
    refine jv_sld B hX hbl hbA h.1 d_L_law_809 ?_
    replace h := h.2
    refine jv_if_eq (tgt := 817) B d_L_law_810 (by decide) (fun hc => ?_) (fun hc => ?_)
    · replace h := h.1 hc
      refine jv_iconst (v := 0) B d_L_law_817 (by decide) ?_
      refine jv_toM ?_
      refine jv_civ (As := [.int 0]) B hml hown hts hK hA (c_M_made (ad := am) (cI := cI) (cA := cA) (cL := cL) (F := cw ad cI cA σ2 [oc ao cL fo]) h) (cwV 1 hts g_L_121 rfl rfl rfl hd_M_made ⟨Nat.le_of_ble_eq_true rfl, Nat.le_of_ble_eq_true rfl⟩) 0 5 rfl rfl rfl rfl (Nat.le_of_ble_eq_true rfl) d_L_law_818 hc0 rfl (fun r3 ρ4 h => ?_)
      refine jv_toC ?_
      refine jv_icmp_eq (tgt := 863) B d_L_law_821 (by decide) (fun hc => ?_) (fun hc => ?_)
      · replace h := h.1 hc
        refine jv_sub [0, 1, 2, 3, 4] rfl ?_
        refine jv_widen (k := nc + 1) (n := ns + 6) (Nat.le_succ _) (Nat.le_add_right _ _) ?_
        exact H9 _ _ _ h
      · replace h := h.2 hc
        refine jv_iconst (v := 0) B d_L_law_824 (by decide) ?_
        exact h.elim
    · replace h := h.2 hc
      refine jv_iconst (v := 1) B d_L_law_813 (by decide) ?_
      refine jv_goto (tgt := 818) B d_L_law_814 (by decide) ?_
      refine jv_toM ?_
      refine jv_civ (As := [.int 1]) B hml hown hts hK hA (c_M_made (ad := am) (cI := cI) (cA := cA) (cL := cL) (F := cw ad cI cA σ2 [oc ao cL fo]) h) (cwV 1 hts g_L_121 rfl rfl rfl hd_M_made ⟨Nat.le_of_ble_eq_true rfl, Nat.le_of_ble_eq_true rfl⟩) 0 5 rfl rfl rfl rfl (Nat.le_of_ble_eq_true rfl) d_L_law_818 hc0 rfl (fun r5 ρ6 h => ?_)
      refine jv_toC ?_
      refine jv_icmp_eq (tgt := 863) B d_L_law_821 (by decide) (fun hc => ?_) (fun hc => ?_)
      · replace h := h.1 hc
        refine jv_sub [0, 1, 2, 3, 4] rfl ?_
        refine jv_widen (k := nc + 1) (n := ns + 6) (Nat.le_succ _) (Nat.le_add_right _ _) ?_
        exact H9 _ _ _ h
      · replace h := h.2 hc
        refine jv_iconst (v := 0) B d_L_law_824 (by decide) ?_
        exact h.elim
  · replace h := h.2 hc
    refine jv_iconst (v := 1) B d_L_law_795 (by decide) ?_
    refine jv_goto (tgt := 800) B d_L_law_796 (by decide) ?_
    refine jv_civ (As := [.int 1]) B hml hown hts hK hA (c_R_made (ad := ad) (cI := cI) (cA := cA) (cL := cL) (F := oc ao cL fo :: mw am cI cA ρ []) h) (cwV 1 hts g_L_117 rfl rfl rfl hd_R_made ⟨Nat.le_of_ble_eq_true rfl, Nat.le_of_ble_eq_true rfl⟩) 0 4 rfl rfl rfl rfl (Nat.le_of_ble_eq_true rfl) d_L_law_800 hc0 rfl (fun r7 σ8 h => ?_)
    refine jv_aload_n B d_L_law_803 rfl 2 rfl ?_
    refine jv_aload_n B d_L_law_804 rfl 0 rfl ?_
    refine jv_iload B d_L_law_805 4 rfl ?_
    refine jv_iconst (v := 1) B d_L_law_807 (by decide) ?_
    refine jv_iadd B d_L_law_808 ?_
    refine jv_sld B hX hbl hbA h.1 d_L_law_809 ?_
    replace h := h.2
    refine jv_if_eq (tgt := 817) B d_L_law_810 (by decide) (fun hc => ?_) (fun hc => ?_)
    · replace h := h.1 hc
      refine jv_iconst (v := 0) B d_L_law_817 (by decide) ?_
      refine jv_toM ?_
      refine jv_civ (As := [.int 0]) B hml hown hts hK hA (c_M_made (ad := am) (cI := cI) (cA := cA) (cL := cL) (F := cw ad cI cA σ8 [oc ao cL fo]) h) (cwV 1 hts g_L_121 rfl rfl rfl hd_M_made ⟨Nat.le_of_ble_eq_true rfl, Nat.le_of_ble_eq_true rfl⟩) 0 5 rfl rfl rfl rfl (Nat.le_of_ble_eq_true rfl) d_L_law_818 hc0 rfl (fun r9 ρ10 h => ?_)
      refine jv_toC ?_
      refine jv_icmp_eq (tgt := 863) B d_L_law_821 (by decide) (fun hc => ?_) (fun hc => ?_)
      · replace h := h.1 hc
        refine jv_sub [0, 1, 2, 3, 4] rfl ?_
        refine jv_widen (k := nc + 1) (n := ns + 6) (Nat.le_succ _) (Nat.le_add_right _ _) ?_
        exact H9 _ _ _ h
      · replace h := h.2 hc
        refine jv_iconst (v := 0) B d_L_law_824 (by decide) ?_
        exact h.elim
    · replace h := h.2 hc
      refine jv_iconst (v := 1) B d_L_law_813 (by decide) ?_
      refine jv_goto (tgt := 818) B d_L_law_814 (by decide) ?_
      refine jv_toM ?_
      refine jv_civ (As := [.int 1]) B hml hown hts hK hA (c_M_made (ad := am) (cI := cI) (cA := cA) (cL := cL) (F := cw ad cI cA σ8 [oc ao cL fo]) h) (cwV 1 hts g_L_121 rfl rfl rfl hd_M_made ⟨Nat.le_of_ble_eq_true rfl, Nat.le_of_ble_eq_true rfl⟩) 0 5 rfl rfl rfl rfl (Nat.le_of_ble_eq_true rfl) d_L_law_818 hc0 rfl (fun r11 ρ12 h => ?_)
      refine jv_toC ?_
      refine jv_icmp_eq (tgt := 863) B d_L_law_821 (by decide) (fun hc => ?_) (fun hc => ?_)
      · replace h := h.1 hc
        refine jv_sub [0, 1, 2, 3, 4] rfl ?_
        refine jv_widen (k := nc + 1) (n := ns + 6) (Nat.le_succ _) (Nat.le_add_right _ _) ?_
        exact H9 _ _ _ h
      · replace h := h.2 hc
        refine jv_iconst (v := 0) B d_L_law_824 (by decide) ?_
        exact h.elim
set_option maxRecDepth 100000 in
theorem w_law_17 {p : Program} {l : Launch} {e : Env} {s : State} {m : MethodId} {args : Array Value} {below : List Frame} {meth : Method} {c : Code} {Q : State → Prop} {D : va_G} {A : Nat → Prop} {cI cA cL : ClassId} {ad am : Nat → Nat} {ao b L : Nat} {xs : Nat → Int32} (X : jv_CL p l s m args c D A cI cA cL b L xs) {nc ns : Nat} (hnc : nc + 1 ≤ room_1.cells) (hns : ns + 6 ≤ room_1.slots) {v4 : Int32} {σ ρ : jS} {fo : Nat → Int64} {post : jS → (Nat → Int64) → jS → Prop} (H9 : ∀ (σ : jS) (fo : Nat → Int64) (ρ : jS), post σ fo ρ → jv_V p l e room_1 s m args below meth c D jClasses A 7 (nc + 1) (ns + 6) Q (cw ad cI cA σ (oc ao cL fo :: mw am cI cA ρ [])) [(0, .ref b), (1, .ref (ad 0)), (2, .ref (am 0)), (3, .ref ao), (4, .int v4)] 863 []) (h : p_law_17 L xs v4 σ fo ρ post) : jv_V p l e room_1 s m args below meth c D jClasses A 7 nc ns Q (cw ad cI cA σ (oc ao cL fo :: mw am cI cA ρ [])) [(0, .ref b), (1, .ref (ad 0)), (2, .ref (am 0)), (3, .ref ao), (4, .int v4)] 826 [] := by
  obtain ⟨B, hml, hown, hts, hK, hA, hJ, hX, hbl, hbA, hl⟩ := id X
  have hc0 : nc + 0 ≤ room_1.cells ∧ ns + 0 ≤ room_1.slots := ⟨Nat.le_of_succ_le hnc, Nat.le_trans (Nat.add_le_add_left (Nat.zero_le 6) ns) hns⟩
  have hcm : nc + 1 + 0 ≤ room_1.cells ∧ ns + 6 + 0 ≤ room_1.slots := ⟨hnc, hns⟩
  unfold p_law_17 at h
  refine jv_aload_n B d_L_law_826 rfl 1 rfl ?_
  refine jv_aload_n B d_L_law_827 rfl 0 rfl ?_
  refine jv_iload B d_L_law_828 4 rfl ?_
  refine jv_iconst (v := 1) B d_L_law_830 (by decide) ?_
  refine jv_iadd B d_L_law_831 ?_
  refine jv_sld B hX hbl hbA h.1 d_L_law_832 ?_
  replace h := h.2
  refine jv_aload_n B d_L_law_833 rfl 0 rfl ?_
  refine jv_iload B d_L_law_834 4 rfl ?_
  refine jv_iconst (v := 2) B d_L_law_836 (by decide) ?_
  refine jv_iadd B d_L_law_837 ?_
  refine jv_sld B hX hbl hbA h.1 d_L_law_838 ?_
  replace h := h.2
  refine jv_civ (As := [.int (xs (v4 + 1).toNatClampNeg), .int (xs (v4 + 2).toNatClampNeg)]) B hml hown hts hK hA (c_R_image (ad := ad) (cI := cI) (cA := cA) (cL := cL) (F := oc ao cL fo :: mw am cI cA ρ []) h) (cwV 2 hts g_L_122 rfl rfl rfl hd_R_image ⟨Nat.le_of_ble_eq_true rfl, Nat.le_of_ble_eq_true rfl⟩) 0 4 rfl rfl rfl rfl (Nat.le_of_ble_eq_true rfl) d_L_law_839 hc0 rfl (fun r1 σ2 h => ?_)
  refine jv_aload_n B d_L_law_842 rfl 2 rfl ?_
  refine jv_aload_n B d_L_law_843 rfl 0 rfl ?_
  refine jv_iload B d_L_law_844 4 rfl ?_
  refine jv_iconst (v := 1) B d_L_law_846 (by decide) ?_
  refine jv_iadd B d_L_law_847 ?_
  refine jv_sld B hX hbl hbA h.1 d_L_law_848 ?_
  replace h := h.2
  refine jv_aload_n B d_L_law_849 rfl 0 rfl ?_
  refine jv_iload B d_L_law_850 4 rfl ?_
  refine jv_iconst (v := 2) B d_L_law_852 (by decide) ?_
  refine jv_iadd B d_L_law_853 ?_
  refine jv_sld B hX hbl hbA h.1 d_L_law_854 ?_
  replace h := h.2
  refine jv_toM ?_
  refine jv_civ (As := [.int (xs (v4 + 1).toNatClampNeg), .int (xs (v4 + 2).toNatClampNeg)]) B hml hown hts hK hA (c_M_image (ad := am) (cI := cI) (cA := cA) (cL := cL) (F := cw ad cI cA σ2 [oc ao cL fo]) h) (cwV 2 hts g_L_125 rfl rfl rfl hd_M_image ⟨Nat.le_of_ble_eq_true rfl, Nat.le_of_ble_eq_true rfl⟩) 0 5 rfl rfl rfl rfl (Nat.le_of_ble_eq_true rfl) d_L_law_855 hc0 rfl (fun r3 ρ4 h => ?_)
  refine jv_toC ?_
  refine jv_icmp_eq (tgt := 863) B d_L_law_858 (by decide) (fun hc => ?_) (fun hc => ?_)
  · replace h := h.1 hc
    refine jv_sub [0, 1, 2, 3, 4] rfl ?_
    refine jv_widen (k := nc + 1) (n := ns + 6) (Nat.le_succ _) (Nat.le_add_right _ _) ?_
    exact H9 _ _ _ h
  · replace h := h.2 hc
    refine jv_iconst (v := 0) B d_L_law_861 (by decide) ?_
    exact h.elim

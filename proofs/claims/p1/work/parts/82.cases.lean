/-! THE LAW: its cases -/
section HQ2
variable {p : Program} {l : Launch} {e : Env} {s : State} {m : MethodId} {args : Array Value} {below : List Frame} {meth : Method} {c : Code} {H : Heap} {locs : List Loc} {cells slots : Nat} {Q : State → Prop}
variable {pc : Nat} {ls : Array Slot} {rest st0 : List Value} {D1 D2 : va_G} {K : Nat → ClassId} {ad a : Nat → Nat} {A : Nat → Prop} {s1 s2 z o b L : Nat} {xs : Nat → Int32} {cJ : ClassId}
def hq_T (a : Nat → Nat) (z : Nat) (nw : Int32) : va_W := [((a 1), .inr (1, [.ref (a 2), .ref (a 3), .ref (a 4), .ref (a 5), .int nw])), ((a 2), .inr (0, [.int 0, .ref z, .int 0])), ((a 3), .inr (0, [.int 0, .ref z, .int 0])), ((a 4), .inr (0, [.int 0, .ref z, .int 0])), ((a 5), .inr (0, [.int 0, .ref z, .int 0]))]
def hq_O (a : Nat → Nat) (th : Int32) : va_W := [((a 0), .inr (2, [.int th, .ref (a 1), .int 0, .int 0]))]
theorem hq_bool {R : Room} {x : Int32} (C0 : hq_C p s m args meth c D1 D2 K z s1 s2 b L xs cJ A) (d1 : decode cL_law pc = .ok (.ifCond .eq 7, 3)) (d2 : decode cL_law (pc + 3) = .ok (.iconst 1, 1)) (d3 : decode cL_law (pc + 4) = .ok (.goto 4, 3)) (d4 : decode cL_law (pc + 7) = .ok (.iconst 0, 1))
    (kk : ∀ y : Int32, W p l e R s m args below meth c H locs cells slots Q (F0 m (pc + 8) ls (.int y :: rest))) : W p l e R s m args below meth c H locs cells slots Q (F0 m pc ls (.int x :: rest)) := by
  obtain ⟨hx, hb, -⟩ := C0
  refine lv_if_eq (tgt := pc + 7) hx hb d1 (by omega) (fun _ => ?_) (fun _ => ?_)
  · exact lv_iconst (v := 0) hx hb d4 (by decide) (kk 0)
  · refine lv_iconst (v := 1) hx hb d2 (by decide) ?_
    exact lv_goto (tgt := pc + 8) hx hb d3 (by omega) (kk 1)
set_option maxHeartbeats 4000000 in
set_option maxRecDepth 100000 in
theorem hq_case_mast (C0 : hq_C p s m args meth c D1 D2 K z s1 s2 b L xs cJ A) (hfl : l.stackTraces = false) (hp : hq_W D1 D2 K ad a z o cJ A s.heap H locs) (hL : L = 7) (hl : lv_has ls 9 [(4, .int 0), (3, .ref o), (2, .ref (a 0)), (1, .ref (ad 0)), (0, .ref b)])
    (kk : ∀ (H : Heap) (locs : List Loc) (ls : Array Slot), va_S A s.heap H locs → lv_has ls 9 [(4, .int 0), (0, .ref b)] → W p l e room_1 s m args below meth c H locs 1000 5000 Q (F0 m 1636 ls [])) : W p l e room_1 s m args below meth c H locs 197 2214 Q (F0 m 148 ls []) := by
  obtain ⟨hx, hb, hml, hown, hts, hK1, hJ1, hK2, hJ2, hA, hN, hV, hZ, hX, hbl, hbA⟩ := id C0
  rcases Classical.em (hv_mast (xs 1) (xs 2) (xs 3) (xs 4) (xs 5) (xs 6)) with hvd | hvd
  · refine lv_aload_n hx hb dL_law_148 rfl (lv_at hl 3 rfl) ?_
    refine lv_aload_n hx hb dL_law_149 rfl (lv_at hl 4 rfl) ?_
    refine lv_iload hx hb dL_law_150 (lv_at hl 0 rfl) ?_
    refine lv_iconst (v := 1) hx hb dL_law_152 (by decide) ?_
    refine lv_iadd hx hb dL_law_153 ?_
    refine hq_arg (k := 1) C0 hp.2.2.2 (by decide) (by omega) dL_law_154 ?_
    refine lv_aload_n hx hb dL_law_155 rfl (lv_at hl 4 rfl) ?_
    refine lv_iload hx hb dL_law_156 (lv_at hl 0 rfl) ?_
    refine lv_iconst (v := 2) hx hb dL_law_158 (by decide) ?_
    refine lv_iadd hx hb dL_law_159 ?_
    refine hq_arg (k := 2) C0 hp.2.2.2 (by decide) (by omega) dL_law_160 ?_
    refine lv_aload_n hx hb dL_law_161 rfl (lv_at hl 4 rfl) ?_
    refine lv_iload hx hb dL_law_162 (lv_at hl 0 rfl) ?_
    refine lv_iconst (v := 3) hx hb dL_law_164 (by decide) ?_
    refine lv_iadd hx hb dL_law_165 ?_
    refine hq_arg (k := 3) C0 hp.2.2.2 (by decide) (by omega) dL_law_166 ?_
    refine lv_aload_n hx hb dL_law_167 rfl (lv_at hl 4 rfl) ?_
    refine lv_iload hx hb dL_law_168 (lv_at hl 0 rfl) ?_
    refine lv_iconst (v := 4) hx hb dL_law_170 (by decide) ?_
    refine lv_iadd hx hb dL_law_171 ?_
    refine hq_arg (k := 4) C0 hp.2.2.2 (by decide) (by omega) dL_law_172 ?_
    refine lv_aload_n hx hb dL_law_173 rfl (lv_at hl 4 rfl) ?_
    refine lv_iload hx hb dL_law_174 (lv_at hl 0 rfl) ?_
    refine lv_iconst (v := 5) hx hb dL_law_176 (by decide) ?_
    refine lv_iadd hx hb dL_law_177 ?_
    refine hq_arg (k := 5) C0 hp.2.2.2 (by decide) (by omega) dL_law_178 ?_
    refine lv_aload_n hx hb dL_law_179 rfl (lv_at hl 4 rfl) ?_
    refine lv_iload hx hb dL_law_180 (lv_at hl 0 rfl) ?_
    refine lv_bipush (v := 6) hx hb dL_law_182 (by decide) ?_
    refine lv_iadd hx hb dL_law_184 ?_
    refine hq_arg (k := 6) C0 hp.2.2.2 (by decide) (by omega) dL_law_185 ?_
    refine lv_aload_n hx hb dL_law_186 rfl (lv_at hl 1 rfl) ?_
    refine hq_c0 C0 hp (As := [.ref (ad 0), .int (xs 1), .int (xs 2), .int (xs 3), .int (xs 4), .int (xs 5), .int (xs 6), .ref o]) (rest := []) (n := 8) (hy_mast_0 l D1 K ad o cJ (xs 1) (xs 2) (xs 3) (xs 4) (xs 5) (xs 6) hvd) (hq_gS rfl hq_4 hq_5 hq_6) ⟨rfl, rfl⟩ (by decide +kernel) ⟨Nat.le_of_ble_eq_true rfl, Nat.le_of_ble_eq_true rfl⟩ ⟨Nat.le_of_ble_eq_true rfl, Nat.le_of_ble_eq_true rfl⟩ hl.1 rfl rfl (Nat.le_of_ble_eq_true rfl) dL_law_187 (fun H locs hp => ?_)
    refine lv_istore (lv' := [(5, .int 0), (4, .int 0), (3, .ref o), (2, .ref (a 0)), (1, .ref (ad 0)), (0, .ref b)]) hx hb dL_law_190 hl (by decide) rfl (fun ls hl => ?_)
    refine lv_aload_n hx hb dL_law_192 rfl (lv_at hl 3 rfl) ?_
    refine lv_aload_n hx hb dL_law_193 rfl (lv_at hl 5 rfl) ?_
    refine lv_iload hx hb dL_law_194 (lv_at hl 1 rfl) ?_
    refine lv_iconst (v := 1) hx hb dL_law_196 (by decide) ?_
    refine lv_iadd hx hb dL_law_197 ?_
    refine hq_arg (k := 1) C0 hp.2.2 (by decide) (by omega) dL_law_198 ?_
    refine lv_aload_n hx hb dL_law_199 rfl (lv_at hl 5 rfl) ?_
    refine lv_iload hx hb dL_law_200 (lv_at hl 1 rfl) ?_
    refine lv_iconst (v := 2) hx hb dL_law_202 (by decide) ?_
    refine lv_iadd hx hb dL_law_203 ?_
    refine hq_arg (k := 2) C0 hp.2.2 (by decide) (by omega) dL_law_204 ?_
    refine lv_aload_n hx hb dL_law_205 rfl (lv_at hl 5 rfl) ?_
    refine lv_iload hx hb dL_law_206 (lv_at hl 1 rfl) ?_
    refine lv_iconst (v := 3) hx hb dL_law_208 (by decide) ?_
    refine lv_iadd hx hb dL_law_209 ?_
    refine hq_arg (k := 3) C0 hp.2.2 (by decide) (by omega) dL_law_210 ?_
    refine lv_aload_n hx hb dL_law_211 rfl (lv_at hl 5 rfl) ?_
    refine lv_iload hx hb dL_law_212 (lv_at hl 1 rfl) ?_
    refine lv_iconst (v := 4) hx hb dL_law_214 (by decide) ?_
    refine lv_iadd hx hb dL_law_215 ?_
    refine hq_arg (k := 4) C0 hp.2.2 (by decide) (by omega) dL_law_216 ?_
    refine lv_aload_n hx hb dL_law_217 rfl (lv_at hl 5 rfl) ?_
    refine lv_iload hx hb dL_law_218 (lv_at hl 1 rfl) ?_
    refine lv_iconst (v := 5) hx hb dL_law_220 (by decide) ?_
    refine lv_iadd hx hb dL_law_221 ?_
    refine hq_arg (k := 5) C0 hp.2.2 (by decide) (by omega) dL_law_222 ?_
    refine lv_aload_n hx hb dL_law_223 rfl (lv_at hl 5 rfl) ?_
    refine lv_iload hx hb dL_law_224 (lv_at hl 1 rfl) ?_
    refine lv_bipush (v := 6) hx hb dL_law_226 (by decide) ?_
    refine lv_iadd hx hb dL_law_228 ?_
    refine hq_arg (k := 6) C0 hp.2.2 (by decide) (by omega) dL_law_229 ?_
    refine hq_ri (q0 := 0) (As := [.int (xs 1), .int (xs 2), .int (xs 3), .int (xs 4), .int (xs 5), .int (xs 6)]) (rest := []) (n := 6) C0 hp (hq_R o cJ (fun _ => 0)) (hr_mast_y l D2 a z 0 0 (xs 1) (xs 2) (xs 3) (xs 4) (xs 5) (xs 6) hvd) rfl rfl (hq_gV hq_7 hq_8 hq_9 hw_156) ⟨rfl, rfl⟩ (by decide +kernel) ⟨Nat.le_of_ble_eq_true rfl, Nat.le_of_ble_eq_true rfl⟩ ⟨Nat.le_of_ble_eq_true rfl, Nat.le_of_ble_eq_true rfl⟩ hl.1 rfl rfl (Nat.le_of_ble_eq_true rfl) dL_law_230 (fun q u H locs hv hp => ?_)
    have hq9 : q = 0 := hv
    subst hq9
    have hp : hr_H D2 A s.heap (hq_O a 0 ++ hq_R o cJ (fun _ => 0)) H locs := hp
    refine lv_istore (lv' := [(6, .int 0), (5, .int 0), (4, .int 0), (3, .ref o), (2, .ref (a 0)), (1, .ref (ad 0)), (0, .ref b)]) hx hb dL_law_233 hl (by decide) rfl (fun ls hl => ?_)
    refine lv_aload_n hx hb dL_law_235 rfl (lv_at hl 4 rfl) ?_
    refine hq_th (rest := []) (th := 0) (v1 := .ref (a 1)) (v2 := .int 0) (v3 := .int 0) C0 _ hp ⟨Nat.le_of_ble_eq_true rfl, Nat.le_of_ble_eq_true rfl⟩ ⟨Nat.le_of_ble_eq_true rfl, Nat.le_of_ble_eq_true rfl⟩ hl.1 (Nat.le_of_ble_eq_true rfl) dL_law_236 (fun H locs hp => ?_)
    refine lv_iload hx hb dL_law_239 (lv_at hl 1 rfl) ?_
    refine lv_icmp_eq (tgt := 246) hx hb dL_law_241 (by decide) (fun _ => ?_) (fun h => absurd rfl h)
    refine lv_iload hx hb dL_law_246 (lv_at hl 1 rfl) ?_
    refine lv_if_ne (tgt := 263) hx hb dL_law_248 (by decide) (fun h => absurd rfl h) (fun _ => ?_)
    refine lv_aload_n hx hb dL_law_251 rfl (lv_at hl 3 rfl) ?_
    refine lv_iconst (v := 0) hx hb dL_law_252 (by decide) ?_
    refine hq_ll C0 hp dL_law_253 ?_
    refine lv_iload hx hb dL_law_254 (lv_at hl 0 rfl) ?_
    refine lv_i2l (v := 0) hx hb dL_law_256 (by decide) ?_
    refine hq_lcmp C0 rfl dL_law_257 ?_
    refine lv_if_eq (tgt := 263) hx hb dL_law_258 (by decide) (fun _ => ?_) (fun h => absurd rfl h)
    refine lv_goto (tgt := 1636) hx hb dL_law_263 (by decide) ?_
    refine W.widen (k := 1000) (n := 5000) (Nat.le_of_ble_eq_true rfl) (Nat.le_of_ble_eq_true rfl) ?_
    exact kk _ _ _ hp.2.2 (lv_sub hl [2, 6] rfl)
  · refine lv_aload_n hx hb dL_law_148 rfl (lv_at hl 3 rfl) ?_
    refine lv_aload_n hx hb dL_law_149 rfl (lv_at hl 4 rfl) ?_
    refine lv_iload hx hb dL_law_150 (lv_at hl 0 rfl) ?_
    refine lv_iconst (v := 1) hx hb dL_law_152 (by decide) ?_
    refine lv_iadd hx hb dL_law_153 ?_
    refine hq_arg (k := 1) C0 hp.2.2.2 (by decide) (by omega) dL_law_154 ?_
    refine lv_aload_n hx hb dL_law_155 rfl (lv_at hl 4 rfl) ?_
    refine lv_iload hx hb dL_law_156 (lv_at hl 0 rfl) ?_
    refine lv_iconst (v := 2) hx hb dL_law_158 (by decide) ?_
    refine lv_iadd hx hb dL_law_159 ?_
    refine hq_arg (k := 2) C0 hp.2.2.2 (by decide) (by omega) dL_law_160 ?_
    refine lv_aload_n hx hb dL_law_161 rfl (lv_at hl 4 rfl) ?_
    refine lv_iload hx hb dL_law_162 (lv_at hl 0 rfl) ?_
    refine lv_iconst (v := 3) hx hb dL_law_164 (by decide) ?_
    refine lv_iadd hx hb dL_law_165 ?_
    refine hq_arg (k := 3) C0 hp.2.2.2 (by decide) (by omega) dL_law_166 ?_
    refine lv_aload_n hx hb dL_law_167 rfl (lv_at hl 4 rfl) ?_
    refine lv_iload hx hb dL_law_168 (lv_at hl 0 rfl) ?_
    refine lv_iconst (v := 4) hx hb dL_law_170 (by decide) ?_
    refine lv_iadd hx hb dL_law_171 ?_
    refine hq_arg (k := 4) C0 hp.2.2.2 (by decide) (by omega) dL_law_172 ?_
    refine lv_aload_n hx hb dL_law_173 rfl (lv_at hl 4 rfl) ?_
    refine lv_iload hx hb dL_law_174 (lv_at hl 0 rfl) ?_
    refine lv_iconst (v := 5) hx hb dL_law_176 (by decide) ?_
    refine lv_iadd hx hb dL_law_177 ?_
    refine hq_arg (k := 5) C0 hp.2.2.2 (by decide) (by omega) dL_law_178 ?_
    refine lv_aload_n hx hb dL_law_179 rfl (lv_at hl 4 rfl) ?_
    refine lv_iload hx hb dL_law_180 (lv_at hl 0 rfl) ?_
    refine lv_bipush (v := 6) hx hb dL_law_182 (by decide) ?_
    refine lv_iadd hx hb dL_law_184 ?_
    refine hq_arg (k := 6) C0 hp.2.2.2 (by decide) (by omega) dL_law_185 ?_
    refine lv_aload_n hx hb dL_law_186 rfl (lv_at hl 1 rfl) ?_
    refine hq_c1 C0 hp (As := [.ref (ad 0), .int (xs 1), .int (xs 2), .int (xs 3), .int (xs 4), .int (xs 5), .int (xs 6), .ref o]) (rest := []) (n := 8) (hy_mast_1 l hfl D1 K ad s1 s2 o (xs 1) (xs 2) (xs 3) (xs 4) (xs 5) (xs 6) hvd) (hq_gS rfl hq_4 hq_5 hq_6) ⟨rfl, rfl⟩ (by decide +kernel) ⟨Nat.le_of_ble_eq_true rfl, Nat.le_of_ble_eq_true rfl⟩ ⟨Nat.le_of_ble_eq_true rfl, Nat.le_of_ble_eq_true rfl⟩ hl.1 rfl rfl (Nat.le_of_ble_eq_true rfl) dL_law_187 (fun H locs hp => ?_)
    refine lv_istore (lv' := [(5, .int 1), (4, .int 0), (3, .ref o), (2, .ref (a 0)), (1, .ref (ad 0)), (0, .ref b)]) hx hb dL_law_190 hl (by decide) rfl (fun ls hl => ?_)
    refine lv_aload_n hx hb dL_law_192 rfl (lv_at hl 3 rfl) ?_
    refine lv_aload_n hx hb dL_law_193 rfl (lv_at hl 5 rfl) ?_
    refine lv_iload hx hb dL_law_194 (lv_at hl 1 rfl) ?_
    refine lv_iconst (v := 1) hx hb dL_law_196 (by decide) ?_
    refine lv_iadd hx hb dL_law_197 ?_
    refine hq_arg (k := 1) C0 hp.2.2 (by decide) (by omega) dL_law_198 ?_
    refine lv_aload_n hx hb dL_law_199 rfl (lv_at hl 5 rfl) ?_
    refine lv_iload hx hb dL_law_200 (lv_at hl 1 rfl) ?_
    refine lv_iconst (v := 2) hx hb dL_law_202 (by decide) ?_
    refine lv_iadd hx hb dL_law_203 ?_
    refine hq_arg (k := 2) C0 hp.2.2 (by decide) (by omega) dL_law_204 ?_
    refine lv_aload_n hx hb dL_law_205 rfl (lv_at hl 5 rfl) ?_
    refine lv_iload hx hb dL_law_206 (lv_at hl 1 rfl) ?_
    refine lv_iconst (v := 3) hx hb dL_law_208 (by decide) ?_
    refine lv_iadd hx hb dL_law_209 ?_
    refine hq_arg (k := 3) C0 hp.2.2 (by decide) (by omega) dL_law_210 ?_
    refine lv_aload_n hx hb dL_law_211 rfl (lv_at hl 5 rfl) ?_
    refine lv_iload hx hb dL_law_212 (lv_at hl 1 rfl) ?_
    refine lv_iconst (v := 4) hx hb dL_law_214 (by decide) ?_
    refine lv_iadd hx hb dL_law_215 ?_
    refine hq_arg (k := 4) C0 hp.2.2 (by decide) (by omega) dL_law_216 ?_
    refine lv_aload_n hx hb dL_law_217 rfl (lv_at hl 5 rfl) ?_
    refine lv_iload hx hb dL_law_218 (lv_at hl 1 rfl) ?_
    refine lv_iconst (v := 5) hx hb dL_law_220 (by decide) ?_
    refine lv_iadd hx hb dL_law_221 ?_
    refine hq_arg (k := 5) C0 hp.2.2 (by decide) (by omega) dL_law_222 ?_
    refine lv_aload_n hx hb dL_law_223 rfl (lv_at hl 5 rfl) ?_
    refine lv_iload hx hb dL_law_224 (lv_at hl 1 rfl) ?_
    refine lv_bipush (v := 6) hx hb dL_law_226 (by decide) ?_
    refine lv_iadd hx hb dL_law_228 ?_
    refine hq_arg (k := 6) C0 hp.2.2 (by decide) (by omega) dL_law_229 ?_
    refine hq_ri (q0 := 0) (As := [.int (xs 1), .int (xs 2), .int (xs 3), .int (xs 4), .int (xs 5), .int (xs 6)]) (rest := []) (n := 6) C0 hp (hq_R o cJ (fun _ => 0)) (hr_mast_n l D2 a z 0 0 (xs 1) (xs 2) (xs 3) (xs 4) (xs 5) (xs 6) hvd) rfl rfl (hq_gV hq_7 hq_8 hq_9 hw_156) ⟨rfl, rfl⟩ (by decide +kernel) ⟨Nat.le_of_ble_eq_true rfl, Nat.le_of_ble_eq_true rfl⟩ ⟨Nat.le_of_ble_eq_true rfl, Nat.le_of_ble_eq_true rfl⟩ hl.1 rfl rfl (Nat.le_of_ble_eq_true rfl) dL_law_230 (fun q u H locs hv hp => ?_)
    have hq9 : q = 0 := hv
    subst hq9
    have hp : hr_H D2 A s.heap (hq_O a 1 ++ (hq_T a z 0 ++ hq_R o cJ (fun _ => 0))) H locs := hp
    refine lv_istore (lv' := [(6, .int 0), (5, .int 1), (4, .int 0), (3, .ref o), (2, .ref (a 0)), (1, .ref (ad 0)), (0, .ref b)]) hx hb dL_law_233 hl (by decide) rfl (fun ls hl => ?_)
    refine lv_aload_n hx hb dL_law_235 rfl (lv_at hl 4 rfl) ?_
    refine hq_th (rest := []) (th := 1) (v1 := .ref (a 1)) (v2 := .int 0) (v3 := .int 0) C0 _ hp ⟨Nat.le_of_ble_eq_true rfl, Nat.le_of_ble_eq_true rfl⟩ ⟨Nat.le_of_ble_eq_true rfl, Nat.le_of_ble_eq_true rfl⟩ hl.1 (Nat.le_of_ble_eq_true rfl) dL_law_236 (fun H locs hp => ?_)
    refine lv_iload hx hb dL_law_239 (lv_at hl 1 rfl) ?_
    refine lv_icmp_eq (tgt := 246) hx hb dL_law_241 (by decide) (fun _ => ?_) (fun h => absurd rfl h)
    refine lv_iload hx hb dL_law_246 (lv_at hl 1 rfl) ?_
    refine lv_if_ne (tgt := 263) hx hb dL_law_248 (by decide) (fun _ => ?_) (fun h => absurd h (by decide))
    refine lv_goto (tgt := 1636) hx hb dL_law_263 (by decide) ?_
    refine W.widen (k := 1000) (n := 5000) (Nat.le_of_ble_eq_true rfl) (Nat.le_of_ble_eq_true rfl) ?_
    exact kk _ _ _ hp.2.2 (lv_sub hl [2, 6] rfl)
set_option maxHeartbeats 4000000 in
set_option maxRecDepth 100000 in
theorem hq_case_handset (C0 : hq_C p s m args meth c D1 D2 K z s1 s2 b L xs cJ A) (hfl : l.stackTraces = false) (hp : hq_W D1 D2 K ad a z o cJ A s.heap H locs) (hL : L = 7) (hl : lv_has ls 9 [(4, .int 0), (3, .ref o), (2, .ref (a 0)), (1, .ref (ad 0)), (0, .ref b)])
    (kk : ∀ (H : Heap) (locs : List Loc) (ls : Array Slot), va_S A s.heap H locs → lv_has ls 9 [(4, .int 0), (0, .ref b)] → W p l e room_1 s m args below meth c H locs 1000 5000 Q (F0 m 1636 ls [])) : W p l e room_1 s m args below meth c H locs 197 2214 Q (F0 m 266 ls []) := by
  obtain ⟨hx, hb, hml, hown, hts, hK1, hJ1, hK2, hJ2, hA, hN, hV, hZ, hX, hbl, hbA⟩ := id C0
  rcases Classical.em (hv_handset (xs 1) (xs 2) (xs 3) (xs 4)) with hvd | hvd
  · refine lv_aload_n hx hb dL_law_266 rfl (lv_at hl 3 rfl) ?_
    refine lv_aload_n hx hb dL_law_267 rfl (lv_at hl 4 rfl) ?_
    refine lv_iload hx hb dL_law_268 (lv_at hl 0 rfl) ?_
    refine lv_iconst (v := 1) hx hb dL_law_270 (by decide) ?_
    refine lv_iadd hx hb dL_law_271 ?_
    refine hq_arg (k := 1) C0 hp.2.2.2 (by decide) (by omega) dL_law_272 ?_
    refine lv_aload_n hx hb dL_law_273 rfl (lv_at hl 4 rfl) ?_
    refine lv_iload hx hb dL_law_274 (lv_at hl 0 rfl) ?_
    refine lv_iconst (v := 2) hx hb dL_law_276 (by decide) ?_
    refine lv_iadd hx hb dL_law_277 ?_
    refine hq_arg (k := 2) C0 hp.2.2.2 (by decide) (by omega) dL_law_278 ?_
    refine lv_aload_n hx hb dL_law_279 rfl (lv_at hl 4 rfl) ?_
    refine lv_iload hx hb dL_law_280 (lv_at hl 0 rfl) ?_
    refine lv_iconst (v := 3) hx hb dL_law_282 (by decide) ?_
    refine lv_iadd hx hb dL_law_283 ?_
    refine hq_arg (k := 3) C0 hp.2.2.2 (by decide) (by omega) dL_law_284 ?_
    refine lv_aload_n hx hb dL_law_285 rfl (lv_at hl 4 rfl) ?_
    refine lv_iload hx hb dL_law_286 (lv_at hl 0 rfl) ?_
    refine lv_iconst (v := 4) hx hb dL_law_288 (by decide) ?_
    refine lv_iadd hx hb dL_law_289 ?_
    refine hq_arg (k := 4) C0 hp.2.2.2 (by decide) (by omega) dL_law_290 ?_
    refine lv_aload_n hx hb dL_law_291 rfl (lv_at hl 1 rfl) ?_
    refine hq_c0 C0 hp (As := [.ref (ad 0), .int (xs 1), .int (xs 2), .int (xs 3), .int (xs 4), .ref o]) (rest := []) (n := 6) (hy_handset_0 l D1 K ad o cJ (xs 1) (xs 2) (xs 3) (xs 4) hvd) (hq_gS rfl hq_13 hq_14 hq_15) ⟨rfl, rfl⟩ (by decide +kernel) ⟨Nat.le_of_ble_eq_true rfl, Nat.le_of_ble_eq_true rfl⟩ ⟨Nat.le_of_ble_eq_true rfl, Nat.le_of_ble_eq_true rfl⟩ hl.1 rfl rfl (Nat.le_of_ble_eq_true rfl) dL_law_292 (fun H locs hp => ?_)
    refine lv_istore (lv' := [(5, .int 0), (4, .int 0), (3, .ref o), (2, .ref (a 0)), (1, .ref (ad 0)), (0, .ref b)]) hx hb dL_law_295 hl (by decide) rfl (fun ls hl => ?_)
    refine lv_aload_n hx hb dL_law_297 rfl (lv_at hl 3 rfl) ?_
    refine lv_aload_n hx hb dL_law_298 rfl (lv_at hl 5 rfl) ?_
    refine lv_iload hx hb dL_law_299 (lv_at hl 1 rfl) ?_
    refine lv_iconst (v := 1) hx hb dL_law_301 (by decide) ?_
    refine lv_iadd hx hb dL_law_302 ?_
    refine hq_arg (k := 1) C0 hp.2.2 (by decide) (by omega) dL_law_303 ?_
    refine lv_aload_n hx hb dL_law_304 rfl (lv_at hl 5 rfl) ?_
    refine lv_iload hx hb dL_law_305 (lv_at hl 1 rfl) ?_
    refine lv_iconst (v := 2) hx hb dL_law_307 (by decide) ?_
    refine lv_iadd hx hb dL_law_308 ?_
    refine hq_arg (k := 2) C0 hp.2.2 (by decide) (by omega) dL_law_309 ?_
    refine lv_aload_n hx hb dL_law_310 rfl (lv_at hl 5 rfl) ?_
    refine lv_iload hx hb dL_law_311 (lv_at hl 1 rfl) ?_
    refine lv_iconst (v := 3) hx hb dL_law_313 (by decide) ?_
    refine lv_iadd hx hb dL_law_314 ?_
    refine hq_arg (k := 3) C0 hp.2.2 (by decide) (by omega) dL_law_315 ?_
    refine lv_aload_n hx hb dL_law_316 rfl (lv_at hl 5 rfl) ?_
    refine lv_iload hx hb dL_law_317 (lv_at hl 1 rfl) ?_
    refine lv_iconst (v := 4) hx hb dL_law_319 (by decide) ?_
    refine lv_iadd hx hb dL_law_320 ?_
    refine hq_arg (k := 4) C0 hp.2.2 (by decide) (by omega) dL_law_321 ?_
    refine hq_ri (q0 := 0) (As := [.int (xs 1), .int (xs 2), .int (xs 3), .int (xs 4)]) (rest := []) (n := 4) C0 hp (hq_R o cJ (fun _ => 0)) (hr_handset_y l D2 a z 0 0 (xs 1) (xs 2) (xs 3) (xs 4) hvd) rfl rfl (hq_gV hq_16 hq_17 hq_18 hw_191) ⟨rfl, rfl⟩ (by decide +kernel) ⟨Nat.le_of_ble_eq_true rfl, Nat.le_of_ble_eq_true rfl⟩ ⟨Nat.le_of_ble_eq_true rfl, Nat.le_of_ble_eq_true rfl⟩ hl.1 rfl rfl (Nat.le_of_ble_eq_true rfl) dL_law_322 (fun q u H locs hv hp => ?_)
    have hq9 : q = 0 := hv
    subst hq9
    have hp : hr_H D2 A s.heap (hq_O a 0 ++ hq_R o cJ (fun _ => 0)) H locs := hp
    refine lv_istore (lv' := [(6, .int 0), (5, .int 0), (4, .int 0), (3, .ref o), (2, .ref (a 0)), (1, .ref (ad 0)), (0, .ref b)]) hx hb dL_law_325 hl (by decide) rfl (fun ls hl => ?_)
    refine lv_aload_n hx hb dL_law_327 rfl (lv_at hl 4 rfl) ?_
    refine hq_th (rest := []) (th := 0) (v1 := .ref (a 1)) (v2 := .int 0) (v3 := .int 0) C0 _ hp ⟨Nat.le_of_ble_eq_true rfl, Nat.le_of_ble_eq_true rfl⟩ ⟨Nat.le_of_ble_eq_true rfl, Nat.le_of_ble_eq_true rfl⟩ hl.1 (Nat.le_of_ble_eq_true rfl) dL_law_328 (fun H locs hp => ?_)
    refine lv_iload hx hb dL_law_331 (lv_at hl 1 rfl) ?_
    refine lv_icmp_eq (tgt := 338) hx hb dL_law_333 (by decide) (fun _ => ?_) (fun h => absurd rfl h)
    refine lv_iload hx hb dL_law_338 (lv_at hl 1 rfl) ?_
    refine lv_if_ne (tgt := 355) hx hb dL_law_340 (by decide) (fun h => absurd rfl h) (fun _ => ?_)
    refine lv_aload_n hx hb dL_law_343 rfl (lv_at hl 3 rfl) ?_
    refine lv_iconst (v := 0) hx hb dL_law_344 (by decide) ?_
    refine hq_ll C0 hp dL_law_345 ?_
    refine lv_iload hx hb dL_law_346 (lv_at hl 0 rfl) ?_
    refine lv_i2l (v := 0) hx hb dL_law_348 (by decide) ?_
    refine hq_lcmp C0 rfl dL_law_349 ?_
    refine lv_if_eq (tgt := 355) hx hb dL_law_350 (by decide) (fun _ => ?_) (fun h => absurd rfl h)
    refine lv_goto (tgt := 1636) hx hb dL_law_355 (by decide) ?_
    refine W.widen (k := 1000) (n := 5000) (Nat.le_of_ble_eq_true rfl) (Nat.le_of_ble_eq_true rfl) ?_
    exact kk _ _ _ hp.2.2 (lv_sub hl [2, 6] rfl)
  · refine lv_aload_n hx hb dL_law_266 rfl (lv_at hl 3 rfl) ?_
    refine lv_aload_n hx hb dL_law_267 rfl (lv_at hl 4 rfl) ?_
    refine lv_iload hx hb dL_law_268 (lv_at hl 0 rfl) ?_
    refine lv_iconst (v := 1) hx hb dL_law_270 (by decide) ?_
    refine lv_iadd hx hb dL_law_271 ?_
    refine hq_arg (k := 1) C0 hp.2.2.2 (by decide) (by omega) dL_law_272 ?_
    refine lv_aload_n hx hb dL_law_273 rfl (lv_at hl 4 rfl) ?_
    refine lv_iload hx hb dL_law_274 (lv_at hl 0 rfl) ?_
    refine lv_iconst (v := 2) hx hb dL_law_276 (by decide) ?_
    refine lv_iadd hx hb dL_law_277 ?_
    refine hq_arg (k := 2) C0 hp.2.2.2 (by decide) (by omega) dL_law_278 ?_
    refine lv_aload_n hx hb dL_law_279 rfl (lv_at hl 4 rfl) ?_
    refine lv_iload hx hb dL_law_280 (lv_at hl 0 rfl) ?_
    refine lv_iconst (v := 3) hx hb dL_law_282 (by decide) ?_
    refine lv_iadd hx hb dL_law_283 ?_
    refine hq_arg (k := 3) C0 hp.2.2.2 (by decide) (by omega) dL_law_284 ?_
    refine lv_aload_n hx hb dL_law_285 rfl (lv_at hl 4 rfl) ?_
    refine lv_iload hx hb dL_law_286 (lv_at hl 0 rfl) ?_
    refine lv_iconst (v := 4) hx hb dL_law_288 (by decide) ?_
    refine lv_iadd hx hb dL_law_289 ?_
    refine hq_arg (k := 4) C0 hp.2.2.2 (by decide) (by omega) dL_law_290 ?_
    refine lv_aload_n hx hb dL_law_291 rfl (lv_at hl 1 rfl) ?_
    refine hq_c1 C0 hp (As := [.ref (ad 0), .int (xs 1), .int (xs 2), .int (xs 3), .int (xs 4), .ref o]) (rest := []) (n := 6) (hy_handset_1 l hfl D1 K ad s1 s2 o (xs 1) (xs 2) (xs 3) (xs 4) hvd) (hq_gS rfl hq_13 hq_14 hq_15) ⟨rfl, rfl⟩ (by decide +kernel) ⟨Nat.le_of_ble_eq_true rfl, Nat.le_of_ble_eq_true rfl⟩ ⟨Nat.le_of_ble_eq_true rfl, Nat.le_of_ble_eq_true rfl⟩ hl.1 rfl rfl (Nat.le_of_ble_eq_true rfl) dL_law_292 (fun H locs hp => ?_)
    refine lv_istore (lv' := [(5, .int 1), (4, .int 0), (3, .ref o), (2, .ref (a 0)), (1, .ref (ad 0)), (0, .ref b)]) hx hb dL_law_295 hl (by decide) rfl (fun ls hl => ?_)
    refine lv_aload_n hx hb dL_law_297 rfl (lv_at hl 3 rfl) ?_
    refine lv_aload_n hx hb dL_law_298 rfl (lv_at hl 5 rfl) ?_
    refine lv_iload hx hb dL_law_299 (lv_at hl 1 rfl) ?_
    refine lv_iconst (v := 1) hx hb dL_law_301 (by decide) ?_
    refine lv_iadd hx hb dL_law_302 ?_
    refine hq_arg (k := 1) C0 hp.2.2 (by decide) (by omega) dL_law_303 ?_
    refine lv_aload_n hx hb dL_law_304 rfl (lv_at hl 5 rfl) ?_
    refine lv_iload hx hb dL_law_305 (lv_at hl 1 rfl) ?_
    refine lv_iconst (v := 2) hx hb dL_law_307 (by decide) ?_
    refine lv_iadd hx hb dL_law_308 ?_
    refine hq_arg (k := 2) C0 hp.2.2 (by decide) (by omega) dL_law_309 ?_
    refine lv_aload_n hx hb dL_law_310 rfl (lv_at hl 5 rfl) ?_
    refine lv_iload hx hb dL_law_311 (lv_at hl 1 rfl) ?_
    refine lv_iconst (v := 3) hx hb dL_law_313 (by decide) ?_
    refine lv_iadd hx hb dL_law_314 ?_
    refine hq_arg (k := 3) C0 hp.2.2 (by decide) (by omega) dL_law_315 ?_
    refine lv_aload_n hx hb dL_law_316 rfl (lv_at hl 5 rfl) ?_
    refine lv_iload hx hb dL_law_317 (lv_at hl 1 rfl) ?_
    refine lv_iconst (v := 4) hx hb dL_law_319 (by decide) ?_
    refine lv_iadd hx hb dL_law_320 ?_
    refine hq_arg (k := 4) C0 hp.2.2 (by decide) (by omega) dL_law_321 ?_
    refine hq_ri (q0 := 0) (As := [.int (xs 1), .int (xs 2), .int (xs 3), .int (xs 4)]) (rest := []) (n := 4) C0 hp (hq_R o cJ (fun _ => 0)) (hr_handset_n l D2 a z 0 0 (xs 1) (xs 2) (xs 3) (xs 4) hvd) rfl rfl (hq_gV hq_16 hq_17 hq_18 hw_191) ⟨rfl, rfl⟩ (by decide +kernel) ⟨Nat.le_of_ble_eq_true rfl, Nat.le_of_ble_eq_true rfl⟩ ⟨Nat.le_of_ble_eq_true rfl, Nat.le_of_ble_eq_true rfl⟩ hl.1 rfl rfl (Nat.le_of_ble_eq_true rfl) dL_law_322 (fun q u H locs hv hp => ?_)
    have hq9 : q = 0 := hv
    subst hq9
    have hp : hr_H D2 A s.heap (hq_O a 1 ++ (hq_T a z 0 ++ hq_R o cJ (fun _ => 0))) H locs := hp
    refine lv_istore (lv' := [(6, .int 0), (5, .int 1), (4, .int 0), (3, .ref o), (2, .ref (a 0)), (1, .ref (ad 0)), (0, .ref b)]) hx hb dL_law_325 hl (by decide) rfl (fun ls hl => ?_)
    refine lv_aload_n hx hb dL_law_327 rfl (lv_at hl 4 rfl) ?_
    refine hq_th (rest := []) (th := 1) (v1 := .ref (a 1)) (v2 := .int 0) (v3 := .int 0) C0 _ hp ⟨Nat.le_of_ble_eq_true rfl, Nat.le_of_ble_eq_true rfl⟩ ⟨Nat.le_of_ble_eq_true rfl, Nat.le_of_ble_eq_true rfl⟩ hl.1 (Nat.le_of_ble_eq_true rfl) dL_law_328 (fun H locs hp => ?_)
    refine lv_iload hx hb dL_law_331 (lv_at hl 1 rfl) ?_
    refine lv_icmp_eq (tgt := 338) hx hb dL_law_333 (by decide) (fun _ => ?_) (fun h => absurd rfl h)
    refine lv_iload hx hb dL_law_338 (lv_at hl 1 rfl) ?_
    refine lv_if_ne (tgt := 355) hx hb dL_law_340 (by decide) (fun _ => ?_) (fun h => absurd h (by decide))
    refine lv_goto (tgt := 1636) hx hb dL_law_355 (by decide) ?_
    refine W.widen (k := 1000) (n := 5000) (Nat.le_of_ble_eq_true rfl) (Nat.le_of_ble_eq_true rfl) ?_
    exact kk _ _ _ hp.2.2 (lv_sub hl [2, 6] rfl)
set_option maxHeartbeats 4000000 in
set_option maxRecDepth 100000 in
theorem hq_case_speed (C0 : hq_C p s m args meth c D1 D2 K z s1 s2 b L xs cJ A) (hfl : l.stackTraces = false) (hp : hq_W D1 D2 K ad a z o cJ A s.heap H locs) (hL : L = 7) (hl : lv_has ls 9 [(4, .int 0), (3, .ref o), (2, .ref (a 0)), (1, .ref (ad 0)), (0, .ref b)])
    (kk : ∀ (H : Heap) (locs : List Loc) (ls : Array Slot), va_S A s.heap H locs → lv_has ls 9 [(4, .int 0), (0, .ref b)] → W p l e room_1 s m args below meth c H locs 1000 5000 Q (F0 m 1636 ls [])) : W p l e room_1 s m args below meth c H locs 197 2214 Q (F0 m 358 ls []) := by
  obtain ⟨hx, hb, hml, hown, hts, hK1, hJ1, hK2, hJ2, hA, hN, hV, hZ, hX, hbl, hbA⟩ := id C0
  refine lv_aload_n hx hb dL_law_358 rfl (lv_at hl 3 rfl) ?_
  refine lv_aload_n hx hb dL_law_359 rfl (lv_at hl 4 rfl) ?_
  refine lv_iload hx hb dL_law_360 (lv_at hl 0 rfl) ?_
  refine lv_iconst (v := 1) hx hb dL_law_362 (by decide) ?_
  refine lv_iadd hx hb dL_law_363 ?_
  refine hq_arg (k := 1) C0 hp.2.2.2 (by decide) (by omega) dL_law_364 ?_
  refine lv_aload_n hx hb dL_law_365 rfl (lv_at hl 4 rfl) ?_
  refine lv_iload hx hb dL_law_366 (lv_at hl 0 rfl) ?_
  refine lv_iconst (v := 2) hx hb dL_law_368 (by decide) ?_
  refine lv_iadd hx hb dL_law_369 ?_
  refine hq_arg (k := 2) C0 hp.2.2.2 (by decide) (by omega) dL_law_370 ?_
  refine lv_aload_n hx hb dL_law_371 rfl (lv_at hl 1 rfl) ?_
  refine hq_c1 C0 hp (As := [.ref (ad 0), .int (xs 1), .int (xs 2), .ref o]) (rest := []) (n := 4) (hy_speed_1 l hfl D1 K ad s1 s2 o (xs 1) (xs 2)) (hq_gS rfl hq_19 hq_20 hq_21) ⟨rfl, rfl⟩ (by decide +kernel) ⟨Nat.le_of_ble_eq_true rfl, Nat.le_of_ble_eq_true rfl⟩ ⟨Nat.le_of_ble_eq_true rfl, Nat.le_of_ble_eq_true rfl⟩ hl.1 rfl rfl (Nat.le_of_ble_eq_true rfl) dL_law_372 (fun H locs hp => ?_)
  refine lv_istore (lv' := [(5, .int 1), (4, .int 0), (3, .ref o), (2, .ref (a 0)), (1, .ref (ad 0)), (0, .ref b)]) hx hb dL_law_375 hl (by decide) rfl (fun ls hl => ?_)
  refine lv_aload_n hx hb dL_law_377 rfl (lv_at hl 3 rfl) ?_
  refine lv_aload_n hx hb dL_law_378 rfl (lv_at hl 5 rfl) ?_
  refine lv_iload hx hb dL_law_379 (lv_at hl 1 rfl) ?_
  refine lv_iconst (v := 1) hx hb dL_law_381 (by decide) ?_
  refine lv_iadd hx hb dL_law_382 ?_
  refine hq_arg (k := 1) C0 hp.2.2 (by decide) (by omega) dL_law_383 ?_
  refine lv_aload_n hx hb dL_law_384 rfl (lv_at hl 5 rfl) ?_
  refine lv_iload hx hb dL_law_385 (lv_at hl 1 rfl) ?_
  refine lv_iconst (v := 2) hx hb dL_law_387 (by decide) ?_
  refine lv_iadd hx hb dL_law_388 ?_
  refine hq_arg (k := 2) C0 hp.2.2 (by decide) (by omega) dL_law_389 ?_
  refine hq_ri (q0 := 0) (As := [.int (xs 1), .int (xs 2)]) (rest := []) (n := 2) C0 hp (hq_R o cJ (fun _ => 0)) (hr_X12_speed l D2 a z 0 0 (xs 1) (xs 2)) rfl rfl (hq_gV hq_22 hq_23 hq_24 hw_196) ⟨rfl, rfl⟩ (by decide +kernel) ⟨Nat.le_of_ble_eq_true rfl, Nat.le_of_ble_eq_true rfl⟩ ⟨Nat.le_of_ble_eq_true rfl, Nat.le_of_ble_eq_true rfl⟩ hl.1 rfl rfl (Nat.le_of_ble_eq_true rfl) dL_law_390 (fun q u H locs hv hp => ?_)
  have hq9 : q = 0 := hv
  subst hq9
  have hp : hr_H D2 A s.heap (hq_O a 1 ++ (hq_T a z 0 ++ hq_R o cJ (fun _ => 0))) H locs := hp
  refine lv_istore (lv' := [(6, .int 0), (5, .int 1), (4, .int 0), (3, .ref o), (2, .ref (a 0)), (1, .ref (ad 0)), (0, .ref b)]) hx hb dL_law_393 hl (by decide) rfl (fun ls hl => ?_)
  refine lv_aload_n hx hb dL_law_395 rfl (lv_at hl 4 rfl) ?_
  refine hq_th (rest := []) (th := 1) (v1 := .ref (a 1)) (v2 := .int 0) (v3 := .int 0) C0 _ hp ⟨Nat.le_of_ble_eq_true rfl, Nat.le_of_ble_eq_true rfl⟩ ⟨Nat.le_of_ble_eq_true rfl, Nat.le_of_ble_eq_true rfl⟩ hl.1 (Nat.le_of_ble_eq_true rfl) dL_law_396 (fun H locs hp => ?_)
  refine lv_iload hx hb dL_law_399 (lv_at hl 1 rfl) ?_
  refine lv_icmp_eq (tgt := 406) hx hb dL_law_401 (by decide) (fun _ => ?_) (fun h => absurd rfl h)
  refine lv_iload hx hb dL_law_406 (lv_at hl 1 rfl) ?_
  refine lv_if_ne (tgt := 423) hx hb dL_law_408 (by decide) (fun _ => ?_) (fun h => absurd h (by decide))
  refine lv_goto (tgt := 1636) hx hb dL_law_423 (by decide) ?_
  refine W.widen (k := 1000) (n := 5000) (Nat.le_of_ble_eq_true rfl) (Nat.le_of_ble_eq_true rfl) ?_
  exact kk _ _ _ hp.2.2 (lv_sub hl [2, 6] rfl)
set_option maxHeartbeats 4000000 in
set_option maxRecDepth 100000 in
theorem hq_case_top (C0 : hq_C p s m args meth c D1 D2 K z s1 s2 b L xs cJ A) (hfl : l.stackTraces = false) (hp : hq_W D1 D2 K ad a z o cJ A s.heap H locs) (hL : L = 7) (hl : lv_has ls 9 [(4, .int 0), (3, .ref o), (2, .ref (a 0)), (1, .ref (ad 0)), (0, .ref b)])
    (kk : ∀ (H : Heap) (locs : List Loc) (ls : Array Slot), va_S A s.heap H locs → lv_has ls 9 [(4, .int 0), (0, .ref b)] → W p l e room_1 s m args below meth c H locs 1000 5000 Q (F0 m 1636 ls [])) : W p l e room_1 s m args below meth c H locs 197 2214 Q (F0 m 426 ls []) := by
  obtain ⟨hx, hb, hml, hown, hts, hK1, hJ1, hK2, hJ2, hA, hN, hV, hZ, hX, hbl, hbA⟩ := id C0
  refine lv_aload_n hx hb dL_law_426 rfl (lv_at hl 3 rfl) ?_
  refine lv_aload_n hx hb dL_law_427 rfl (lv_at hl 4 rfl) ?_
  refine lv_iload hx hb dL_law_428 (lv_at hl 0 rfl) ?_
  refine lv_iconst (v := 1) hx hb dL_law_430 (by decide) ?_
  refine lv_iadd hx hb dL_law_431 ?_
  refine hq_arg (k := 1) C0 hp.2.2.2 (by decide) (by omega) dL_law_432 ?_
  refine lv_aload_n hx hb dL_law_433 rfl (lv_at hl 4 rfl) ?_
  refine lv_iload hx hb dL_law_434 (lv_at hl 0 rfl) ?_
  refine lv_iconst (v := 2) hx hb dL_law_436 (by decide) ?_
  refine lv_iadd hx hb dL_law_437 ?_
  refine hq_arg (k := 2) C0 hp.2.2.2 (by decide) (by omega) dL_law_438 ?_
  refine lv_aload_n hx hb dL_law_439 rfl (lv_at hl 1 rfl) ?_
  refine hq_c1 C0 hp (As := [.ref (ad 0), .int (xs 1), .int (xs 2), .ref o]) (rest := []) (n := 4) (hy_top_1 l hfl D1 K ad s1 s2 o (xs 1) (xs 2)) (hq_gS rfl hq_25 hq_26 hq_27) ⟨rfl, rfl⟩ (by decide +kernel) ⟨Nat.le_of_ble_eq_true rfl, Nat.le_of_ble_eq_true rfl⟩ ⟨Nat.le_of_ble_eq_true rfl, Nat.le_of_ble_eq_true rfl⟩ hl.1 rfl rfl (Nat.le_of_ble_eq_true rfl) dL_law_440 (fun H locs hp => ?_)
  refine lv_istore (lv' := [(5, .int 1), (4, .int 0), (3, .ref o), (2, .ref (a 0)), (1, .ref (ad 0)), (0, .ref b)]) hx hb dL_law_443 hl (by decide) rfl (fun ls hl => ?_)
  refine lv_aload_n hx hb dL_law_445 rfl (lv_at hl 3 rfl) ?_
  refine lv_aload_n hx hb dL_law_446 rfl (lv_at hl 5 rfl) ?_
  refine lv_iload hx hb dL_law_447 (lv_at hl 1 rfl) ?_
  refine lv_iconst (v := 1) hx hb dL_law_449 (by decide) ?_
  refine lv_iadd hx hb dL_law_450 ?_
  refine hq_arg (k := 1) C0 hp.2.2 (by decide) (by omega) dL_law_451 ?_
  refine lv_aload_n hx hb dL_law_452 rfl (lv_at hl 5 rfl) ?_
  refine lv_iload hx hb dL_law_453 (lv_at hl 1 rfl) ?_
  refine lv_iconst (v := 2) hx hb dL_law_455 (by decide) ?_
  refine lv_iadd hx hb dL_law_456 ?_
  refine hq_arg (k := 2) C0 hp.2.2 (by decide) (by omega) dL_law_457 ?_
  refine hq_ri (q0 := 0) (As := [.int (xs 1), .int (xs 2)]) (rest := []) (n := 2) C0 hp (hq_R o cJ (fun _ => 0)) (hr_X12_top l D2 a z 0 0 (xs 1) (xs 2)) rfl rfl (hq_gV hq_28 hq_29 hq_30 hw_202) ⟨rfl, rfl⟩ (by decide +kernel) ⟨Nat.le_of_ble_eq_true rfl, Nat.le_of_ble_eq_true rfl⟩ ⟨Nat.le_of_ble_eq_true rfl, Nat.le_of_ble_eq_true rfl⟩ hl.1 rfl rfl (Nat.le_of_ble_eq_true rfl) dL_law_458 (fun q u H locs hv hp => ?_)
  have hq9 : q = 0 := hv
  subst hq9
  have hp : hr_H D2 A s.heap (hq_O a 1 ++ (hq_T a z 0 ++ hq_R o cJ (fun _ => 0))) H locs := hp
  refine lv_istore (lv' := [(6, .int 0), (5, .int 1), (4, .int 0), (3, .ref o), (2, .ref (a 0)), (1, .ref (ad 0)), (0, .ref b)]) hx hb dL_law_461 hl (by decide) rfl (fun ls hl => ?_)
  refine lv_aload_n hx hb dL_law_463 rfl (lv_at hl 4 rfl) ?_
  refine hq_th (rest := []) (th := 1) (v1 := .ref (a 1)) (v2 := .int 0) (v3 := .int 0) C0 _ hp ⟨Nat.le_of_ble_eq_true rfl, Nat.le_of_ble_eq_true rfl⟩ ⟨Nat.le_of_ble_eq_true rfl, Nat.le_of_ble_eq_true rfl⟩ hl.1 (Nat.le_of_ble_eq_true rfl) dL_law_464 (fun H locs hp => ?_)
  refine lv_iload hx hb dL_law_467 (lv_at hl 1 rfl) ?_
  refine lv_icmp_eq (tgt := 474) hx hb dL_law_469 (by decide) (fun _ => ?_) (fun h => absurd rfl h)
  refine lv_iload hx hb dL_law_474 (lv_at hl 1 rfl) ?_
  refine lv_if_ne (tgt := 491) hx hb dL_law_476 (by decide) (fun _ => ?_) (fun h => absurd h (by decide))
  refine lv_goto (tgt := 1636) hx hb dL_law_491 (by decide) ?_
  refine W.widen (k := 1000) (n := 5000) (Nat.le_of_ble_eq_true rfl) (Nat.le_of_ble_eq_true rfl) ?_
  exact kk _ _ _ hp.2.2 (lv_sub hl [2, 6] rfl)
set_option maxHeartbeats 4000000 in
set_option maxRecDepth 100000 in
theorem hq_case_turn (C0 : hq_C p s m args meth c D1 D2 K z s1 s2 b L xs cJ A) (hfl : l.stackTraces = false) (hp : hq_W D1 D2 K ad a z o cJ A s.heap H locs) (hL : L = 7) (hl : lv_has ls 9 [(4, .int 0), (3, .ref o), (2, .ref (a 0)), (1, .ref (ad 0)), (0, .ref b)])
    (kk : ∀ (H : Heap) (locs : List Loc) (ls : Array Slot), va_S A s.heap H locs → lv_has ls 9 [(4, .int 0), (0, .ref b)] → W p l e room_1 s m args below meth c H locs 1000 5000 Q (F0 m 1636 ls [])) : W p l e room_1 s m args below meth c H locs 197 2214 Q (F0 m 494 ls []) := by
  obtain ⟨hx, hb, hml, hown, hts, hK1, hJ1, hK2, hJ2, hA, hN, hV, hZ, hX, hbl, hbA⟩ := id C0
  refine lv_aload_n hx hb dL_law_494 rfl (lv_at hl 3 rfl) ?_
  refine lv_aload_n hx hb dL_law_495 rfl (lv_at hl 4 rfl) ?_
  refine lv_iload hx hb dL_law_496 (lv_at hl 0 rfl) ?_
  refine lv_iconst (v := 1) hx hb dL_law_498 (by decide) ?_
  refine lv_iadd hx hb dL_law_499 ?_
  refine hq_arg (k := 1) C0 hp.2.2.2 (by decide) (by omega) dL_law_500 ?_
  refine lv_aload_n hx hb dL_law_501 rfl (lv_at hl 4 rfl) ?_
  refine lv_iload hx hb dL_law_502 (lv_at hl 0 rfl) ?_
  refine lv_iconst (v := 2) hx hb dL_law_504 (by decide) ?_
  refine lv_iadd hx hb dL_law_505 ?_
  refine hq_arg (k := 2) C0 hp.2.2.2 (by decide) (by omega) dL_law_506 ?_
  refine hq_bool C0 dL_law_507 dL_law_510 dL_law_511 dL_law_514 (fun y507 => ?_)
  refine lv_aload_n hx hb dL_law_515 rfl (lv_at hl 1 rfl) ?_
  refine hq_c1 C0 hp (As := [.ref (ad 0), .int (xs 1), .int y507, .ref o]) (rest := []) (n := 4) (hy_turn_1 l hfl D1 K ad s1 s2 o (xs 1) y507) (hq_gS rfl hq_31 hq_32 hq_33) ⟨rfl, rfl⟩ (by decide +kernel) ⟨Nat.le_of_ble_eq_true rfl, Nat.le_of_ble_eq_true rfl⟩ ⟨Nat.le_of_ble_eq_true rfl, Nat.le_of_ble_eq_true rfl⟩ hl.1 rfl rfl (Nat.le_of_ble_eq_true rfl) dL_law_516 (fun H locs hp => ?_)
  refine lv_istore (lv' := [(5, .int 1), (4, .int 0), (3, .ref o), (2, .ref (a 0)), (1, .ref (ad 0)), (0, .ref b)]) hx hb dL_law_519 hl (by decide) rfl (fun ls hl => ?_)
  refine lv_aload_n hx hb dL_law_521 rfl (lv_at hl 3 rfl) ?_
  refine lv_aload_n hx hb dL_law_522 rfl (lv_at hl 5 rfl) ?_
  refine lv_iload hx hb dL_law_523 (lv_at hl 1 rfl) ?_
  refine lv_iconst (v := 1) hx hb dL_law_525 (by decide) ?_
  refine lv_iadd hx hb dL_law_526 ?_
  refine hq_arg (k := 1) C0 hp.2.2 (by decide) (by omega) dL_law_527 ?_
  refine lv_aload_n hx hb dL_law_528 rfl (lv_at hl 5 rfl) ?_
  refine lv_iload hx hb dL_law_529 (lv_at hl 1 rfl) ?_
  refine lv_iconst (v := 2) hx hb dL_law_531 (by decide) ?_
  refine lv_iadd hx hb dL_law_532 ?_
  refine hq_arg (k := 2) C0 hp.2.2 (by decide) (by omega) dL_law_533 ?_
  refine hq_bool C0 dL_law_534 dL_law_537 dL_law_538 dL_law_541 (fun y534 => ?_)
  refine hq_ri (q0 := 0) (As := [.int (xs 1), .int y534]) (rest := []) (n := 2) C0 hp (hq_R o cJ (fun _ => 0)) (hr_X12_turn l D2 a z 0 0 (xs 1) y534) rfl rfl (hq_gV hq_34 hq_35 hq_36 hw_204) ⟨rfl, rfl⟩ (by decide +kernel) ⟨Nat.le_of_ble_eq_true rfl, Nat.le_of_ble_eq_true rfl⟩ ⟨Nat.le_of_ble_eq_true rfl, Nat.le_of_ble_eq_true rfl⟩ hl.1 rfl rfl (Nat.le_of_ble_eq_true rfl) dL_law_542 (fun q u H locs hv hp => ?_)
  have hq9 : q = 0 := hv
  subst hq9
  have hp : hr_H D2 A s.heap (hq_O a 1 ++ (hq_T a z 0 ++ hq_R o cJ (fun _ => 0))) H locs := hp
  refine lv_istore (lv' := [(6, .int 0), (5, .int 1), (4, .int 0), (3, .ref o), (2, .ref (a 0)), (1, .ref (ad 0)), (0, .ref b)]) hx hb dL_law_545 hl (by decide) rfl (fun ls hl => ?_)
  refine lv_aload_n hx hb dL_law_547 rfl (lv_at hl 4 rfl) ?_
  refine hq_th (rest := []) (th := 1) (v1 := .ref (a 1)) (v2 := .int 0) (v3 := .int 0) C0 _ hp ⟨Nat.le_of_ble_eq_true rfl, Nat.le_of_ble_eq_true rfl⟩ ⟨Nat.le_of_ble_eq_true rfl, Nat.le_of_ble_eq_true rfl⟩ hl.1 (Nat.le_of_ble_eq_true rfl) dL_law_548 (fun H locs hp => ?_)
  refine lv_iload hx hb dL_law_551 (lv_at hl 1 rfl) ?_
  refine lv_icmp_eq (tgt := 558) hx hb dL_law_553 (by decide) (fun _ => ?_) (fun h => absurd rfl h)
  refine lv_iload hx hb dL_law_558 (lv_at hl 1 rfl) ?_
  refine lv_if_ne (tgt := 582) hx hb dL_law_560 (by decide) (fun _ => ?_) (fun h => absurd h (by decide))
  refine lv_goto (tgt := 1636) hx hb dL_law_582 (by decide) ?_
  refine W.widen (k := 1000) (n := 5000) (Nat.le_of_ble_eq_true rfl) (Nat.le_of_ble_eq_true rfl) ?_
  exact kk _ _ _ hp.2.2 (lv_sub hl [2, 6] rfl)
set_option maxHeartbeats 4000000 in
set_option maxRecDepth 100000 in
theorem hq_case_wake (C0 : hq_C p s m args meth c D1 D2 K z s1 s2 b L xs cJ A) (hfl : l.stackTraces = false) (hp : hq_W D1 D2 K ad a z o cJ A s.heap H locs) (hL : L = 7) (hl : lv_has ls 9 [(4, .int 0), (3, .ref o), (2, .ref (a 0)), (1, .ref (ad 0)), (0, .ref b)])
    (kk : ∀ (H : Heap) (locs : List Loc) (ls : Array Slot), va_S A s.heap H locs → lv_has ls 9 [(4, .int 0), (0, .ref b)] → W p l e room_1 s m args below meth c H locs 1000 5000 Q (F0 m 1636 ls [])) : W p l e room_1 s m args below meth c H locs 197 2214 Q (F0 m 585 ls []) := by
  obtain ⟨hx, hb, hml, hown, hts, hK1, hJ1, hK2, hJ2, hA, hN, hV, hZ, hX, hbl, hbA⟩ := id C0
  refine lv_aload_n hx hb dL_law_585 rfl (lv_at hl 3 rfl) ?_
  refine lv_aload_n hx hb dL_law_586 rfl (lv_at hl 4 rfl) ?_
  refine lv_iload hx hb dL_law_587 (lv_at hl 0 rfl) ?_
  refine lv_iconst (v := 1) hx hb dL_law_589 (by decide) ?_
  refine lv_iadd hx hb dL_law_590 ?_
  refine hq_arg (k := 1) C0 hp.2.2.2 (by decide) (by omega) dL_law_591 ?_
  refine lv_aload_n hx hb dL_law_592 rfl (lv_at hl 4 rfl) ?_
  refine lv_iload hx hb dL_law_593 (lv_at hl 0 rfl) ?_
  refine lv_iconst (v := 2) hx hb dL_law_595 (by decide) ?_
  refine lv_iadd hx hb dL_law_596 ?_
  refine hq_arg (k := 2) C0 hp.2.2.2 (by decide) (by omega) dL_law_597 ?_
  refine hq_bool C0 dL_law_598 dL_law_601 dL_law_602 dL_law_605 (fun y598 => ?_)
  refine lv_aload_n hx hb dL_law_606 rfl (lv_at hl 1 rfl) ?_
  refine hq_c1 C0 hp (As := [.ref (ad 0), .int (xs 1), .int y598, .ref o]) (rest := []) (n := 4) (hy_wake_1 l hfl D1 K ad s1 s2 o (xs 1) y598) (hq_gS rfl hq_37 hq_38 hq_39) ⟨rfl, rfl⟩ (by decide +kernel) ⟨Nat.le_of_ble_eq_true rfl, Nat.le_of_ble_eq_true rfl⟩ ⟨Nat.le_of_ble_eq_true rfl, Nat.le_of_ble_eq_true rfl⟩ hl.1 rfl rfl (Nat.le_of_ble_eq_true rfl) dL_law_607 (fun H locs hp => ?_)
  refine lv_istore (lv' := [(5, .int 1), (4, .int 0), (3, .ref o), (2, .ref (a 0)), (1, .ref (ad 0)), (0, .ref b)]) hx hb dL_law_610 hl (by decide) rfl (fun ls hl => ?_)
  refine lv_aload_n hx hb dL_law_612 rfl (lv_at hl 3 rfl) ?_
  refine lv_aload_n hx hb dL_law_613 rfl (lv_at hl 5 rfl) ?_
  refine lv_iload hx hb dL_law_614 (lv_at hl 1 rfl) ?_
  refine lv_iconst (v := 1) hx hb dL_law_616 (by decide) ?_
  refine lv_iadd hx hb dL_law_617 ?_
  refine hq_arg (k := 1) C0 hp.2.2 (by decide) (by omega) dL_law_618 ?_
  refine lv_aload_n hx hb dL_law_619 rfl (lv_at hl 5 rfl) ?_
  refine lv_iload hx hb dL_law_620 (lv_at hl 1 rfl) ?_
  refine lv_iconst (v := 2) hx hb dL_law_622 (by decide) ?_
  refine lv_iadd hx hb dL_law_623 ?_
  refine hq_arg (k := 2) C0 hp.2.2 (by decide) (by omega) dL_law_624 ?_
  refine hq_bool C0 dL_law_625 dL_law_628 dL_law_629 dL_law_632 (fun y625 => ?_)
  refine hq_ri (q0 := 0) (As := [.int (xs 1), .int y625]) (rest := []) (n := 2) C0 hp (hq_R o cJ (fun _ => 0)) (hr_X12_wake l D2 a z 0 0 (xs 1) y625) rfl rfl (hq_gV hq_40 hq_41 hq_42 hw_209) ⟨rfl, rfl⟩ (by decide +kernel) ⟨Nat.le_of_ble_eq_true rfl, Nat.le_of_ble_eq_true rfl⟩ ⟨Nat.le_of_ble_eq_true rfl, Nat.le_of_ble_eq_true rfl⟩ hl.1 rfl rfl (Nat.le_of_ble_eq_true rfl) dL_law_633 (fun q u H locs hv hp => ?_)
  have hq9 : q = 0 := hv
  subst hq9
  have hp : hr_H D2 A s.heap (hq_O a 1 ++ (hq_T a z 0 ++ hq_R o cJ (fun _ => 0))) H locs := hp
  refine lv_istore (lv' := [(6, .int 0), (5, .int 1), (4, .int 0), (3, .ref o), (2, .ref (a 0)), (1, .ref (ad 0)), (0, .ref b)]) hx hb dL_law_636 hl (by decide) rfl (fun ls hl => ?_)
  refine lv_aload_n hx hb dL_law_638 rfl (lv_at hl 4 rfl) ?_
  refine hq_th (rest := []) (th := 1) (v1 := .ref (a 1)) (v2 := .int 0) (v3 := .int 0) C0 _ hp ⟨Nat.le_of_ble_eq_true rfl, Nat.le_of_ble_eq_true rfl⟩ ⟨Nat.le_of_ble_eq_true rfl, Nat.le_of_ble_eq_true rfl⟩ hl.1 (Nat.le_of_ble_eq_true rfl) dL_law_639 (fun H locs hp => ?_)
  refine lv_iload hx hb dL_law_642 (lv_at hl 1 rfl) ?_
  refine lv_icmp_eq (tgt := 649) hx hb dL_law_644 (by decide) (fun _ => ?_) (fun h => absurd rfl h)
  refine lv_iload hx hb dL_law_649 (lv_at hl 1 rfl) ?_
  refine lv_if_ne (tgt := 673) hx hb dL_law_651 (by decide) (fun _ => ?_) (fun h => absurd h (by decide))
  refine lv_goto (tgt := 1636) hx hb dL_law_673 (by decide) ?_
  refine W.widen (k := 1000) (n := 5000) (Nat.le_of_ble_eq_true rfl) (Nat.le_of_ble_eq_true rfl) ?_
  exact kk _ _ _ hp.2.2 (lv_sub hl [2, 6] rfl)
set_option maxHeartbeats 4000000 in
set_option maxRecDepth 100000 in
theorem hq_case_call (C0 : hq_C p s m args meth c D1 D2 K z s1 s2 b L xs cJ A) (hfl : l.stackTraces = false) (hp : hq_W D1 D2 K ad a z o cJ A s.heap H locs) (hL : L = 7) (hl : lv_has ls 9 [(4, .int 0), (3, .ref o), (2, .ref (a 0)), (1, .ref (ad 0)), (0, .ref b)])
    (kk : ∀ (H : Heap) (locs : List Loc) (ls : Array Slot), va_S A s.heap H locs → lv_has ls 9 [(4, .int 0), (0, .ref b)] → W p l e room_1 s m args below meth c H locs 1000 5000 Q (F0 m 1636 ls [])) : W p l e room_1 s m args below meth c H locs 197 2214 Q (F0 m 676 ls []) := by
  obtain ⟨hx, hb, hml, hown, hts, hK1, hJ1, hK2, hJ2, hA, hN, hV, hZ, hX, hbl, hbA⟩ := id C0
  refine lv_aload_n hx hb dL_law_676 rfl (lv_at hl 3 rfl) ?_
  refine lv_aload_n hx hb dL_law_677 rfl (lv_at hl 4 rfl) ?_
  refine lv_iload hx hb dL_law_678 (lv_at hl 0 rfl) ?_
  refine lv_iconst (v := 1) hx hb dL_law_680 (by decide) ?_
  refine lv_iadd hx hb dL_law_681 ?_
  refine hq_arg (k := 1) C0 hp.2.2.2 (by decide) (by omega) dL_law_682 ?_
  refine lv_aload_n hx hb dL_law_683 rfl (lv_at hl 4 rfl) ?_
  refine lv_iload hx hb dL_law_684 (lv_at hl 0 rfl) ?_
  refine lv_iconst (v := 2) hx hb dL_law_686 (by decide) ?_
  refine lv_iadd hx hb dL_law_687 ?_
  refine hq_arg (k := 2) C0 hp.2.2.2 (by decide) (by omega) dL_law_688 ?_
  refine lv_aload_n hx hb dL_law_689 rfl (lv_at hl 1 rfl) ?_
  refine hq_c1 C0 hp (As := [.ref (ad 0), .int (xs 1), .int (xs 2), .ref o]) (rest := []) (n := 4) (hy_call_1 l hfl D1 K ad s1 s2 o (xs 1) (xs 2)) (hq_gS rfl hq_43 hq_44 hq_45) ⟨rfl, rfl⟩ (by decide +kernel) ⟨Nat.le_of_ble_eq_true rfl, Nat.le_of_ble_eq_true rfl⟩ ⟨Nat.le_of_ble_eq_true rfl, Nat.le_of_ble_eq_true rfl⟩ hl.1 rfl rfl (Nat.le_of_ble_eq_true rfl) dL_law_690 (fun H locs hp => ?_)
  refine lv_istore (lv' := [(5, .int 1), (4, .int 0), (3, .ref o), (2, .ref (a 0)), (1, .ref (ad 0)), (0, .ref b)]) hx hb dL_law_693 hl (by decide) rfl (fun ls hl => ?_)
  refine lv_aload_n hx hb dL_law_695 rfl (lv_at hl 3 rfl) ?_
  refine lv_aload_n hx hb dL_law_696 rfl (lv_at hl 5 rfl) ?_
  refine lv_iload hx hb dL_law_697 (lv_at hl 1 rfl) ?_
  refine lv_iconst (v := 1) hx hb dL_law_699 (by decide) ?_
  refine lv_iadd hx hb dL_law_700 ?_
  refine hq_arg (k := 1) C0 hp.2.2 (by decide) (by omega) dL_law_701 ?_
  refine lv_aload_n hx hb dL_law_702 rfl (lv_at hl 5 rfl) ?_
  refine lv_iload hx hb dL_law_703 (lv_at hl 1 rfl) ?_
  refine lv_iconst (v := 2) hx hb dL_law_705 (by decide) ?_
  refine lv_iadd hx hb dL_law_706 ?_
  refine hq_arg (k := 2) C0 hp.2.2 (by decide) (by omega) dL_law_707 ?_
  refine hq_ri (q0 := 0) (As := [.int (xs 1), .int (xs 2)]) (rest := []) (n := 2) C0 hp (hq_R o cJ (fun _ => 0)) (hr_X12_call l D2 a z 0 0 (xs 1) (xs 2)) rfl rfl (hq_gV hq_46 hq_47 hq_48 hw_219) ⟨rfl, rfl⟩ (by decide +kernel) ⟨Nat.le_of_ble_eq_true rfl, Nat.le_of_ble_eq_true rfl⟩ ⟨Nat.le_of_ble_eq_true rfl, Nat.le_of_ble_eq_true rfl⟩ hl.1 rfl rfl (Nat.le_of_ble_eq_true rfl) dL_law_708 (fun q u H locs hv hp => ?_)
  have hq9 : q = 0 := hv
  subst hq9
  have hp : hr_H D2 A s.heap (hq_O a 1 ++ (hq_T a z 0 ++ hq_R o cJ (fun _ => 0))) H locs := hp
  refine lv_istore (lv' := [(6, .int 0), (5, .int 1), (4, .int 0), (3, .ref o), (2, .ref (a 0)), (1, .ref (ad 0)), (0, .ref b)]) hx hb dL_law_711 hl (by decide) rfl (fun ls hl => ?_)
  refine lv_aload_n hx hb dL_law_713 rfl (lv_at hl 4 rfl) ?_
  refine hq_th (rest := []) (th := 1) (v1 := .ref (a 1)) (v2 := .int 0) (v3 := .int 0) C0 _ hp ⟨Nat.le_of_ble_eq_true rfl, Nat.le_of_ble_eq_true rfl⟩ ⟨Nat.le_of_ble_eq_true rfl, Nat.le_of_ble_eq_true rfl⟩ hl.1 (Nat.le_of_ble_eq_true rfl) dL_law_714 (fun H locs hp => ?_)
  refine lv_iload hx hb dL_law_717 (lv_at hl 1 rfl) ?_
  refine lv_icmp_eq (tgt := 724) hx hb dL_law_719 (by decide) (fun _ => ?_) (fun h => absurd rfl h)
  refine lv_iload hx hb dL_law_724 (lv_at hl 1 rfl) ?_
  refine lv_if_ne (tgt := 741) hx hb dL_law_726 (by decide) (fun _ => ?_) (fun h => absurd h (by decide))
  refine lv_goto (tgt := 1636) hx hb dL_law_741 (by decide) ?_
  refine W.widen (k := 1000) (n := 5000) (Nat.le_of_ble_eq_true rfl) (Nat.le_of_ble_eq_true rfl) ?_
  exact kk _ _ _ hp.2.2 (lv_sub hl [2, 6] rfl)
set_option maxHeartbeats 4000000 in
set_option maxRecDepth 100000 in
theorem hq_case_emergency (C0 : hq_C p s m args meth c D1 D2 K z s1 s2 b L xs cJ A) (hfl : l.stackTraces = false) (hp : hq_W D1 D2 K ad a z o cJ A s.heap H locs) (hL : L = 7) (hl : lv_has ls 9 [(4, .int 0), (3, .ref o), (2, .ref (a 0)), (1, .ref (ad 0)), (0, .ref b)])
    (kk : ∀ (H : Heap) (locs : List Loc) (ls : Array Slot), va_S A s.heap H locs → lv_has ls 9 [(4, .int 0), (0, .ref b)] → W p l e room_1 s m args below meth c H locs 1000 5000 Q (F0 m 1636 ls [])) : W p l e room_1 s m args below meth c H locs 197 2214 Q (F0 m 744 ls []) := by
  obtain ⟨hx, hb, hml, hown, hts, hK1, hJ1, hK2, hJ2, hA, hN, hV, hZ, hX, hbl, hbA⟩ := id C0
  refine lv_aload_n hx hb dL_law_744 rfl (lv_at hl 3 rfl) ?_
  refine lv_aload_n hx hb dL_law_745 rfl (lv_at hl 4 rfl) ?_
  refine lv_iload hx hb dL_law_746 (lv_at hl 0 rfl) ?_
  refine lv_iconst (v := 1) hx hb dL_law_748 (by decide) ?_
  refine lv_iadd hx hb dL_law_749 ?_
  refine hq_arg (k := 1) C0 hp.2.2.2 (by decide) (by omega) dL_law_750 ?_
  refine lv_aload_n hx hb dL_law_751 rfl (lv_at hl 1 rfl) ?_
  refine hq_c1 C0 hp (As := [.ref (ad 0), .int (xs 1), .ref o]) (rest := []) (n := 3) (hy_emergency_1 l hfl D1 K ad s1 s2 o (xs 1)) (hq_gS rfl hq_49 hq_50 hq_51) ⟨rfl, rfl⟩ (by decide +kernel) ⟨Nat.le_of_ble_eq_true rfl, Nat.le_of_ble_eq_true rfl⟩ ⟨Nat.le_of_ble_eq_true rfl, Nat.le_of_ble_eq_true rfl⟩ hl.1 rfl rfl (Nat.le_of_ble_eq_true rfl) dL_law_752 (fun H locs hp => ?_)
  refine lv_istore (lv' := [(5, .int 1), (4, .int 0), (3, .ref o), (2, .ref (a 0)), (1, .ref (ad 0)), (0, .ref b)]) hx hb dL_law_755 hl (by decide) rfl (fun ls hl => ?_)
  refine lv_aload_n hx hb dL_law_757 rfl (lv_at hl 3 rfl) ?_
  refine lv_aload_n hx hb dL_law_758 rfl (lv_at hl 5 rfl) ?_
  refine lv_iload hx hb dL_law_759 (lv_at hl 1 rfl) ?_
  refine lv_iconst (v := 1) hx hb dL_law_761 (by decide) ?_
  refine lv_iadd hx hb dL_law_762 ?_
  refine hq_arg (k := 1) C0 hp.2.2 (by decide) (by omega) dL_law_763 ?_
  refine hq_ri (q0 := 0) (As := [.int (xs 1)]) (rest := []) (n := 1) C0 hp (hq_R o cJ (fun _ => 0)) (hr_X12_emergency l D2 a z 0 0 (xs 1)) rfl rfl (hq_gV hq_52 hq_53 hq_54 hw_230) ⟨rfl, rfl⟩ (by decide +kernel) ⟨Nat.le_of_ble_eq_true rfl, Nat.le_of_ble_eq_true rfl⟩ ⟨Nat.le_of_ble_eq_true rfl, Nat.le_of_ble_eq_true rfl⟩ hl.1 rfl rfl (Nat.le_of_ble_eq_true rfl) dL_law_764 (fun q u H locs hv hp => ?_)
  have hq9 : q = 0 := hv
  subst hq9
  have hp : hr_H D2 A s.heap (hq_O a 1 ++ (hq_T a z 0 ++ hq_R o cJ (fun _ => 0))) H locs := hp
  refine lv_istore (lv' := [(6, .int 0), (5, .int 1), (4, .int 0), (3, .ref o), (2, .ref (a 0)), (1, .ref (ad 0)), (0, .ref b)]) hx hb dL_law_767 hl (by decide) rfl (fun ls hl => ?_)
  refine lv_aload_n hx hb dL_law_769 rfl (lv_at hl 4 rfl) ?_
  refine hq_th (rest := []) (th := 1) (v1 := .ref (a 1)) (v2 := .int 0) (v3 := .int 0) C0 _ hp ⟨Nat.le_of_ble_eq_true rfl, Nat.le_of_ble_eq_true rfl⟩ ⟨Nat.le_of_ble_eq_true rfl, Nat.le_of_ble_eq_true rfl⟩ hl.1 (Nat.le_of_ble_eq_true rfl) dL_law_770 (fun H locs hp => ?_)
  refine lv_iload hx hb dL_law_773 (lv_at hl 1 rfl) ?_
  refine lv_icmp_eq (tgt := 780) hx hb dL_law_775 (by decide) (fun _ => ?_) (fun h => absurd rfl h)
  refine lv_iload hx hb dL_law_780 (lv_at hl 1 rfl) ?_
  refine lv_if_ne (tgt := 797) hx hb dL_law_782 (by decide) (fun _ => ?_) (fun h => absurd h (by decide))
  refine lv_goto (tgt := 1636) hx hb dL_law_797 (by decide) ?_
  refine W.widen (k := 1000) (n := 5000) (Nat.le_of_ble_eq_true rfl) (Nat.le_of_ble_eq_true rfl) ?_
  exact kk _ _ _ hp.2.2 (lv_sub hl [2, 6] rfl)
set_option maxHeartbeats 4000000 in
set_option maxRecDepth 100000 in
theorem hq_case_hang (C0 : hq_C p s m args meth c D1 D2 K z s1 s2 b L xs cJ A) (hfl : l.stackTraces = false) (hp : hq_W D1 D2 K ad a z o cJ A s.heap H locs) (hL : L = 7) (hl : lv_has ls 9 [(4, .int 0), (3, .ref o), (2, .ref (a 0)), (1, .ref (ad 0)), (0, .ref b)])
    (kk : ∀ (H : Heap) (locs : List Loc) (ls : Array Slot), va_S A s.heap H locs → lv_has ls 9 [(4, .int 0), (0, .ref b)] → W p l e room_1 s m args below meth c H locs 1000 5000 Q (F0 m 1636 ls [])) : W p l e room_1 s m args below meth c H locs 197 2214 Q (F0 m 800 ls []) := by
  obtain ⟨hx, hb, hml, hown, hts, hK1, hJ1, hK2, hJ2, hA, hN, hV, hZ, hX, hbl, hbA⟩ := id C0
  refine lv_aload_n hx hb dL_law_800 rfl (lv_at hl 3 rfl) ?_
  refine lv_aload_n hx hb dL_law_801 rfl (lv_at hl 4 rfl) ?_
  refine lv_iload hx hb dL_law_802 (lv_at hl 0 rfl) ?_
  refine lv_iconst (v := 1) hx hb dL_law_804 (by decide) ?_
  refine lv_iadd hx hb dL_law_805 ?_
  refine hq_arg (k := 1) C0 hp.2.2.2 (by decide) (by omega) dL_law_806 ?_
  refine lv_aload_n hx hb dL_law_807 rfl (lv_at hl 1 rfl) ?_
  refine hq_c1 C0 hp (As := [.ref (ad 0), .int (xs 1), .ref o]) (rest := []) (n := 3) (hy_hang_1 l hfl D1 K ad s1 s2 o (xs 1)) (hq_gS rfl hq_55 hq_56 hq_57) ⟨rfl, rfl⟩ (by decide +kernel) ⟨Nat.le_of_ble_eq_true rfl, Nat.le_of_ble_eq_true rfl⟩ ⟨Nat.le_of_ble_eq_true rfl, Nat.le_of_ble_eq_true rfl⟩ hl.1 rfl rfl (Nat.le_of_ble_eq_true rfl) dL_law_808 (fun H locs hp => ?_)
  refine lv_istore (lv' := [(5, .int 1), (4, .int 0), (3, .ref o), (2, .ref (a 0)), (1, .ref (ad 0)), (0, .ref b)]) hx hb dL_law_811 hl (by decide) rfl (fun ls hl => ?_)
  refine lv_aload_n hx hb dL_law_813 rfl (lv_at hl 3 rfl) ?_
  refine lv_aload_n hx hb dL_law_814 rfl (lv_at hl 5 rfl) ?_
  refine lv_iload hx hb dL_law_815 (lv_at hl 1 rfl) ?_
  refine lv_iconst (v := 1) hx hb dL_law_817 (by decide) ?_
  refine lv_iadd hx hb dL_law_818 ?_
  refine hq_arg (k := 1) C0 hp.2.2 (by decide) (by omega) dL_law_819 ?_
  refine hq_ri (q0 := 0) (As := [.int (xs 1)]) (rest := []) (n := 1) C0 hp (hq_R o cJ (fun _ => 0)) (hr_X12_hang l D2 a z 0 0 (xs 1)) rfl rfl (hq_gV hq_58 hq_59 hq_60 hw_232) ⟨rfl, rfl⟩ (by decide +kernel) ⟨Nat.le_of_ble_eq_true rfl, Nat.le_of_ble_eq_true rfl⟩ ⟨Nat.le_of_ble_eq_true rfl, Nat.le_of_ble_eq_true rfl⟩ hl.1 rfl rfl (Nat.le_of_ble_eq_true rfl) dL_law_820 (fun q u H locs hv hp => ?_)
  have hq9 : q = 0 := hv
  subst hq9
  have hp : hr_H D2 A s.heap (hq_O a 1 ++ (hq_T a z 0 ++ hq_R o cJ (fun _ => 0))) H locs := hp
  refine lv_istore (lv' := [(6, .int 0), (5, .int 1), (4, .int 0), (3, .ref o), (2, .ref (a 0)), (1, .ref (ad 0)), (0, .ref b)]) hx hb dL_law_823 hl (by decide) rfl (fun ls hl => ?_)
  refine lv_aload_n hx hb dL_law_825 rfl (lv_at hl 4 rfl) ?_
  refine hq_th (rest := []) (th := 1) (v1 := .ref (a 1)) (v2 := .int 0) (v3 := .int 0) C0 _ hp ⟨Nat.le_of_ble_eq_true rfl, Nat.le_of_ble_eq_true rfl⟩ ⟨Nat.le_of_ble_eq_true rfl, Nat.le_of_ble_eq_true rfl⟩ hl.1 (Nat.le_of_ble_eq_true rfl) dL_law_826 (fun H locs hp => ?_)
  refine lv_iload hx hb dL_law_829 (lv_at hl 1 rfl) ?_
  refine lv_icmp_eq (tgt := 836) hx hb dL_law_831 (by decide) (fun _ => ?_) (fun h => absurd rfl h)
  refine lv_iload hx hb dL_law_836 (lv_at hl 1 rfl) ?_
  refine lv_if_ne (tgt := 853) hx hb dL_law_838 (by decide) (fun _ => ?_) (fun h => absurd h (by decide))
  refine lv_goto (tgt := 1636) hx hb dL_law_853 (by decide) ?_
  refine W.widen (k := 1000) (n := 5000) (Nat.le_of_ble_eq_true rfl) (Nat.le_of_ble_eq_true rfl) ?_
  exact kk _ _ _ hp.2.2 (lv_sub hl [2, 6] rfl)
set_option maxHeartbeats 4000000 in
set_option maxRecDepth 100000 in
theorem hq_case_text (C0 : hq_C p s m args meth c D1 D2 K z s1 s2 b L xs cJ A) (hfl : l.stackTraces = false) (hp : hq_W D1 D2 K ad a z o cJ A s.heap H locs) (hL : L = 7) (hl : lv_has ls 9 [(4, .int 0), (3, .ref o), (2, .ref (a 0)), (1, .ref (ad 0)), (0, .ref b)])
    (kk : ∀ (H : Heap) (locs : List Loc) (ls : Array Slot), va_S A s.heap H locs → lv_has ls 9 [(4, .int 0), (0, .ref b)] → W p l e room_1 s m args below meth c H locs 1000 5000 Q (F0 m 1636 ls [])) : W p l e room_1 s m args below meth c H locs 197 2214 Q (F0 m 856 ls []) := by
  obtain ⟨hx, hb, hml, hown, hts, hK1, hJ1, hK2, hJ2, hA, hN, hV, hZ, hX, hbl, hbA⟩ := id C0
  refine lv_aload_n hx hb dL_law_856 rfl (lv_at hl 3 rfl) ?_
  refine lv_aload_n hx hb dL_law_857 rfl (lv_at hl 4 rfl) ?_
  refine lv_iload hx hb dL_law_858 (lv_at hl 0 rfl) ?_
  refine lv_iconst (v := 1) hx hb dL_law_860 (by decide) ?_
  refine lv_iadd hx hb dL_law_861 ?_
  refine hq_arg (k := 1) C0 hp.2.2.2 (by decide) (by omega) dL_law_862 ?_
  refine lv_aload_n hx hb dL_law_863 rfl (lv_at hl 4 rfl) ?_
  refine lv_iload hx hb dL_law_864 (lv_at hl 0 rfl) ?_
  refine lv_iconst (v := 2) hx hb dL_law_866 (by decide) ?_
  refine lv_iadd hx hb dL_law_867 ?_
  refine hq_arg (k := 2) C0 hp.2.2.2 (by decide) (by omega) dL_law_868 ?_
  refine lv_aload_n hx hb dL_law_869 rfl (lv_at hl 1 rfl) ?_
  refine hq_c1 C0 hp (As := [.ref (ad 0), .int (xs 1), .int (xs 2), .ref o]) (rest := []) (n := 4) (hy_text_1 l hfl D1 K ad s1 s2 o (xs 1) (xs 2)) (hq_gS rfl hq_61 hq_62 hq_63) ⟨rfl, rfl⟩ (by decide +kernel) ⟨Nat.le_of_ble_eq_true rfl, Nat.le_of_ble_eq_true rfl⟩ ⟨Nat.le_of_ble_eq_true rfl, Nat.le_of_ble_eq_true rfl⟩ hl.1 rfl rfl (Nat.le_of_ble_eq_true rfl) dL_law_870 (fun H locs hp => ?_)
  refine lv_istore (lv' := [(5, .int 1), (4, .int 0), (3, .ref o), (2, .ref (a 0)), (1, .ref (ad 0)), (0, .ref b)]) hx hb dL_law_873 hl (by decide) rfl (fun ls hl => ?_)
  refine lv_aload_n hx hb dL_law_875 rfl (lv_at hl 3 rfl) ?_
  refine lv_aload_n hx hb dL_law_876 rfl (lv_at hl 5 rfl) ?_
  refine lv_iload hx hb dL_law_877 (lv_at hl 1 rfl) ?_
  refine lv_iconst (v := 1) hx hb dL_law_879 (by decide) ?_
  refine lv_iadd hx hb dL_law_880 ?_
  refine hq_arg (k := 1) C0 hp.2.2 (by decide) (by omega) dL_law_881 ?_
  refine lv_aload_n hx hb dL_law_882 rfl (lv_at hl 5 rfl) ?_
  refine lv_iload hx hb dL_law_883 (lv_at hl 1 rfl) ?_
  refine lv_iconst (v := 2) hx hb dL_law_885 (by decide) ?_
  refine lv_iadd hx hb dL_law_886 ?_
  refine hq_arg (k := 2) C0 hp.2.2 (by decide) (by omega) dL_law_887 ?_
  refine hq_ri (q0 := 0) (As := [.int (xs 1), .int (xs 2)]) (rest := []) (n := 2) C0 hp (hq_R o cJ (fun _ => 0)) (hr_X12_text l D2 a z 0 0 (xs 1) (xs 2)) rfl rfl (hq_gV hq_64 hq_65 hq_66 hw_237) ⟨rfl, rfl⟩ (by decide +kernel) ⟨Nat.le_of_ble_eq_true rfl, Nat.le_of_ble_eq_true rfl⟩ ⟨Nat.le_of_ble_eq_true rfl, Nat.le_of_ble_eq_true rfl⟩ hl.1 rfl rfl (Nat.le_of_ble_eq_true rfl) dL_law_888 (fun q u H locs hv hp => ?_)
  have hq9 : q = 0 := hv
  subst hq9
  have hp : hr_H D2 A s.heap (hq_O a 1 ++ (hq_T a z 0 ++ hq_R o cJ (fun _ => 0))) H locs := hp
  refine lv_istore (lv' := [(6, .int 0), (5, .int 1), (4, .int 0), (3, .ref o), (2, .ref (a 0)), (1, .ref (ad 0)), (0, .ref b)]) hx hb dL_law_891 hl (by decide) rfl (fun ls hl => ?_)
  refine lv_aload_n hx hb dL_law_893 rfl (lv_at hl 4 rfl) ?_
  refine hq_th (rest := []) (th := 1) (v1 := .ref (a 1)) (v2 := .int 0) (v3 := .int 0) C0 _ hp ⟨Nat.le_of_ble_eq_true rfl, Nat.le_of_ble_eq_true rfl⟩ ⟨Nat.le_of_ble_eq_true rfl, Nat.le_of_ble_eq_true rfl⟩ hl.1 (Nat.le_of_ble_eq_true rfl) dL_law_894 (fun H locs hp => ?_)
  refine lv_iload hx hb dL_law_897 (lv_at hl 1 rfl) ?_
  refine lv_icmp_eq (tgt := 904) hx hb dL_law_899 (by decide) (fun _ => ?_) (fun h => absurd rfl h)
  refine lv_iload hx hb dL_law_904 (lv_at hl 1 rfl) ?_
  refine lv_if_ne (tgt := 921) hx hb dL_law_906 (by decide) (fun _ => ?_) (fun h => absurd h (by decide))
  refine lv_goto (tgt := 1636) hx hb dL_law_921 (by decide) ?_
  refine W.widen (k := 1000) (n := 5000) (Nat.le_of_ble_eq_true rfl) (Nat.le_of_ble_eq_true rfl) ?_
  exact kk _ _ _ hp.2.2 (lv_sub hl [2, 6] rfl)
set_option maxHeartbeats 4000000 in
set_option maxRecDepth 100000 in
theorem hq_case_forget (C0 : hq_C p s m args meth c D1 D2 K z s1 s2 b L xs cJ A) (hfl : l.stackTraces = false) (hp : hq_W D1 D2 K ad a z o cJ A s.heap H locs) (hL : L = 7) (hl : lv_has ls 9 [(4, .int 0), (3, .ref o), (2, .ref (a 0)), (1, .ref (ad 0)), (0, .ref b)])
    (kk : ∀ (H : Heap) (locs : List Loc) (ls : Array Slot), va_S A s.heap H locs → lv_has ls 9 [(4, .int 0), (0, .ref b)] → W p l e room_1 s m args below meth c H locs 1000 5000 Q (F0 m 1636 ls [])) : W p l e room_1 s m args below meth c H locs 197 2214 Q (F0 m 924 ls []) := by
  obtain ⟨hx, hb, hml, hown, hts, hK1, hJ1, hK2, hJ2, hA, hN, hV, hZ, hX, hbl, hbA⟩ := id C0
  refine lv_aload_n hx hb dL_law_924 rfl (lv_at hl 3 rfl) ?_
  refine hq_xi C0 hp (As := []) (rest := []) (n := 0) (he_X7_forget l D1 K ad) (hq_gW hq_67 hq_68 hq_69 hm_386) ⟨rfl, rfl⟩ (by decide +kernel) ⟨Nat.le_of_ble_eq_true rfl, Nat.le_of_ble_eq_true rfl⟩ ⟨Nat.le_of_ble_eq_true rfl, Nat.le_of_ble_eq_true rfl⟩ hl.1 rfl rfl (Nat.le_of_ble_eq_true rfl) dL_law_925 (fun q v1 H locs hv hp => ?_)
  have hq9 : q = 0 := hv.1
  subst hq9
  refine lv_aload_n hx hb dL_law_928 rfl (lv_at hl 2 rfl) ?_
  refine hq_ri (q0 := 0) (As := []) (rest := [.int 0]) (n := 0) C0 hp (hq_R o cJ (fun _ => 0)) (hr_X12_forget l D2 a z 0 0) rfl rfl (hq_gV hq_70 hq_71 hq_72 hw_245) ⟨rfl, rfl⟩ (by decide +kernel) ⟨Nat.le_of_ble_eq_true rfl, Nat.le_of_ble_eq_true rfl⟩ ⟨Nat.le_of_ble_eq_true rfl, Nat.le_of_ble_eq_true rfl⟩ hl.1 rfl rfl (Nat.le_of_ble_eq_true rfl) dL_law_929 (fun q u H locs hv hp => ?_)
  have hq9 : q = 0 := hv
  subst hq9
  refine lv_icmp_eq (tgt := 1636) hx hb dL_law_932 (by decide) (fun _ => ?_) (fun h => absurd rfl h)
  refine W.widen (k := 1000) (n := 5000) (Nat.le_of_ble_eq_true rfl) (Nat.le_of_ble_eq_true rfl) ?_
  exact kk _ _ _ hp.2.2 (lv_sub hl [0, 4] rfl)
set_option maxHeartbeats 4000000 in
set_option maxRecDepth 100000 in
theorem hq_case_pass (C0 : hq_C p s m args meth c D1 D2 K z s1 s2 b L xs cJ A) (hfl : l.stackTraces = false) (hp : hq_W D1 D2 K ad a z o cJ A s.heap H locs) (hL : L = 7) (hl : lv_has ls 9 [(4, .int 0), (3, .ref o), (2, .ref (a 0)), (1, .ref (ad 0)), (0, .ref b)])
    (kk : ∀ (H : Heap) (locs : List Loc) (ls : Array Slot), va_S A s.heap H locs → lv_has ls 9 [(4, .int 0), (0, .ref b)] → W p l e room_1 s m args below meth c H locs 1000 5000 Q (F0 m 1636 ls [])) : W p l e room_1 s m args below meth c H locs 197 2214 Q (F0 m 937 ls []) := by
  obtain ⟨hx, hb, hml, hown, hts, hK1, hJ1, hK2, hJ2, hA, hN, hV, hZ, hX, hbl, hbA⟩ := id C0
  rcases Classical.em (hv_pass (xs 1)) with hvd | hvd
  · refine lv_aload_n hx hb dL_law_937 rfl (lv_at hl 3 rfl) ?_
    refine lv_aload_n hx hb dL_law_938 rfl (lv_at hl 4 rfl) ?_
    refine lv_iload hx hb dL_law_939 (lv_at hl 0 rfl) ?_
    refine lv_iconst (v := 1) hx hb dL_law_941 (by decide) ?_
    refine lv_iadd hx hb dL_law_942 ?_
    refine hq_arg (k := 1) C0 hp.2.2.2 (by decide) (by omega) dL_law_943 ?_
    refine lv_aload_n hx hb dL_law_944 rfl (lv_at hl 1 rfl) ?_
    refine hq_c0 C0 hp (As := [.ref (ad 0), .int (xs 1), .ref o]) (rest := []) (n := 3) (hy_pass_0 l D1 K ad o cJ (xs 1) hvd) (hq_gS rfl hq_73 hq_74 hq_75) ⟨rfl, rfl⟩ (by decide +kernel) ⟨Nat.le_of_ble_eq_true rfl, Nat.le_of_ble_eq_true rfl⟩ ⟨Nat.le_of_ble_eq_true rfl, Nat.le_of_ble_eq_true rfl⟩ hl.1 rfl rfl (Nat.le_of_ble_eq_true rfl) dL_law_945 (fun H locs hp => ?_)
    refine lv_istore (lv' := [(5, .int 0), (4, .int 0), (3, .ref o), (2, .ref (a 0)), (1, .ref (ad 0)), (0, .ref b)]) hx hb dL_law_948 hl (by decide) rfl (fun ls hl => ?_)
    refine lv_aload_n hx hb dL_law_950 rfl (lv_at hl 3 rfl) ?_
    refine lv_aload_n hx hb dL_law_951 rfl (lv_at hl 5 rfl) ?_
    refine lv_iload hx hb dL_law_952 (lv_at hl 1 rfl) ?_
    refine lv_iconst (v := 1) hx hb dL_law_954 (by decide) ?_
    refine lv_iadd hx hb dL_law_955 ?_
    refine hq_arg (k := 1) C0 hp.2.2 (by decide) (by omega) dL_law_956 ?_
    refine hq_ri (q0 := 0) (As := [.int (xs 1)]) (rest := []) (n := 1) C0 hp (hq_R o cJ (fun _ => 0)) (hr_pass_y l D2 a z 0 0 (xs 1) hvd) rfl rfl (hq_gV hq_76 hq_77 hq_78 hw_247) ⟨rfl, rfl⟩ (by decide +kernel) ⟨Nat.le_of_ble_eq_true rfl, Nat.le_of_ble_eq_true rfl⟩ ⟨Nat.le_of_ble_eq_true rfl, Nat.le_of_ble_eq_true rfl⟩ hl.1 rfl rfl (Nat.le_of_ble_eq_true rfl) dL_law_957 (fun q u H locs hv hp => ?_)
    have hq9 : q = 0 := hv
    subst hq9
    have hp : hr_H D2 A s.heap (hq_O a 0 ++ (hq_T a z u ++ hq_R o cJ (fun _ => 0))) H locs := hp
    refine lv_istore (lv' := [(6, .int 0), (5, .int 0), (4, .int 0), (3, .ref o), (2, .ref (a 0)), (1, .ref (ad 0)), (0, .ref b)]) hx hb dL_law_960 hl (by decide) rfl (fun ls hl => ?_)
    refine lv_aload_n hx hb dL_law_962 rfl (lv_at hl 4 rfl) ?_
    refine hq_th (rest := []) (th := 0) (v1 := .ref (a 1)) (v2 := .int 0) (v3 := .int 0) C0 _ hp ⟨Nat.le_of_ble_eq_true rfl, Nat.le_of_ble_eq_true rfl⟩ ⟨Nat.le_of_ble_eq_true rfl, Nat.le_of_ble_eq_true rfl⟩ hl.1 (Nat.le_of_ble_eq_true rfl) dL_law_963 (fun H locs hp => ?_)
    refine lv_iload hx hb dL_law_966 (lv_at hl 1 rfl) ?_
    refine lv_icmp_eq (tgt := 973) hx hb dL_law_968 (by decide) (fun _ => ?_) (fun h => absurd rfl h)
    refine lv_iload hx hb dL_law_973 (lv_at hl 1 rfl) ?_
    refine lv_if_ne (tgt := 990) hx hb dL_law_975 (by decide) (fun h => absurd rfl h) (fun _ => ?_)
    refine lv_aload_n hx hb dL_law_978 rfl (lv_at hl 3 rfl) ?_
    refine lv_iconst (v := 0) hx hb dL_law_979 (by decide) ?_
    have hp : hr_H D2 A s.heap ((hq_O a 0 ++ hq_T a z u) ++ hq_R o cJ (fun _ => 0)) H locs := hp
    refine hq_ll C0 hp dL_law_980 ?_
    refine lv_iload hx hb dL_law_981 (lv_at hl 0 rfl) ?_
    refine lv_i2l (v := 0) hx hb dL_law_983 (by decide) ?_
    refine hq_lcmp C0 rfl dL_law_984 ?_
    refine lv_if_eq (tgt := 990) hx hb dL_law_985 (by decide) (fun _ => ?_) (fun h => absurd rfl h)
    refine lv_goto (tgt := 1636) hx hb dL_law_990 (by decide) ?_
    refine W.widen (k := 1000) (n := 5000) (Nat.le_of_ble_eq_true rfl) (Nat.le_of_ble_eq_true rfl) ?_
    exact kk _ _ _ hp.2.2 (lv_sub hl [2, 6] rfl)
  · refine lv_aload_n hx hb dL_law_937 rfl (lv_at hl 3 rfl) ?_
    refine lv_aload_n hx hb dL_law_938 rfl (lv_at hl 4 rfl) ?_
    refine lv_iload hx hb dL_law_939 (lv_at hl 0 rfl) ?_
    refine lv_iconst (v := 1) hx hb dL_law_941 (by decide) ?_
    refine lv_iadd hx hb dL_law_942 ?_
    refine hq_arg (k := 1) C0 hp.2.2.2 (by decide) (by omega) dL_law_943 ?_
    refine lv_aload_n hx hb dL_law_944 rfl (lv_at hl 1 rfl) ?_
    refine hq_c1 C0 hp (As := [.ref (ad 0), .int (xs 1), .ref o]) (rest := []) (n := 3) (hy_pass_1 l hfl D1 K ad s1 s2 o (xs 1) hvd) (hq_gS rfl hq_73 hq_74 hq_75) ⟨rfl, rfl⟩ (by decide +kernel) ⟨Nat.le_of_ble_eq_true rfl, Nat.le_of_ble_eq_true rfl⟩ ⟨Nat.le_of_ble_eq_true rfl, Nat.le_of_ble_eq_true rfl⟩ hl.1 rfl rfl (Nat.le_of_ble_eq_true rfl) dL_law_945 (fun H locs hp => ?_)
    refine lv_istore (lv' := [(5, .int 1), (4, .int 0), (3, .ref o), (2, .ref (a 0)), (1, .ref (ad 0)), (0, .ref b)]) hx hb dL_law_948 hl (by decide) rfl (fun ls hl => ?_)
    refine lv_aload_n hx hb dL_law_950 rfl (lv_at hl 3 rfl) ?_
    refine lv_aload_n hx hb dL_law_951 rfl (lv_at hl 5 rfl) ?_
    refine lv_iload hx hb dL_law_952 (lv_at hl 1 rfl) ?_
    refine lv_iconst (v := 1) hx hb dL_law_954 (by decide) ?_
    refine lv_iadd hx hb dL_law_955 ?_
    refine hq_arg (k := 1) C0 hp.2.2 (by decide) (by omega) dL_law_956 ?_
    refine hq_ri (q0 := 0) (As := [.int (xs 1)]) (rest := []) (n := 1) C0 hp (hq_R o cJ (fun _ => 0)) (hr_pass_n l D2 a z 0 0 (xs 1) hvd) rfl rfl (hq_gV hq_76 hq_77 hq_78 hw_247) ⟨rfl, rfl⟩ (by decide +kernel) ⟨Nat.le_of_ble_eq_true rfl, Nat.le_of_ble_eq_true rfl⟩ ⟨Nat.le_of_ble_eq_true rfl, Nat.le_of_ble_eq_true rfl⟩ hl.1 rfl rfl (Nat.le_of_ble_eq_true rfl) dL_law_957 (fun q u H locs hv hp => ?_)
    have hq9 : q = 0 := hv
    subst hq9
    have hp : hr_H D2 A s.heap (hq_O a 1 ++ (hq_T a z 0 ++ hq_R o cJ (fun _ => 0))) H locs := hp
    refine lv_istore (lv' := [(6, .int 0), (5, .int 1), (4, .int 0), (3, .ref o), (2, .ref (a 0)), (1, .ref (ad 0)), (0, .ref b)]) hx hb dL_law_960 hl (by decide) rfl (fun ls hl => ?_)
    refine lv_aload_n hx hb dL_law_962 rfl (lv_at hl 4 rfl) ?_
    refine hq_th (rest := []) (th := 1) (v1 := .ref (a 1)) (v2 := .int 0) (v3 := .int 0) C0 _ hp ⟨Nat.le_of_ble_eq_true rfl, Nat.le_of_ble_eq_true rfl⟩ ⟨Nat.le_of_ble_eq_true rfl, Nat.le_of_ble_eq_true rfl⟩ hl.1 (Nat.le_of_ble_eq_true rfl) dL_law_963 (fun H locs hp => ?_)
    refine lv_iload hx hb dL_law_966 (lv_at hl 1 rfl) ?_
    refine lv_icmp_eq (tgt := 973) hx hb dL_law_968 (by decide) (fun _ => ?_) (fun h => absurd rfl h)
    refine lv_iload hx hb dL_law_973 (lv_at hl 1 rfl) ?_
    refine lv_if_ne (tgt := 990) hx hb dL_law_975 (by decide) (fun _ => ?_) (fun h => absurd h (by decide))
    refine lv_goto (tgt := 1636) hx hb dL_law_990 (by decide) ?_
    refine W.widen (k := 1000) (n := 5000) (Nat.le_of_ble_eq_true rfl) (Nat.le_of_ble_eq_true rfl) ?_
    exact kk _ _ _ hp.2.2 (lv_sub hl [2, 6] rfl)
set_option maxHeartbeats 4000000 in
set_option maxRecDepth 100000 in
theorem hq_case_quality (C0 : hq_C p s m args meth c D1 D2 K z s1 s2 b L xs cJ A) (hfl : l.stackTraces = false) (hp : hq_W D1 D2 K ad a z o cJ A s.heap H locs) (hL : L = 7) (hl : lv_has ls 9 [(4, .int 0), (3, .ref o), (2, .ref (a 0)), (1, .ref (ad 0)), (0, .ref b)])
    (kk : ∀ (H : Heap) (locs : List Loc) (ls : Array Slot), va_S A s.heap H locs → lv_has ls 9 [(4, .int 0), (0, .ref b)] → W p l e room_1 s m args below meth c H locs 1000 5000 Q (F0 m 1636 ls [])) : W p l e room_1 s m args below meth c H locs 197 2214 Q (F0 m 993 ls []) := by
  obtain ⟨hx, hb, hml, hown, hts, hK1, hJ1, hK2, hJ2, hA, hN, hV, hZ, hX, hbl, hbA⟩ := id C0
  refine lv_aload_n hx hb dL_law_993 rfl (lv_at hl 3 rfl) ?_
  refine lv_aload_n hx hb dL_law_994 rfl (lv_at hl 4 rfl) ?_
  refine lv_iload hx hb dL_law_995 (lv_at hl 0 rfl) ?_
  refine lv_iconst (v := 1) hx hb dL_law_997 (by decide) ?_
  refine lv_iadd hx hb dL_law_998 ?_
  refine hq_arg (k := 1) C0 hp.2.2.2 (by decide) (by omega) dL_law_999 ?_
  refine lv_aload_n hx hb dL_law_1000 rfl (lv_at hl 4 rfl) ?_
  refine lv_iload hx hb dL_law_1001 (lv_at hl 0 rfl) ?_
  refine lv_iconst (v := 2) hx hb dL_law_1003 (by decide) ?_
  refine lv_iadd hx hb dL_law_1004 ?_
  refine hq_arg (k := 2) C0 hp.2.2.2 (by decide) (by omega) dL_law_1005 ?_
  refine lv_aload_n hx hb dL_law_1006 rfl (lv_at hl 1 rfl) ?_
  refine hq_c1 C0 hp (As := [.ref (ad 0), .int (xs 1), .int (xs 2), .ref o]) (rest := []) (n := 4) (hy_quality_1 l hfl D1 K ad s1 s2 o (xs 1) (xs 2)) (hq_gS rfl hq_79 hq_80 hq_81) ⟨rfl, rfl⟩ (by decide +kernel) ⟨Nat.le_of_ble_eq_true rfl, Nat.le_of_ble_eq_true rfl⟩ ⟨Nat.le_of_ble_eq_true rfl, Nat.le_of_ble_eq_true rfl⟩ hl.1 rfl rfl (Nat.le_of_ble_eq_true rfl) dL_law_1007 (fun H locs hp => ?_)
  refine lv_istore (lv' := [(5, .int 1), (4, .int 0), (3, .ref o), (2, .ref (a 0)), (1, .ref (ad 0)), (0, .ref b)]) hx hb dL_law_1010 hl (by decide) rfl (fun ls hl => ?_)
  refine lv_aload_n hx hb dL_law_1012 rfl (lv_at hl 3 rfl) ?_
  refine lv_aload_n hx hb dL_law_1013 rfl (lv_at hl 5 rfl) ?_
  refine lv_iload hx hb dL_law_1014 (lv_at hl 1 rfl) ?_
  refine lv_iconst (v := 1) hx hb dL_law_1016 (by decide) ?_
  refine lv_iadd hx hb dL_law_1017 ?_
  refine hq_arg (k := 1) C0 hp.2.2 (by decide) (by omega) dL_law_1018 ?_
  refine lv_aload_n hx hb dL_law_1019 rfl (lv_at hl 5 rfl) ?_
  refine lv_iload hx hb dL_law_1020 (lv_at hl 1 rfl) ?_
  refine lv_iconst (v := 2) hx hb dL_law_1022 (by decide) ?_
  refine lv_iadd hx hb dL_law_1023 ?_
  refine hq_arg (k := 2) C0 hp.2.2 (by decide) (by omega) dL_law_1024 ?_
  refine hq_ri (q0 := 0) (As := [.int (xs 1), .int (xs 2)]) (rest := []) (n := 2) C0 hp (hq_R o cJ (fun _ => 0)) (hr_X12_quality l D2 a z 0 0 (xs 1) (xs 2)) rfl rfl (hq_gV hq_82 hq_83 hq_84 hw_251) ⟨rfl, rfl⟩ (by decide +kernel) ⟨Nat.le_of_ble_eq_true rfl, Nat.le_of_ble_eq_true rfl⟩ ⟨Nat.le_of_ble_eq_true rfl, Nat.le_of_ble_eq_true rfl⟩ hl.1 rfl rfl (Nat.le_of_ble_eq_true rfl) dL_law_1025 (fun q u H locs hv hp => ?_)
  have hq9 : q = 0 := hv
  subst hq9
  have hp : hr_H D2 A s.heap (hq_O a 1 ++ (hq_T a z 0 ++ hq_R o cJ (fun _ => 0))) H locs := hp
  refine lv_istore (lv' := [(6, .int 0), (5, .int 1), (4, .int 0), (3, .ref o), (2, .ref (a 0)), (1, .ref (ad 0)), (0, .ref b)]) hx hb dL_law_1028 hl (by decide) rfl (fun ls hl => ?_)
  refine lv_aload_n hx hb dL_law_1030 rfl (lv_at hl 4 rfl) ?_
  refine hq_th (rest := []) (th := 1) (v1 := .ref (a 1)) (v2 := .int 0) (v3 := .int 0) C0 _ hp ⟨Nat.le_of_ble_eq_true rfl, Nat.le_of_ble_eq_true rfl⟩ ⟨Nat.le_of_ble_eq_true rfl, Nat.le_of_ble_eq_true rfl⟩ hl.1 (Nat.le_of_ble_eq_true rfl) dL_law_1031 (fun H locs hp => ?_)
  refine lv_iload hx hb dL_law_1034 (lv_at hl 1 rfl) ?_
  refine lv_icmp_eq (tgt := 1041) hx hb dL_law_1036 (by decide) (fun _ => ?_) (fun h => absurd rfl h)
  refine lv_iload hx hb dL_law_1041 (lv_at hl 1 rfl) ?_
  refine lv_if_ne (tgt := 1058) hx hb dL_law_1043 (by decide) (fun _ => ?_) (fun h => absurd h (by decide))
  refine lv_goto (tgt := 1636) hx hb dL_law_1058 (by decide) ?_
  refine W.widen (k := 1000) (n := 5000) (Nat.le_of_ble_eq_true rfl) (Nat.le_of_ble_eq_true rfl) ?_
  exact kk _ _ _ hp.2.2 (lv_sub hl [2, 6] rfl)
set_option maxHeartbeats 4000000 in
set_option maxRecDepth 100000 in
theorem hq_case_best (C0 : hq_C p s m args meth c D1 D2 K z s1 s2 b L xs cJ A) (hfl : l.stackTraces = false) (hp : hq_W D1 D2 K ad a z o cJ A s.heap H locs) (hL : L = 7) (hl : lv_has ls 9 [(4, .int 0), (3, .ref o), (2, .ref (a 0)), (1, .ref (ad 0)), (0, .ref b)])
    (kk : ∀ (H : Heap) (locs : List Loc) (ls : Array Slot), va_S A s.heap H locs → lv_has ls 9 [(4, .int 0), (0, .ref b)] → W p l e room_1 s m args below meth c H locs 1000 5000 Q (F0 m 1636 ls [])) : W p l e room_1 s m args below meth c H locs 197 2214 Q (F0 m 1061 ls []) := by
  obtain ⟨hx, hb, hml, hown, hts, hK1, hJ1, hK2, hJ2, hA, hN, hV, hZ, hX, hbl, hbA⟩ := id C0
  rcases Classical.em (hv_best (xs 1)) with hvd | hvd
  · refine lv_aload_n hx hb dL_law_1061 rfl (lv_at hl 3 rfl) ?_
    refine lv_aload_n hx hb dL_law_1062 rfl (lv_at hl 4 rfl) ?_
    refine lv_iload hx hb dL_law_1063 (lv_at hl 0 rfl) ?_
    refine lv_iconst (v := 1) hx hb dL_law_1065 (by decide) ?_
    refine lv_iadd hx hb dL_law_1066 ?_
    refine hq_arg (k := 1) C0 hp.2.2.2 (by decide) (by omega) dL_law_1067 ?_
    refine lv_aload_n hx hb dL_law_1068 rfl (lv_at hl 1 rfl) ?_
    refine hq_c0 C0 hp (As := [.ref (ad 0), .int (xs 1), .ref o]) (rest := []) (n := 3) (hy_best_0 l D1 K ad o cJ (xs 1) hvd) (hq_gS rfl hq_85 hq_86 hq_87) ⟨rfl, rfl⟩ (by decide +kernel) ⟨Nat.le_of_ble_eq_true rfl, Nat.le_of_ble_eq_true rfl⟩ ⟨Nat.le_of_ble_eq_true rfl, Nat.le_of_ble_eq_true rfl⟩ hl.1 rfl rfl (Nat.le_of_ble_eq_true rfl) dL_law_1069 (fun H locs hp => ?_)
    refine lv_istore (lv' := [(5, .int 0), (4, .int 0), (3, .ref o), (2, .ref (a 0)), (1, .ref (ad 0)), (0, .ref b)]) hx hb dL_law_1072 hl (by decide) rfl (fun ls hl => ?_)
    refine lv_aload_n hx hb dL_law_1074 rfl (lv_at hl 3 rfl) ?_
    refine lv_aload_n hx hb dL_law_1075 rfl (lv_at hl 5 rfl) ?_
    refine lv_iload hx hb dL_law_1076 (lv_at hl 1 rfl) ?_
    refine lv_iconst (v := 1) hx hb dL_law_1078 (by decide) ?_
    refine lv_iadd hx hb dL_law_1079 ?_
    refine hq_arg (k := 1) C0 hp.2.2 (by decide) (by omega) dL_law_1080 ?_
    refine hq_ri (q0 := 0) (As := [.int (xs 1)]) (rest := []) (n := 1) C0 hp (hq_R o cJ (fun _ => (-1))) (hr_best_y l D2 a z 0 0 (xs 1) hvd) rfl rfl (hq_gV hq_88 hq_89 hq_90 hw_252) ⟨rfl, rfl⟩ (by decide +kernel) ⟨Nat.le_of_ble_eq_true rfl, Nat.le_of_ble_eq_true rfl⟩ ⟨Nat.le_of_ble_eq_true rfl, Nat.le_of_ble_eq_true rfl⟩ hl.1 rfl rfl (Nat.le_of_ble_eq_true rfl) dL_law_1081 (fun q u H locs hv hp => ?_)
    have hq9 : q = (-1) := hv
    subst hq9
    have hp : hr_H D2 A s.heap (hq_O a 0 ++ (hq_T a z 0 ++ hq_R o cJ (fun _ => (-1)))) H locs := hp
    refine lv_istore (lv' := [(6, .int (-1)), (5, .int 0), (4, .int 0), (3, .ref o), (2, .ref (a 0)), (1, .ref (ad 0)), (0, .ref b)]) hx hb dL_law_1084 hl (by decide) rfl (fun ls hl => ?_)
    refine lv_aload_n hx hb dL_law_1086 rfl (lv_at hl 4 rfl) ?_
    refine hq_th (rest := []) (th := 0) (v1 := .ref (a 1)) (v2 := .int 0) (v3 := .int 0) C0 _ hp ⟨Nat.le_of_ble_eq_true rfl, Nat.le_of_ble_eq_true rfl⟩ ⟨Nat.le_of_ble_eq_true rfl, Nat.le_of_ble_eq_true rfl⟩ hl.1 (Nat.le_of_ble_eq_true rfl) dL_law_1087 (fun H locs hp => ?_)
    refine lv_iload hx hb dL_law_1090 (lv_at hl 1 rfl) ?_
    refine lv_icmp_eq (tgt := 1097) hx hb dL_law_1092 (by decide) (fun _ => ?_) (fun h => absurd rfl h)
    refine lv_iload hx hb dL_law_1097 (lv_at hl 1 rfl) ?_
    refine lv_if_ne (tgt := 1114) hx hb dL_law_1099 (by decide) (fun h => absurd rfl h) (fun _ => ?_)
    refine lv_aload_n hx hb dL_law_1102 rfl (lv_at hl 3 rfl) ?_
    refine lv_iconst (v := 0) hx hb dL_law_1103 (by decide) ?_
    have hp : hr_H D2 A s.heap ((hq_O a 0 ++ hq_T a z 0) ++ hq_R o cJ (fun _ => (-1))) H locs := hp
    refine hq_ll C0 hp dL_law_1104 ?_
    refine lv_iload hx hb dL_law_1105 (lv_at hl 0 rfl) ?_
    refine lv_i2l (v := (-1)) hx hb dL_law_1107 (by decide) ?_
    refine hq_lcmp C0 rfl dL_law_1108 ?_
    refine lv_if_eq (tgt := 1114) hx hb dL_law_1109 (by decide) (fun _ => ?_) (fun h => absurd rfl h)
    refine lv_goto (tgt := 1636) hx hb dL_law_1114 (by decide) ?_
    refine W.widen (k := 1000) (n := 5000) (Nat.le_of_ble_eq_true rfl) (Nat.le_of_ble_eq_true rfl) ?_
    exact kk _ _ _ hp.2.2 (lv_sub hl [2, 6] rfl)
  · refine lv_aload_n hx hb dL_law_1061 rfl (lv_at hl 3 rfl) ?_
    refine lv_aload_n hx hb dL_law_1062 rfl (lv_at hl 4 rfl) ?_
    refine lv_iload hx hb dL_law_1063 (lv_at hl 0 rfl) ?_
    refine lv_iconst (v := 1) hx hb dL_law_1065 (by decide) ?_
    refine lv_iadd hx hb dL_law_1066 ?_
    refine hq_arg (k := 1) C0 hp.2.2.2 (by decide) (by omega) dL_law_1067 ?_
    refine lv_aload_n hx hb dL_law_1068 rfl (lv_at hl 1 rfl) ?_
    refine hq_c1 C0 hp (As := [.ref (ad 0), .int (xs 1), .ref o]) (rest := []) (n := 3) (hy_best_1 l hfl D1 K ad s1 s2 o (xs 1) hvd) (hq_gS rfl hq_85 hq_86 hq_87) ⟨rfl, rfl⟩ (by decide +kernel) ⟨Nat.le_of_ble_eq_true rfl, Nat.le_of_ble_eq_true rfl⟩ ⟨Nat.le_of_ble_eq_true rfl, Nat.le_of_ble_eq_true rfl⟩ hl.1 rfl rfl (Nat.le_of_ble_eq_true rfl) dL_law_1069 (fun H locs hp => ?_)
    refine lv_istore (lv' := [(5, .int 1), (4, .int 0), (3, .ref o), (2, .ref (a 0)), (1, .ref (ad 0)), (0, .ref b)]) hx hb dL_law_1072 hl (by decide) rfl (fun ls hl => ?_)
    refine lv_aload_n hx hb dL_law_1074 rfl (lv_at hl 3 rfl) ?_
    refine lv_aload_n hx hb dL_law_1075 rfl (lv_at hl 5 rfl) ?_
    refine lv_iload hx hb dL_law_1076 (lv_at hl 1 rfl) ?_
    refine lv_iconst (v := 1) hx hb dL_law_1078 (by decide) ?_
    refine lv_iadd hx hb dL_law_1079 ?_
    refine hq_arg (k := 1) C0 hp.2.2 (by decide) (by omega) dL_law_1080 ?_
    refine hq_ri (q0 := 0) (As := [.int (xs 1)]) (rest := []) (n := 1) C0 hp (hq_R o cJ (fun _ => 0)) (hr_best_n l D2 a z 0 0 (xs 1) hvd) rfl rfl (hq_gV hq_88 hq_89 hq_90 hw_252) ⟨rfl, rfl⟩ (by decide +kernel) ⟨Nat.le_of_ble_eq_true rfl, Nat.le_of_ble_eq_true rfl⟩ ⟨Nat.le_of_ble_eq_true rfl, Nat.le_of_ble_eq_true rfl⟩ hl.1 rfl rfl (Nat.le_of_ble_eq_true rfl) dL_law_1081 (fun q u H locs hv hp => ?_)
    have hq9 : q = 0 := hv
    subst hq9
    have hp : hr_H D2 A s.heap (hq_O a 1 ++ (hq_T a z 0 ++ hq_R o cJ (fun _ => 0))) H locs := hp
    refine lv_istore (lv' := [(6, .int 0), (5, .int 1), (4, .int 0), (3, .ref o), (2, .ref (a 0)), (1, .ref (ad 0)), (0, .ref b)]) hx hb dL_law_1084 hl (by decide) rfl (fun ls hl => ?_)
    refine lv_aload_n hx hb dL_law_1086 rfl (lv_at hl 4 rfl) ?_
    refine hq_th (rest := []) (th := 1) (v1 := .ref (a 1)) (v2 := .int 0) (v3 := .int 0) C0 _ hp ⟨Nat.le_of_ble_eq_true rfl, Nat.le_of_ble_eq_true rfl⟩ ⟨Nat.le_of_ble_eq_true rfl, Nat.le_of_ble_eq_true rfl⟩ hl.1 (Nat.le_of_ble_eq_true rfl) dL_law_1087 (fun H locs hp => ?_)
    refine lv_iload hx hb dL_law_1090 (lv_at hl 1 rfl) ?_
    refine lv_icmp_eq (tgt := 1097) hx hb dL_law_1092 (by decide) (fun _ => ?_) (fun h => absurd rfl h)
    refine lv_iload hx hb dL_law_1097 (lv_at hl 1 rfl) ?_
    refine lv_if_ne (tgt := 1114) hx hb dL_law_1099 (by decide) (fun _ => ?_) (fun h => absurd h (by decide))
    refine lv_goto (tgt := 1636) hx hb dL_law_1114 (by decide) ?_
    refine W.widen (k := 1000) (n := 5000) (Nat.le_of_ble_eq_true rfl) (Nat.le_of_ble_eq_true rfl) ?_
    exact kk _ _ _ hp.2.2 (lv_sub hl [2, 6] rfl)
set_option maxHeartbeats 4000000 in
set_option maxRecDepth 100000 in
theorem hq_case_ofMast (C0 : hq_C p s m args meth c D1 D2 K z s1 s2 b L xs cJ A) (hfl : l.stackTraces = false) (hp : hq_W D1 D2 K ad a z o cJ A s.heap H locs) (hL : L = 7) (hl : lv_has ls 9 [(4, .int 0), (3, .ref o), (2, .ref (a 0)), (1, .ref (ad 0)), (0, .ref b)])
    (kk : ∀ (H : Heap) (locs : List Loc) (ls : Array Slot), va_S A s.heap H locs → lv_has ls 9 [(4, .int 0), (0, .ref b)] → W p l e room_1 s m args below meth c H locs 1000 5000 Q (F0 m 1636 ls [])) : W p l e room_1 s m args below meth c H locs 197 2214 Q (F0 m 1117 ls []) := by
  obtain ⟨hx, hb, hml, hown, hts, hK1, hJ1, hK2, hJ2, hA, hN, hV, hZ, hX, hbl, hbA⟩ := id C0
  refine lv_aload_n hx hb dL_law_1117 rfl (lv_at hl 3 rfl) ?_
  refine lv_aload_n hx hb dL_law_1118 rfl (lv_at hl 4 rfl) ?_
  refine lv_iload hx hb dL_law_1119 (lv_at hl 0 rfl) ?_
  refine lv_iconst (v := 1) hx hb dL_law_1121 (by decide) ?_
  refine lv_iadd hx hb dL_law_1122 ?_
  refine hq_arg (k := 1) C0 hp.2.2.2 (by decide) (by omega) dL_law_1123 ?_
  refine lv_aload_n hx hb dL_law_1124 rfl (lv_at hl 4 rfl) ?_
  refine lv_iload hx hb dL_law_1125 (lv_at hl 0 rfl) ?_
  refine lv_iconst (v := 2) hx hb dL_law_1127 (by decide) ?_
  refine lv_iadd hx hb dL_law_1128 ?_
  refine hq_arg (k := 2) C0 hp.2.2.2 (by decide) (by omega) dL_law_1129 ?_
  refine lv_aload_n hx hb dL_law_1130 rfl (lv_at hl 1 rfl) ?_
  refine hq_c1 C0 hp (As := [.ref (ad 0), .int (xs 1), .int (xs 2), .ref o]) (rest := []) (n := 4) (hy_ofMast_1 l hfl D1 K ad s1 s2 o (xs 1) (xs 2)) (hq_gS rfl hq_91 hq_92 hq_93) ⟨rfl, rfl⟩ (by decide +kernel) ⟨Nat.le_of_ble_eq_true rfl, Nat.le_of_ble_eq_true rfl⟩ ⟨Nat.le_of_ble_eq_true rfl, Nat.le_of_ble_eq_true rfl⟩ hl.1 rfl rfl (Nat.le_of_ble_eq_true rfl) dL_law_1131 (fun H locs hp => ?_)
  refine lv_istore (lv' := [(5, .int 1), (4, .int 0), (3, .ref o), (2, .ref (a 0)), (1, .ref (ad 0)), (0, .ref b)]) hx hb dL_law_1134 hl (by decide) rfl (fun ls hl => ?_)
  refine lv_aload_n hx hb dL_law_1136 rfl (lv_at hl 3 rfl) ?_
  refine lv_aload_n hx hb dL_law_1137 rfl (lv_at hl 5 rfl) ?_
  refine lv_iload hx hb dL_law_1138 (lv_at hl 1 rfl) ?_
  refine lv_iconst (v := 1) hx hb dL_law_1140 (by decide) ?_
  refine lv_iadd hx hb dL_law_1141 ?_
  refine hq_arg (k := 1) C0 hp.2.2 (by decide) (by omega) dL_law_1142 ?_
  refine lv_aload_n hx hb dL_law_1143 rfl (lv_at hl 5 rfl) ?_
  refine lv_iload hx hb dL_law_1144 (lv_at hl 1 rfl) ?_
  refine lv_iconst (v := 2) hx hb dL_law_1146 (by decide) ?_
  refine lv_iadd hx hb dL_law_1147 ?_
  refine hq_arg (k := 2) C0 hp.2.2 (by decide) (by omega) dL_law_1148 ?_
  refine hq_ri (q0 := 0) (As := [.int (xs 1), .int (xs 2)]) (rest := []) (n := 2) C0 hp (hq_R o cJ (fun _ => 0)) (hr_X12_ofMast l D2 a z 0 0 (xs 1) (xs 2)) rfl rfl (hq_gV hq_94 hq_95 hq_96 hw_254) ⟨rfl, rfl⟩ (by decide +kernel) ⟨Nat.le_of_ble_eq_true rfl, Nat.le_of_ble_eq_true rfl⟩ ⟨Nat.le_of_ble_eq_true rfl, Nat.le_of_ble_eq_true rfl⟩ hl.1 rfl rfl (Nat.le_of_ble_eq_true rfl) dL_law_1149 (fun q u H locs hv hp => ?_)
  have hq9 : q = 0 := hv
  subst hq9
  have hp : hr_H D2 A s.heap (hq_O a 1 ++ (hq_T a z 0 ++ hq_R o cJ (fun _ => 0))) H locs := hp
  refine lv_istore (lv' := [(6, .int 0), (5, .int 1), (4, .int 0), (3, .ref o), (2, .ref (a 0)), (1, .ref (ad 0)), (0, .ref b)]) hx hb dL_law_1152 hl (by decide) rfl (fun ls hl => ?_)
  refine lv_aload_n hx hb dL_law_1154 rfl (lv_at hl 4 rfl) ?_
  refine hq_th (rest := []) (th := 1) (v1 := .ref (a 1)) (v2 := .int 0) (v3 := .int 0) C0 _ hp ⟨Nat.le_of_ble_eq_true rfl, Nat.le_of_ble_eq_true rfl⟩ ⟨Nat.le_of_ble_eq_true rfl, Nat.le_of_ble_eq_true rfl⟩ hl.1 (Nat.le_of_ble_eq_true rfl) dL_law_1155 (fun H locs hp => ?_)
  refine lv_iload hx hb dL_law_1158 (lv_at hl 1 rfl) ?_
  refine lv_icmp_eq (tgt := 1165) hx hb dL_law_1160 (by decide) (fun _ => ?_) (fun h => absurd rfl h)
  refine lv_iload hx hb dL_law_1165 (lv_at hl 1 rfl) ?_
  refine lv_if_ne (tgt := 1182) hx hb dL_law_1167 (by decide) (fun _ => ?_) (fun h => absurd h (by decide))
  refine lv_goto (tgt := 1636) hx hb dL_law_1182 (by decide) ?_
  refine W.widen (k := 1000) (n := 5000) (Nat.le_of_ble_eq_true rfl) (Nat.le_of_ble_eq_true rfl) ?_
  exact kk _ _ _ hp.2.2 (lv_sub hl [2, 6] rfl)
set_option maxHeartbeats 4000000 in
set_option maxRecDepth 100000 in
theorem hq_case_ofHandset (C0 : hq_C p s m args meth c D1 D2 K z s1 s2 b L xs cJ A) (hfl : l.stackTraces = false) (hp : hq_W D1 D2 K ad a z o cJ A s.heap H locs) (hL : L = 7) (hl : lv_has ls 9 [(4, .int 0), (3, .ref o), (2, .ref (a 0)), (1, .ref (ad 0)), (0, .ref b)])
    (kk : ∀ (H : Heap) (locs : List Loc) (ls : Array Slot), va_S A s.heap H locs → lv_has ls 9 [(4, .int 0), (0, .ref b)] → W p l e room_1 s m args below meth c H locs 1000 5000 Q (F0 m 1636 ls [])) : W p l e room_1 s m args below meth c H locs 197 2214 Q (F0 m 1185 ls []) := by
  obtain ⟨hx, hb, hml, hown, hts, hK1, hJ1, hK2, hJ2, hA, hN, hV, hZ, hX, hbl, hbA⟩ := id C0
  refine lv_aload_n hx hb dL_law_1185 rfl (lv_at hl 3 rfl) ?_
  refine lv_aload_n hx hb dL_law_1186 rfl (lv_at hl 4 rfl) ?_
  refine lv_iload hx hb dL_law_1187 (lv_at hl 0 rfl) ?_
  refine lv_iconst (v := 1) hx hb dL_law_1189 (by decide) ?_
  refine lv_iadd hx hb dL_law_1190 ?_
  refine hq_arg (k := 1) C0 hp.2.2.2 (by decide) (by omega) dL_law_1191 ?_
  refine lv_aload_n hx hb dL_law_1192 rfl (lv_at hl 4 rfl) ?_
  refine lv_iload hx hb dL_law_1193 (lv_at hl 0 rfl) ?_
  refine lv_iconst (v := 2) hx hb dL_law_1195 (by decide) ?_
  refine lv_iadd hx hb dL_law_1196 ?_
  refine hq_arg (k := 2) C0 hp.2.2.2 (by decide) (by omega) dL_law_1197 ?_
  refine lv_aload_n hx hb dL_law_1198 rfl (lv_at hl 1 rfl) ?_
  refine hq_c1 C0 hp (As := [.ref (ad 0), .int (xs 1), .int (xs 2), .ref o]) (rest := []) (n := 4) (hy_ofHandset_1 l hfl D1 K ad s1 s2 o (xs 1) (xs 2)) (hq_gS rfl hq_97 hq_98 hq_99) ⟨rfl, rfl⟩ (by decide +kernel) ⟨Nat.le_of_ble_eq_true rfl, Nat.le_of_ble_eq_true rfl⟩ ⟨Nat.le_of_ble_eq_true rfl, Nat.le_of_ble_eq_true rfl⟩ hl.1 rfl rfl (Nat.le_of_ble_eq_true rfl) dL_law_1199 (fun H locs hp => ?_)
  refine lv_istore (lv' := [(5, .int 1), (4, .int 0), (3, .ref o), (2, .ref (a 0)), (1, .ref (ad 0)), (0, .ref b)]) hx hb dL_law_1202 hl (by decide) rfl (fun ls hl => ?_)
  refine lv_aload_n hx hb dL_law_1204 rfl (lv_at hl 3 rfl) ?_
  refine lv_aload_n hx hb dL_law_1205 rfl (lv_at hl 5 rfl) ?_
  refine lv_iload hx hb dL_law_1206 (lv_at hl 1 rfl) ?_
  refine lv_iconst (v := 1) hx hb dL_law_1208 (by decide) ?_
  refine lv_iadd hx hb dL_law_1209 ?_
  refine hq_arg (k := 1) C0 hp.2.2 (by decide) (by omega) dL_law_1210 ?_
  refine lv_aload_n hx hb dL_law_1211 rfl (lv_at hl 5 rfl) ?_
  refine lv_iload hx hb dL_law_1212 (lv_at hl 1 rfl) ?_
  refine lv_iconst (v := 2) hx hb dL_law_1214 (by decide) ?_
  refine lv_iadd hx hb dL_law_1215 ?_
  refine hq_arg (k := 2) C0 hp.2.2 (by decide) (by omega) dL_law_1216 ?_
  refine hq_ri (q0 := 0) (As := [.int (xs 1), .int (xs 2)]) (rest := []) (n := 2) C0 hp (hq_R o cJ (fun _ => 0)) (hr_X12_ofHandset l D2 a z 0 0 (xs 1) (xs 2)) rfl rfl (hq_gV hq_100 hq_101 hq_102 hw_261) ⟨rfl, rfl⟩ (by decide +kernel) ⟨Nat.le_of_ble_eq_true rfl, Nat.le_of_ble_eq_true rfl⟩ ⟨Nat.le_of_ble_eq_true rfl, Nat.le_of_ble_eq_true rfl⟩ hl.1 rfl rfl (Nat.le_of_ble_eq_true rfl) dL_law_1217 (fun q u H locs hv hp => ?_)
  have hq9 : q = 0 := hv
  subst hq9
  have hp : hr_H D2 A s.heap (hq_O a 1 ++ (hq_T a z 0 ++ hq_R o cJ (fun _ => 0))) H locs := hp
  refine lv_istore (lv' := [(6, .int 0), (5, .int 1), (4, .int 0), (3, .ref o), (2, .ref (a 0)), (1, .ref (ad 0)), (0, .ref b)]) hx hb dL_law_1220 hl (by decide) rfl (fun ls hl => ?_)
  refine lv_aload_n hx hb dL_law_1222 rfl (lv_at hl 4 rfl) ?_
  refine hq_th (rest := []) (th := 1) (v1 := .ref (a 1)) (v2 := .int 0) (v3 := .int 0) C0 _ hp ⟨Nat.le_of_ble_eq_true rfl, Nat.le_of_ble_eq_true rfl⟩ ⟨Nat.le_of_ble_eq_true rfl, Nat.le_of_ble_eq_true rfl⟩ hl.1 (Nat.le_of_ble_eq_true rfl) dL_law_1223 (fun H locs hp => ?_)
  refine lv_iload hx hb dL_law_1226 (lv_at hl 1 rfl) ?_
  refine lv_icmp_eq (tgt := 1233) hx hb dL_law_1228 (by decide) (fun _ => ?_) (fun h => absurd rfl h)
  refine lv_iload hx hb dL_law_1233 (lv_at hl 1 rfl) ?_
  refine lv_if_ne (tgt := 1250) hx hb dL_law_1235 (by decide) (fun _ => ?_) (fun h => absurd h (by decide))
  refine lv_goto (tgt := 1636) hx hb dL_law_1250 (by decide) ?_
  refine W.widen (k := 1000) (n := 5000) (Nat.le_of_ble_eq_true rfl) (Nat.le_of_ble_eq_true rfl) ?_
  exact kk _ _ _ hp.2.2 (lv_sub hl [2, 6] rfl)
set_option maxHeartbeats 4000000 in
set_option maxRecDepth 100000 in
theorem hq_case_ofCall (C0 : hq_C p s m args meth c D1 D2 K z s1 s2 b L xs cJ A) (hfl : l.stackTraces = false) (hp : hq_W D1 D2 K ad a z o cJ A s.heap H locs) (hL : L = 7) (hl : lv_has ls 9 [(4, .int 0), (3, .ref o), (2, .ref (a 0)), (1, .ref (ad 0)), (0, .ref b)])
    (kk : ∀ (H : Heap) (locs : List Loc) (ls : Array Slot), va_S A s.heap H locs → lv_has ls 9 [(4, .int 0), (0, .ref b)] → W p l e room_1 s m args below meth c H locs 1000 5000 Q (F0 m 1636 ls [])) : W p l e room_1 s m args below meth c H locs 197 2214 Q (F0 m 1253 ls []) := by
  obtain ⟨hx, hb, hml, hown, hts, hK1, hJ1, hK2, hJ2, hA, hN, hV, hZ, hX, hbl, hbA⟩ := id C0
  refine lv_aload_n hx hb dL_law_1253 rfl (lv_at hl 3 rfl) ?_
  refine lv_aload_n hx hb dL_law_1254 rfl (lv_at hl 4 rfl) ?_
  refine lv_iload hx hb dL_law_1255 (lv_at hl 0 rfl) ?_
  refine lv_iconst (v := 1) hx hb dL_law_1257 (by decide) ?_
  refine lv_iadd hx hb dL_law_1258 ?_
  refine hq_arg (k := 1) C0 hp.2.2.2 (by decide) (by omega) dL_law_1259 ?_
  refine lv_aload_n hx hb dL_law_1260 rfl (lv_at hl 4 rfl) ?_
  refine lv_iload hx hb dL_law_1261 (lv_at hl 0 rfl) ?_
  refine lv_iconst (v := 2) hx hb dL_law_1263 (by decide) ?_
  refine lv_iadd hx hb dL_law_1264 ?_
  refine hq_arg (k := 2) C0 hp.2.2.2 (by decide) (by omega) dL_law_1265 ?_
  refine lv_aload_n hx hb dL_law_1266 rfl (lv_at hl 1 rfl) ?_
  refine hq_c1 C0 hp (As := [.ref (ad 0), .int (xs 1), .int (xs 2), .ref o]) (rest := []) (n := 4) (hy_ofCall_1 l hfl D1 K ad s1 s2 o (xs 1) (xs 2)) (hq_gS rfl hq_103 hq_104 hq_105) ⟨rfl, rfl⟩ (by decide +kernel) ⟨Nat.le_of_ble_eq_true rfl, Nat.le_of_ble_eq_true rfl⟩ ⟨Nat.le_of_ble_eq_true rfl, Nat.le_of_ble_eq_true rfl⟩ hl.1 rfl rfl (Nat.le_of_ble_eq_true rfl) dL_law_1267 (fun H locs hp => ?_)
  refine lv_istore (lv' := [(5, .int 1), (4, .int 0), (3, .ref o), (2, .ref (a 0)), (1, .ref (ad 0)), (0, .ref b)]) hx hb dL_law_1270 hl (by decide) rfl (fun ls hl => ?_)
  refine lv_aload_n hx hb dL_law_1272 rfl (lv_at hl 3 rfl) ?_
  refine lv_aload_n hx hb dL_law_1273 rfl (lv_at hl 5 rfl) ?_
  refine lv_iload hx hb dL_law_1274 (lv_at hl 1 rfl) ?_
  refine lv_iconst (v := 1) hx hb dL_law_1276 (by decide) ?_
  refine lv_iadd hx hb dL_law_1277 ?_
  refine hq_arg (k := 1) C0 hp.2.2 (by decide) (by omega) dL_law_1278 ?_
  refine lv_aload_n hx hb dL_law_1279 rfl (lv_at hl 5 rfl) ?_
  refine lv_iload hx hb dL_law_1280 (lv_at hl 1 rfl) ?_
  refine lv_iconst (v := 2) hx hb dL_law_1282 (by decide) ?_
  refine lv_iadd hx hb dL_law_1283 ?_
  refine hq_arg (k := 2) C0 hp.2.2 (by decide) (by omega) dL_law_1284 ?_
  refine hq_ri (q0 := 0) (As := [.int (xs 1), .int (xs 2)]) (rest := []) (n := 2) C0 hp (hq_R o cJ (fun _ => 0)) (hr_X12_ofCall l D2 a z 0 0 (xs 1) (xs 2)) rfl rfl (hq_gV hq_106 hq_107 hq_108 hw_266) ⟨rfl, rfl⟩ (by decide +kernel) ⟨Nat.le_of_ble_eq_true rfl, Nat.le_of_ble_eq_true rfl⟩ ⟨Nat.le_of_ble_eq_true rfl, Nat.le_of_ble_eq_true rfl⟩ hl.1 rfl rfl (Nat.le_of_ble_eq_true rfl) dL_law_1285 (fun q u H locs hv hp => ?_)
  have hq9 : q = 0 := hv
  subst hq9
  have hp : hr_H D2 A s.heap (hq_O a 1 ++ (hq_T a z 0 ++ hq_R o cJ (fun _ => 0))) H locs := hp
  refine lv_istore (lv' := [(6, .int 0), (5, .int 1), (4, .int 0), (3, .ref o), (2, .ref (a 0)), (1, .ref (ad 0)), (0, .ref b)]) hx hb dL_law_1288 hl (by decide) rfl (fun ls hl => ?_)
  refine lv_aload_n hx hb dL_law_1290 rfl (lv_at hl 4 rfl) ?_
  refine hq_th (rest := []) (th := 1) (v1 := .ref (a 1)) (v2 := .int 0) (v3 := .int 0) C0 _ hp ⟨Nat.le_of_ble_eq_true rfl, Nat.le_of_ble_eq_true rfl⟩ ⟨Nat.le_of_ble_eq_true rfl, Nat.le_of_ble_eq_true rfl⟩ hl.1 (Nat.le_of_ble_eq_true rfl) dL_law_1291 (fun H locs hp => ?_)
  refine lv_iload hx hb dL_law_1294 (lv_at hl 1 rfl) ?_
  refine lv_icmp_eq (tgt := 1301) hx hb dL_law_1296 (by decide) (fun _ => ?_) (fun h => absurd rfl h)
  refine lv_iload hx hb dL_law_1301 (lv_at hl 1 rfl) ?_
  refine lv_if_ne (tgt := 1318) hx hb dL_law_1303 (by decide) (fun _ => ?_) (fun h => absurd h (by decide))
  refine lv_goto (tgt := 1636) hx hb dL_law_1318 (by decide) ?_
  refine W.widen (k := 1000) (n := 5000) (Nat.le_of_ble_eq_true rfl) (Nat.le_of_ble_eq_true rfl) ?_
  exact kk _ _ _ hp.2.2 (lv_sub hl [2, 6] rfl)
set_option maxHeartbeats 4000000 in
set_option maxRecDepth 100000 in
theorem hq_case_many (C0 : hq_C p s m args meth c D1 D2 K z s1 s2 b L xs cJ A) (hfl : l.stackTraces = false) (hp : hq_W D1 D2 K ad a z o cJ A s.heap H locs) (hL : L = 7) (hl : lv_has ls 9 [(4, .int 0), (3, .ref o), (2, .ref (a 0)), (1, .ref (ad 0)), (0, .ref b)])
    (kk : ∀ (H : Heap) (locs : List Loc) (ls : Array Slot), va_S A s.heap H locs → lv_has ls 9 [(4, .int 0), (0, .ref b)] → W p l e room_1 s m args below meth c H locs 1000 5000 Q (F0 m 1636 ls [])) : W p l e room_1 s m args below meth c H locs 197 2214 Q (F0 m 1321 ls []) := by
  obtain ⟨hx, hb, hml, hown, hts, hK1, hJ1, hK2, hJ2, hA, hN, hV, hZ, hX, hbl, hbA⟩ := id C0
  rcases Classical.em (hv_many (xs 1)) with hvd | hvd
  · refine lv_aload_n hx hb dL_law_1321 rfl (lv_at hl 3 rfl) ?_
    refine lv_aload_n hx hb dL_law_1322 rfl (lv_at hl 4 rfl) ?_
    refine lv_iload hx hb dL_law_1323 (lv_at hl 0 rfl) ?_
    refine lv_iconst (v := 1) hx hb dL_law_1325 (by decide) ?_
    refine lv_iadd hx hb dL_law_1326 ?_
    refine hq_arg (k := 1) C0 hp.2.2.2 (by decide) (by omega) dL_law_1327 ?_
    refine lv_aload_n hx hb dL_law_1328 rfl (lv_at hl 1 rfl) ?_
    refine hq_c0 C0 hp (As := [.ref (ad 0), .int (xs 1), .ref o]) (rest := []) (n := 3) (hy_many_0 l D1 K ad o cJ (xs 1) hvd) (hq_gS rfl hq_109 hq_110 hq_111) ⟨rfl, rfl⟩ (by decide +kernel) ⟨Nat.le_of_ble_eq_true rfl, Nat.le_of_ble_eq_true rfl⟩ ⟨Nat.le_of_ble_eq_true rfl, Nat.le_of_ble_eq_true rfl⟩ hl.1 rfl rfl (Nat.le_of_ble_eq_true rfl) dL_law_1329 (fun H locs hp => ?_)
    refine lv_istore (lv' := [(5, .int 0), (4, .int 0), (3, .ref o), (2, .ref (a 0)), (1, .ref (ad 0)), (0, .ref b)]) hx hb dL_law_1332 hl (by decide) rfl (fun ls hl => ?_)
    refine lv_aload_n hx hb dL_law_1334 rfl (lv_at hl 3 rfl) ?_
    refine lv_aload_n hx hb dL_law_1335 rfl (lv_at hl 5 rfl) ?_
    refine lv_iload hx hb dL_law_1336 (lv_at hl 1 rfl) ?_
    refine lv_iconst (v := 1) hx hb dL_law_1338 (by decide) ?_
    refine lv_iadd hx hb dL_law_1339 ?_
    refine hq_arg (k := 1) C0 hp.2.2 (by decide) (by omega) dL_law_1340 ?_
    refine hq_ri (q0 := 0) (As := [.int (xs 1)]) (rest := []) (n := 1) C0 hp (hq_R o cJ (fun _ => 0)) (hr_many_y l D2 a z 0 (xs 1) hvd) rfl rfl (hq_gV hq_112 hq_113 hq_114 hw_277) ⟨rfl, rfl⟩ (by decide +kernel) ⟨Nat.le_of_ble_eq_true rfl, Nat.le_of_ble_eq_true rfl⟩ ⟨Nat.le_of_ble_eq_true rfl, Nat.le_of_ble_eq_true rfl⟩ hl.1 rfl rfl (Nat.le_of_ble_eq_true rfl) dL_law_1341 (fun q u H locs hv hp => ?_)
    have hq9 : q = 0 := hv
    subst hq9
    have hp : hr_H D2 A s.heap (hq_O a 0 ++ (hq_T a z 0 ++ hq_R o cJ (fun _ => 0))) H locs := hp
    refine lv_istore (lv' := [(6, .int 0), (5, .int 0), (4, .int 0), (3, .ref o), (2, .ref (a 0)), (1, .ref (ad 0)), (0, .ref b)]) hx hb dL_law_1344 hl (by decide) rfl (fun ls hl => ?_)
    refine lv_aload_n hx hb dL_law_1346 rfl (lv_at hl 4 rfl) ?_
    refine hq_th (rest := []) (th := 0) (v1 := .ref (a 1)) (v2 := .int 0) (v3 := .int 0) C0 _ hp ⟨Nat.le_of_ble_eq_true rfl, Nat.le_of_ble_eq_true rfl⟩ ⟨Nat.le_of_ble_eq_true rfl, Nat.le_of_ble_eq_true rfl⟩ hl.1 (Nat.le_of_ble_eq_true rfl) dL_law_1347 (fun H locs hp => ?_)
    refine lv_iload hx hb dL_law_1350 (lv_at hl 1 rfl) ?_
    refine lv_icmp_eq (tgt := 1357) hx hb dL_law_1352 (by decide) (fun _ => ?_) (fun h => absurd rfl h)
    refine lv_iload hx hb dL_law_1357 (lv_at hl 1 rfl) ?_
    refine lv_if_ne (tgt := 1374) hx hb dL_law_1359 (by decide) (fun h => absurd rfl h) (fun _ => ?_)
    refine lv_aload_n hx hb dL_law_1362 rfl (lv_at hl 3 rfl) ?_
    refine lv_iconst (v := 0) hx hb dL_law_1363 (by decide) ?_
    have hp : hr_H D2 A s.heap ((hq_O a 0 ++ hq_T a z 0) ++ hq_R o cJ (fun _ => 0)) H locs := hp
    refine hq_ll C0 hp dL_law_1364 ?_
    refine lv_iload hx hb dL_law_1365 (lv_at hl 0 rfl) ?_
    refine lv_i2l (v := 0) hx hb dL_law_1367 (by decide) ?_
    refine hq_lcmp C0 rfl dL_law_1368 ?_
    refine lv_if_eq (tgt := 1374) hx hb dL_law_1369 (by decide) (fun _ => ?_) (fun h => absurd rfl h)
    refine lv_goto (tgt := 1636) hx hb dL_law_1374 (by decide) ?_
    refine W.widen (k := 1000) (n := 5000) (Nat.le_of_ble_eq_true rfl) (Nat.le_of_ble_eq_true rfl) ?_
    exact kk _ _ _ hp.2.2 (lv_sub hl [2, 6] rfl)
  · refine lv_aload_n hx hb dL_law_1321 rfl (lv_at hl 3 rfl) ?_
    refine lv_aload_n hx hb dL_law_1322 rfl (lv_at hl 4 rfl) ?_
    refine lv_iload hx hb dL_law_1323 (lv_at hl 0 rfl) ?_
    refine lv_iconst (v := 1) hx hb dL_law_1325 (by decide) ?_
    refine lv_iadd hx hb dL_law_1326 ?_
    refine hq_arg (k := 1) C0 hp.2.2.2 (by decide) (by omega) dL_law_1327 ?_
    refine lv_aload_n hx hb dL_law_1328 rfl (lv_at hl 1 rfl) ?_
    refine hq_c1 C0 hp (As := [.ref (ad 0), .int (xs 1), .ref o]) (rest := []) (n := 3) (hy_many_1 l hfl D1 K ad s1 s2 o (xs 1) hvd) (hq_gS rfl hq_109 hq_110 hq_111) ⟨rfl, rfl⟩ (by decide +kernel) ⟨Nat.le_of_ble_eq_true rfl, Nat.le_of_ble_eq_true rfl⟩ ⟨Nat.le_of_ble_eq_true rfl, Nat.le_of_ble_eq_true rfl⟩ hl.1 rfl rfl (Nat.le_of_ble_eq_true rfl) dL_law_1329 (fun H locs hp => ?_)
    refine lv_istore (lv' := [(5, .int 1), (4, .int 0), (3, .ref o), (2, .ref (a 0)), (1, .ref (ad 0)), (0, .ref b)]) hx hb dL_law_1332 hl (by decide) rfl (fun ls hl => ?_)
    refine lv_aload_n hx hb dL_law_1334 rfl (lv_at hl 3 rfl) ?_
    refine lv_aload_n hx hb dL_law_1335 rfl (lv_at hl 5 rfl) ?_
    refine lv_iload hx hb dL_law_1336 (lv_at hl 1 rfl) ?_
    refine lv_iconst (v := 1) hx hb dL_law_1338 (by decide) ?_
    refine lv_iadd hx hb dL_law_1339 ?_
    refine hq_arg (k := 1) C0 hp.2.2 (by decide) (by omega) dL_law_1340 ?_
    refine hq_ri (q0 := 0) (As := [.int (xs 1)]) (rest := []) (n := 1) C0 hp (hq_R o cJ (fun _ => 0)) (hr_many_n l D2 a z 0 0 (xs 1) hvd) rfl rfl (hq_gV hq_112 hq_113 hq_114 hw_277) ⟨rfl, rfl⟩ (by decide +kernel) ⟨Nat.le_of_ble_eq_true rfl, Nat.le_of_ble_eq_true rfl⟩ ⟨Nat.le_of_ble_eq_true rfl, Nat.le_of_ble_eq_true rfl⟩ hl.1 rfl rfl (Nat.le_of_ble_eq_true rfl) dL_law_1341 (fun q u H locs hv hp => ?_)
    have hq9 : q = 0 := hv
    subst hq9
    have hp : hr_H D2 A s.heap (hq_O a 1 ++ (hq_T a z 0 ++ hq_R o cJ (fun _ => 0))) H locs := hp
    refine lv_istore (lv' := [(6, .int 0), (5, .int 1), (4, .int 0), (3, .ref o), (2, .ref (a 0)), (1, .ref (ad 0)), (0, .ref b)]) hx hb dL_law_1344 hl (by decide) rfl (fun ls hl => ?_)
    refine lv_aload_n hx hb dL_law_1346 rfl (lv_at hl 4 rfl) ?_
    refine hq_th (rest := []) (th := 1) (v1 := .ref (a 1)) (v2 := .int 0) (v3 := .int 0) C0 _ hp ⟨Nat.le_of_ble_eq_true rfl, Nat.le_of_ble_eq_true rfl⟩ ⟨Nat.le_of_ble_eq_true rfl, Nat.le_of_ble_eq_true rfl⟩ hl.1 (Nat.le_of_ble_eq_true rfl) dL_law_1347 (fun H locs hp => ?_)
    refine lv_iload hx hb dL_law_1350 (lv_at hl 1 rfl) ?_
    refine lv_icmp_eq (tgt := 1357) hx hb dL_law_1352 (by decide) (fun _ => ?_) (fun h => absurd rfl h)
    refine lv_iload hx hb dL_law_1357 (lv_at hl 1 rfl) ?_
    refine lv_if_ne (tgt := 1374) hx hb dL_law_1359 (by decide) (fun _ => ?_) (fun h => absurd h (by decide))
    refine lv_goto (tgt := 1636) hx hb dL_law_1374 (by decide) ?_
    refine W.widen (k := 1000) (n := 5000) (Nat.le_of_ble_eq_true rfl) (Nat.le_of_ble_eq_true rfl) ?_
    exact kk _ _ _ hp.2.2 (lv_sub hl [2, 6] rfl)
set_option maxHeartbeats 4000000 in
set_option maxRecDepth 100000 in
theorem hq_case_meanSeconds (C0 : hq_C p s m args meth c D1 D2 K z s1 s2 b L xs cJ A) (hfl : l.stackTraces = false) (hp : hq_W D1 D2 K ad a z o cJ A s.heap H locs) (hL : L = 7) (hl : lv_has ls 9 [(4, .int 0), (3, .ref o), (2, .ref (a 0)), (1, .ref (ad 0)), (0, .ref b)])
    (kk : ∀ (H : Heap) (locs : List Loc) (ls : Array Slot), va_S A s.heap H locs → lv_has ls 9 [(4, .int 0), (0, .ref b)] → W p l e room_1 s m args below meth c H locs 1000 5000 Q (F0 m 1636 ls [])) : W p l e room_1 s m args below meth c H locs 197 2214 Q (F0 m 1377 ls []) := by
  obtain ⟨hx, hb, hml, hown, hts, hK1, hJ1, hK2, hJ2, hA, hN, hV, hZ, hX, hbl, hbA⟩ := id C0
  refine lv_aload_n hx hb dL_law_1377 rfl (lv_at hl 3 rfl) ?_
  refine hq_xd C0 hp (As := []) (rest := []) (n := 0) (he_X7_meanSeconds l D1 K ad) (hq_gW hq_115 hq_116 hq_117 hm_428) ⟨rfl, rfl⟩ (by decide +kernel) ⟨Nat.le_of_ble_eq_true rfl, Nat.le_of_ble_eq_true rfl⟩ ⟨Nat.le_of_ble_eq_true rfl, Nat.le_of_ble_eq_true rfl⟩ hl.1 rfl rfl (Nat.le_of_ble_eq_true rfl) dL_law_1378 (fun q v1 H locs hv hp => ?_)
  have hq9 : q = 0 := hv.1
  subst hq9
  refine lv_dstore (lv' := [(5, .double 0), (4, .int 0), (3, .ref o), (2, .ref (a 0)), (1, .ref (ad 0)), (0, .ref b)]) hx hb dL_law_1381 hl (by decide) rfl (fun ls hl => ?_)
  refine lv_aload_n hx hb dL_law_1383 rfl (lv_at hl 3 rfl) ?_
  refine hq_rd (q0 := 0) (As := []) (rest := []) (n := 0) C0 hp (hq_R o cJ (fun _ => 0)) (hr_X12_meanSeconds l D2 a z 0 0) rfl rfl (hq_gV hq_118 hq_119 hq_120 hw_281) ⟨rfl, rfl⟩ (by decide +kernel) ⟨Nat.le_of_ble_eq_true rfl, Nat.le_of_ble_eq_true rfl⟩ ⟨Nat.le_of_ble_eq_true rfl, Nat.le_of_ble_eq_true rfl⟩ hl.1 rfl rfl (Nat.le_of_ble_eq_true rfl) dL_law_1384 (fun q u H locs hv hp => ?_)
  have hq9 : q = 0 := hv
  subst hq9
  refine lv_dstore (lv' := [(7, .double 0), (5, .double 0), (4, .int 0), (3, .ref o), (2, .ref (a 0)), (1, .ref (ad 0)), (0, .ref b)]) hx hb dL_law_1387 hl (by decide) rfl (fun ls hl => ?_)
  refine lv_dload hx hb dL_law_1389 (lv_at hl 1 rfl) ?_
  refine lv_dload hx hb dL_law_1391 (lv_at hl 0 rfl) ?_
  refine lv_dcmp hx hb dL_law_1393 ?_
  refine lv_if_eq (tgt := 1415) hx hb dL_law_1394 (by decide) (fun _ => ?_) (fun h => absurd (by decide +kernel) h)
  refine lv_goto (tgt := 1636) hx hb dL_law_1415 (by decide) ?_
  refine W.widen (k := 1000) (n := 5000) (Nat.le_of_ble_eq_true rfl) (Nat.le_of_ble_eq_true rfl) ?_
  exact kk _ _ _ hp.2.2 (lv_sub hl [2, 6] rfl)
set_option maxHeartbeats 4000000 in
set_option maxRecDepth 100000 in
theorem hq_case_endsIn (C0 : hq_C p s m args meth c D1 D2 K z s1 s2 b L xs cJ A) (hfl : l.stackTraces = false) (hp : hq_W D1 D2 K ad a z o cJ A s.heap H locs) (hL : L = 7) (hl : lv_has ls 9 [(4, .int 0), (3, .ref o), (2, .ref (a 0)), (1, .ref (ad 0)), (0, .ref b)])
    (kk : ∀ (H : Heap) (locs : List Loc) (ls : Array Slot), va_S A s.heap H locs → lv_has ls 9 [(4, .int 0), (0, .ref b)] → W p l e room_1 s m args below meth c H locs 1000 5000 Q (F0 m 1636 ls [])) : W p l e room_1 s m args below meth c H locs 197 2214 Q (F0 m 1418 ls []) := by
  obtain ⟨hx, hb, hml, hown, hts, hK1, hJ1, hK2, hJ2, hA, hN, hV, hZ, hX, hbl, hbA⟩ := id C0
  refine lv_aload_n hx hb dL_law_1418 rfl (lv_at hl 3 rfl) ?_
  refine lv_aload_n hx hb dL_law_1419 rfl (lv_at hl 4 rfl) ?_
  refine lv_iload hx hb dL_law_1420 (lv_at hl 0 rfl) ?_
  refine lv_iconst (v := 1) hx hb dL_law_1422 (by decide) ?_
  refine lv_iadd hx hb dL_law_1423 ?_
  refine hq_arg (k := 1) C0 hp.2.2.2 (by decide) (by omega) dL_law_1424 ?_
  refine lv_aload_n hx hb dL_law_1425 rfl (lv_at hl 4 rfl) ?_
  refine lv_iload hx hb dL_law_1426 (lv_at hl 0 rfl) ?_
  refine lv_iconst (v := 2) hx hb dL_law_1428 (by decide) ?_
  refine lv_iadd hx hb dL_law_1429 ?_
  refine hq_arg (k := 2) C0 hp.2.2.2 (by decide) (by omega) dL_law_1430 ?_
  refine lv_aload_n hx hb dL_law_1431 rfl (lv_at hl 1 rfl) ?_
  refine hq_c1 C0 hp (As := [.ref (ad 0), .int (xs 1), .int (xs 2), .ref o]) (rest := []) (n := 4) (hy_endsIn_1 l hfl D1 K ad s1 s2 o (xs 1) (xs 2)) (hq_gS rfl hq_121 hq_122 hq_123) ⟨rfl, rfl⟩ (by decide +kernel) ⟨Nat.le_of_ble_eq_true rfl, Nat.le_of_ble_eq_true rfl⟩ ⟨Nat.le_of_ble_eq_true rfl, Nat.le_of_ble_eq_true rfl⟩ hl.1 rfl rfl (Nat.le_of_ble_eq_true rfl) dL_law_1432 (fun H locs hp => ?_)
  refine lv_istore (lv' := [(5, .int 1), (4, .int 0), (3, .ref o), (2, .ref (a 0)), (1, .ref (ad 0)), (0, .ref b)]) hx hb dL_law_1435 hl (by decide) rfl (fun ls hl => ?_)
  refine lv_aload_n hx hb dL_law_1437 rfl (lv_at hl 3 rfl) ?_
  refine lv_aload_n hx hb dL_law_1438 rfl (lv_at hl 5 rfl) ?_
  refine lv_iload hx hb dL_law_1439 (lv_at hl 1 rfl) ?_
  refine lv_iconst (v := 1) hx hb dL_law_1441 (by decide) ?_
  refine lv_iadd hx hb dL_law_1442 ?_
  refine hq_arg (k := 1) C0 hp.2.2 (by decide) (by omega) dL_law_1443 ?_
  refine lv_aload_n hx hb dL_law_1444 rfl (lv_at hl 5 rfl) ?_
  refine lv_iload hx hb dL_law_1445 (lv_at hl 1 rfl) ?_
  refine lv_iconst (v := 2) hx hb dL_law_1447 (by decide) ?_
  refine lv_iadd hx hb dL_law_1448 ?_
  refine hq_arg (k := 2) C0 hp.2.2 (by decide) (by omega) dL_law_1449 ?_
  refine hq_ri (q0 := 0) (As := [.int (xs 1), .int (xs 2)]) (rest := []) (n := 2) C0 hp (hq_R o cJ (fun _ => 0)) (hr_X12_endsIn l D2 a z 0 0 (xs 1) (xs 2)) rfl rfl (hq_gV hq_124 hq_125 hq_126 hw_282) ⟨rfl, rfl⟩ (by decide +kernel) ⟨Nat.le_of_ble_eq_true rfl, Nat.le_of_ble_eq_true rfl⟩ ⟨Nat.le_of_ble_eq_true rfl, Nat.le_of_ble_eq_true rfl⟩ hl.1 rfl rfl (Nat.le_of_ble_eq_true rfl) dL_law_1450 (fun q u H locs hv hp => ?_)
  have hq9 : q = 0 := hv
  subst hq9
  have hp : hr_H D2 A s.heap (hq_O a 1 ++ (hq_T a z 0 ++ hq_R o cJ (fun _ => 0))) H locs := hp
  refine lv_istore (lv' := [(6, .int 0), (5, .int 1), (4, .int 0), (3, .ref o), (2, .ref (a 0)), (1, .ref (ad 0)), (0, .ref b)]) hx hb dL_law_1453 hl (by decide) rfl (fun ls hl => ?_)
  refine lv_aload_n hx hb dL_law_1455 rfl (lv_at hl 4 rfl) ?_
  refine hq_th (rest := []) (th := 1) (v1 := .ref (a 1)) (v2 := .int 0) (v3 := .int 0) C0 _ hp ⟨Nat.le_of_ble_eq_true rfl, Nat.le_of_ble_eq_true rfl⟩ ⟨Nat.le_of_ble_eq_true rfl, Nat.le_of_ble_eq_true rfl⟩ hl.1 (Nat.le_of_ble_eq_true rfl) dL_law_1456 (fun H locs hp => ?_)
  refine lv_iload hx hb dL_law_1459 (lv_at hl 1 rfl) ?_
  refine lv_icmp_eq (tgt := 1466) hx hb dL_law_1461 (by decide) (fun _ => ?_) (fun h => absurd rfl h)
  refine lv_iload hx hb dL_law_1466 (lv_at hl 1 rfl) ?_
  refine lv_if_ne (tgt := 1483) hx hb dL_law_1468 (by decide) (fun _ => ?_) (fun h => absurd h (by decide))
  refine lv_goto (tgt := 1636) hx hb dL_law_1483 (by decide) ?_
  refine W.widen (k := 1000) (n := 5000) (Nat.le_of_ble_eq_true rfl) (Nat.le_of_ble_eq_true rfl) ?_
  exact kk _ _ _ hp.2.2 (lv_sub hl [2, 6] rfl)
set_option maxHeartbeats 4000000 in
set_option maxRecDepth 100000 in
theorem hq_case_wouldBeOn (C0 : hq_C p s m args meth c D1 D2 K z s1 s2 b L xs cJ A) (hfl : l.stackTraces = false) (hp : hq_W D1 D2 K ad a z o cJ A s.heap H locs) (hL : L = 7) (hl : lv_has ls 9 [(4, .int 0), (3, .ref o), (2, .ref (a 0)), (1, .ref (ad 0)), (0, .ref b)])
    (kk : ∀ (H : Heap) (locs : List Loc) (ls : Array Slot), va_S A s.heap H locs → lv_has ls 9 [(4, .int 0), (0, .ref b)] → W p l e room_1 s m args below meth c H locs 1000 5000 Q (F0 m 1636 ls [])) : W p l e room_1 s m args below meth c H locs 197 2214 Q (F0 m 1486 ls []) := by
  obtain ⟨hx, hb, hml, hown, hts, hK1, hJ1, hK2, hJ2, hA, hN, hV, hZ, hX, hbl, hbA⟩ := id C0
  refine lv_aload_n hx hb dL_law_1486 rfl (lv_at hl 3 rfl) ?_
  refine lv_aload_n hx hb dL_law_1487 rfl (lv_at hl 4 rfl) ?_
  refine lv_iload hx hb dL_law_1488 (lv_at hl 0 rfl) ?_
  refine lv_iconst (v := 1) hx hb dL_law_1490 (by decide) ?_
  refine lv_iadd hx hb dL_law_1491 ?_
  refine hq_arg (k := 1) C0 hp.2.2.2 (by decide) (by omega) dL_law_1492 ?_
  refine lv_aload_n hx hb dL_law_1493 rfl (lv_at hl 4 rfl) ?_
  refine lv_iload hx hb dL_law_1494 (lv_at hl 0 rfl) ?_
  refine lv_iconst (v := 2) hx hb dL_law_1496 (by decide) ?_
  refine lv_iadd hx hb dL_law_1497 ?_
  refine hq_arg (k := 2) C0 hp.2.2.2 (by decide) (by omega) dL_law_1498 ?_
  refine lv_aload_n hx hb dL_law_1499 rfl (lv_at hl 1 rfl) ?_
  refine hq_c1 C0 hp (As := [.ref (ad 0), .int (xs 1), .int (xs 2), .ref o]) (rest := []) (n := 4) (hy_wouldBeOn_1 l hfl D1 K ad s1 s2 o (xs 1) (xs 2)) (hq_gS rfl hq_127 hq_128 hq_129) ⟨rfl, rfl⟩ (by decide +kernel) ⟨Nat.le_of_ble_eq_true rfl, Nat.le_of_ble_eq_true rfl⟩ ⟨Nat.le_of_ble_eq_true rfl, Nat.le_of_ble_eq_true rfl⟩ hl.1 rfl rfl (Nat.le_of_ble_eq_true rfl) dL_law_1500 (fun H locs hp => ?_)
  refine lv_istore (lv' := [(5, .int 1), (4, .int 0), (3, .ref o), (2, .ref (a 0)), (1, .ref (ad 0)), (0, .ref b)]) hx hb dL_law_1503 hl (by decide) rfl (fun ls hl => ?_)
  refine lv_aload_n hx hb dL_law_1505 rfl (lv_at hl 3 rfl) ?_
  refine lv_aload_n hx hb dL_law_1506 rfl (lv_at hl 5 rfl) ?_
  refine lv_iload hx hb dL_law_1507 (lv_at hl 1 rfl) ?_
  refine lv_iconst (v := 1) hx hb dL_law_1509 (by decide) ?_
  refine lv_iadd hx hb dL_law_1510 ?_
  refine hq_arg (k := 1) C0 hp.2.2 (by decide) (by omega) dL_law_1511 ?_
  refine lv_aload_n hx hb dL_law_1512 rfl (lv_at hl 5 rfl) ?_
  refine lv_iload hx hb dL_law_1513 (lv_at hl 1 rfl) ?_
  refine lv_iconst (v := 2) hx hb dL_law_1515 (by decide) ?_
  refine lv_iadd hx hb dL_law_1516 ?_
  refine hq_arg (k := 2) C0 hp.2.2 (by decide) (by omega) dL_law_1517 ?_
  refine hq_ri (q0 := 0) (As := [.int (xs 1), .int (xs 2)]) (rest := []) (n := 2) C0 hp (hq_R o cJ (fun _ => 0)) (hr_X12_wouldBeOn l D2 a z 0 0 (xs 1) (xs 2)) rfl rfl (hq_gV hq_130 hq_131 hq_132 hw_298) ⟨rfl, rfl⟩ (by decide +kernel) ⟨Nat.le_of_ble_eq_true rfl, Nat.le_of_ble_eq_true rfl⟩ ⟨Nat.le_of_ble_eq_true rfl, Nat.le_of_ble_eq_true rfl⟩ hl.1 rfl rfl (Nat.le_of_ble_eq_true rfl) dL_law_1518 (fun q u H locs hv hp => ?_)
  have hq9 : q = 0 := hv
  subst hq9
  have hp : hr_H D2 A s.heap (hq_O a 1 ++ (hq_T a z 0 ++ hq_R o cJ (fun _ => 0))) H locs := hp
  refine lv_istore (lv' := [(6, .int 0), (5, .int 1), (4, .int 0), (3, .ref o), (2, .ref (a 0)), (1, .ref (ad 0)), (0, .ref b)]) hx hb dL_law_1521 hl (by decide) rfl (fun ls hl => ?_)
  refine lv_aload_n hx hb dL_law_1523 rfl (lv_at hl 4 rfl) ?_
  refine hq_th (rest := []) (th := 1) (v1 := .ref (a 1)) (v2 := .int 0) (v3 := .int 0) C0 _ hp ⟨Nat.le_of_ble_eq_true rfl, Nat.le_of_ble_eq_true rfl⟩ ⟨Nat.le_of_ble_eq_true rfl, Nat.le_of_ble_eq_true rfl⟩ hl.1 (Nat.le_of_ble_eq_true rfl) dL_law_1524 (fun H locs hp => ?_)
  refine lv_iload hx hb dL_law_1527 (lv_at hl 1 rfl) ?_
  refine lv_icmp_eq (tgt := 1534) hx hb dL_law_1529 (by decide) (fun _ => ?_) (fun h => absurd rfl h)
  refine lv_iload hx hb dL_law_1534 (lv_at hl 1 rfl) ?_
  refine lv_if_ne (tgt := 1551) hx hb dL_law_1536 (by decide) (fun _ => ?_) (fun h => absurd h (by decide))
  refine lv_goto (tgt := 1636) hx hb dL_law_1551 (by decide) ?_
  refine W.widen (k := 1000) (n := 5000) (Nat.le_of_ble_eq_true rfl) (Nat.le_of_ble_eq_true rfl) ?_
  exact kk _ _ _ hp.2.2 (lv_sub hl [2, 6] rfl)
set_option maxHeartbeats 4000000 in
set_option maxRecDepth 100000 in
theorem hq_case_bestPlace (C0 : hq_C p s m args meth c D1 D2 K z s1 s2 b L xs cJ A) (hfl : l.stackTraces = false) (hp : hq_W D1 D2 K ad a z o cJ A s.heap H locs) (hL : L = 7) (hl : lv_has ls 9 [(4, .int 0), (3, .ref o), (2, .ref (a 0)), (1, .ref (ad 0)), (0, .ref b)])
    (kk : ∀ (H : Heap) (locs : List Loc) (ls : Array Slot), va_S A s.heap H locs → lv_has ls 9 [(4, .int 0), (0, .ref b)] → W p l e room_1 s m args below meth c H locs 1000 5000 Q (F0 m 1636 ls [])) : W p l e room_1 s m args below meth c H locs 197 2214 Q (F0 m 1554 ls []) := by
  obtain ⟨hx, hb, hml, hown, hts, hK1, hJ1, hK2, hJ2, hA, hN, hV, hZ, hX, hbl, hbA⟩ := id C0
  rcases Classical.em (hv_bestPlace (xs 1) (xs 2)) with hvd | hvd
  · refine lv_aload_n hx hb dL_law_1554 rfl (lv_at hl 3 rfl) ?_
    refine lv_aload_n hx hb dL_law_1555 rfl (lv_at hl 4 rfl) ?_
    refine lv_iload hx hb dL_law_1556 (lv_at hl 0 rfl) ?_
    refine lv_iconst (v := 1) hx hb dL_law_1558 (by decide) ?_
    refine lv_iadd hx hb dL_law_1559 ?_
    refine hq_arg (k := 1) C0 hp.2.2.2 (by decide) (by omega) dL_law_1560 ?_
    refine lv_aload_n hx hb dL_law_1561 rfl (lv_at hl 4 rfl) ?_
    refine lv_iload hx hb dL_law_1562 (lv_at hl 0 rfl) ?_
    refine lv_iconst (v := 2) hx hb dL_law_1564 (by decide) ?_
    refine lv_iadd hx hb dL_law_1565 ?_
    refine hq_arg (k := 2) C0 hp.2.2.2 (by decide) (by omega) dL_law_1566 ?_
    refine lv_aload_n hx hb dL_law_1567 rfl (lv_at hl 1 rfl) ?_
    refine hq_c0 C0 hp (As := [.ref (ad 0), .int (xs 1), .int (xs 2), .ref o]) (rest := []) (n := 4) (hy_bestPlace_0 l D1 K ad o cJ (xs 1) (xs 2) hvd) (hq_gS rfl hq_133 hq_134 hq_135) ⟨rfl, rfl⟩ (by decide +kernel) ⟨Nat.le_of_ble_eq_true rfl, Nat.le_of_ble_eq_true rfl⟩ ⟨Nat.le_of_ble_eq_true rfl, Nat.le_of_ble_eq_true rfl⟩ hl.1 rfl rfl (Nat.le_of_ble_eq_true rfl) dL_law_1568 (fun H locs hp => ?_)
    refine lv_istore (lv' := [(5, .int 0), (4, .int 0), (3, .ref o), (2, .ref (a 0)), (1, .ref (ad 0)), (0, .ref b)]) hx hb dL_law_1571 hl (by decide) rfl (fun ls hl => ?_)
    refine lv_aload_n hx hb dL_law_1573 rfl (lv_at hl 3 rfl) ?_
    refine lv_aload_n hx hb dL_law_1574 rfl (lv_at hl 5 rfl) ?_
    refine lv_iload hx hb dL_law_1575 (lv_at hl 1 rfl) ?_
    refine lv_iconst (v := 1) hx hb dL_law_1577 (by decide) ?_
    refine lv_iadd hx hb dL_law_1578 ?_
    refine hq_arg (k := 1) C0 hp.2.2 (by decide) (by omega) dL_law_1579 ?_
    refine lv_aload_n hx hb dL_law_1580 rfl (lv_at hl 5 rfl) ?_
    refine lv_iload hx hb dL_law_1581 (lv_at hl 1 rfl) ?_
    refine lv_iconst (v := 2) hx hb dL_law_1583 (by decide) ?_
    refine lv_iadd hx hb dL_law_1584 ?_
    refine hq_arg (k := 2) C0 hp.2.2 (by decide) (by omega) dL_law_1585 ?_
    refine hq_ri (q0 := 0) (As := [.int (xs 1), .int (xs 2)]) (rest := []) (n := 2) C0 hp (hq_R o cJ (fun _ => (hr_bf (xs 1)).toInt64)) (hr_bestPlace_y l D2 a z 0 0 (xs 1) (xs 2) hvd) rfl rfl (hq_gV hq_136 hq_137 hq_138 hw_310) ⟨rfl, rfl⟩ (by decide +kernel) ⟨Nat.le_of_ble_eq_true rfl, Nat.le_of_ble_eq_true rfl⟩ ⟨Nat.le_of_ble_eq_true rfl, Nat.le_of_ble_eq_true rfl⟩ hl.1 rfl rfl (Nat.le_of_ble_eq_true rfl) dL_law_1586 (fun q u H locs hv hp => ?_)
    have hq9 : q = (hr_bf (xs 1)) := hv
    subst hq9
    have hp : hr_H D2 A s.heap (hq_O a 0 ++ (hq_T a z 0 ++ hq_R o cJ (fun _ => (hr_bf (xs 1)).toInt64))) H locs := hp
    refine lv_istore (lv' := [(6, .int (hr_bf (xs 1))), (5, .int 0), (4, .int 0), (3, .ref o), (2, .ref (a 0)), (1, .ref (ad 0)), (0, .ref b)]) hx hb dL_law_1589 hl (by decide) rfl (fun ls hl => ?_)
    refine lv_aload_n hx hb dL_law_1591 rfl (lv_at hl 4 rfl) ?_
    refine hq_th (rest := []) (th := 0) (v1 := .ref (a 1)) (v2 := .int 0) (v3 := .int 0) C0 _ hp ⟨Nat.le_of_ble_eq_true rfl, Nat.le_of_ble_eq_true rfl⟩ ⟨Nat.le_of_ble_eq_true rfl, Nat.le_of_ble_eq_true rfl⟩ hl.1 (Nat.le_of_ble_eq_true rfl) dL_law_1592 (fun H locs hp => ?_)
    refine lv_iload hx hb dL_law_1595 (lv_at hl 1 rfl) ?_
    refine lv_icmp_eq (tgt := 1602) hx hb dL_law_1597 (by decide) (fun _ => ?_) (fun h => absurd rfl h)
    refine lv_iload hx hb dL_law_1602 (lv_at hl 1 rfl) ?_
    refine lv_if_ne (tgt := 1619) hx hb dL_law_1604 (by decide) (fun h => absurd rfl h) (fun _ => ?_)
    refine lv_aload_n hx hb dL_law_1607 rfl (lv_at hl 3 rfl) ?_
    refine lv_iconst (v := 0) hx hb dL_law_1608 (by decide) ?_
    have hp : hr_H D2 A s.heap ((hq_O a 0 ++ hq_T a z 0) ++ hq_R o cJ (fun _ => (hr_bf (xs 1)).toInt64)) H locs := hp
    refine hq_ll C0 hp dL_law_1609 ?_
    refine lv_iload hx hb dL_law_1610 (lv_at hl 0 rfl) ?_
    refine lv_i2l (v := (hr_bf (xs 1)).toInt64) hx hb dL_law_1612 rfl ?_
    refine hq_lcmp C0 rfl dL_law_1613 ?_
    refine lv_if_eq (tgt := 1619) hx hb dL_law_1614 (by decide) (fun _ => ?_) (fun h => absurd rfl h)
    refine lv_goto (tgt := 1636) hx hb dL_law_1619 (by decide) ?_
    refine W.widen (k := 1000) (n := 5000) (Nat.le_of_ble_eq_true rfl) (Nat.le_of_ble_eq_true rfl) ?_
    exact kk _ _ _ hp.2.2 (lv_sub hl [2, 6] rfl)
  · refine lv_aload_n hx hb dL_law_1554 rfl (lv_at hl 3 rfl) ?_
    refine lv_aload_n hx hb dL_law_1555 rfl (lv_at hl 4 rfl) ?_
    refine lv_iload hx hb dL_law_1556 (lv_at hl 0 rfl) ?_
    refine lv_iconst (v := 1) hx hb dL_law_1558 (by decide) ?_
    refine lv_iadd hx hb dL_law_1559 ?_
    refine hq_arg (k := 1) C0 hp.2.2.2 (by decide) (by omega) dL_law_1560 ?_
    refine lv_aload_n hx hb dL_law_1561 rfl (lv_at hl 4 rfl) ?_
    refine lv_iload hx hb dL_law_1562 (lv_at hl 0 rfl) ?_
    refine lv_iconst (v := 2) hx hb dL_law_1564 (by decide) ?_
    refine lv_iadd hx hb dL_law_1565 ?_
    refine hq_arg (k := 2) C0 hp.2.2.2 (by decide) (by omega) dL_law_1566 ?_
    refine lv_aload_n hx hb dL_law_1567 rfl (lv_at hl 1 rfl) ?_
    refine hq_c1 C0 hp (As := [.ref (ad 0), .int (xs 1), .int (xs 2), .ref o]) (rest := []) (n := 4) (hy_bestPlace_1 l hfl D1 K ad s1 s2 o (xs 1) (xs 2) hvd) (hq_gS rfl hq_133 hq_134 hq_135) ⟨rfl, rfl⟩ (by decide +kernel) ⟨Nat.le_of_ble_eq_true rfl, Nat.le_of_ble_eq_true rfl⟩ ⟨Nat.le_of_ble_eq_true rfl, Nat.le_of_ble_eq_true rfl⟩ hl.1 rfl rfl (Nat.le_of_ble_eq_true rfl) dL_law_1568 (fun H locs hp => ?_)
    refine lv_istore (lv' := [(5, .int 1), (4, .int 0), (3, .ref o), (2, .ref (a 0)), (1, .ref (ad 0)), (0, .ref b)]) hx hb dL_law_1571 hl (by decide) rfl (fun ls hl => ?_)
    refine lv_aload_n hx hb dL_law_1573 rfl (lv_at hl 3 rfl) ?_
    refine lv_aload_n hx hb dL_law_1574 rfl (lv_at hl 5 rfl) ?_
    refine lv_iload hx hb dL_law_1575 (lv_at hl 1 rfl) ?_
    refine lv_iconst (v := 1) hx hb dL_law_1577 (by decide) ?_
    refine lv_iadd hx hb dL_law_1578 ?_
    refine hq_arg (k := 1) C0 hp.2.2 (by decide) (by omega) dL_law_1579 ?_
    refine lv_aload_n hx hb dL_law_1580 rfl (lv_at hl 5 rfl) ?_
    refine lv_iload hx hb dL_law_1581 (lv_at hl 1 rfl) ?_
    refine lv_iconst (v := 2) hx hb dL_law_1583 (by decide) ?_
    refine lv_iadd hx hb dL_law_1584 ?_
    refine hq_arg (k := 2) C0 hp.2.2 (by decide) (by omega) dL_law_1585 ?_
    refine hq_ri (q0 := 0) (As := [.int (xs 1), .int (xs 2)]) (rest := []) (n := 2) C0 hp (hq_R o cJ (fun _ => 0)) (hr_bestPlace_n l D2 a z 0 0 (xs 1) (xs 2) hvd) rfl rfl (hq_gV hq_136 hq_137 hq_138 hw_310) ⟨rfl, rfl⟩ (by decide +kernel) ⟨Nat.le_of_ble_eq_true rfl, Nat.le_of_ble_eq_true rfl⟩ ⟨Nat.le_of_ble_eq_true rfl, Nat.le_of_ble_eq_true rfl⟩ hl.1 rfl rfl (Nat.le_of_ble_eq_true rfl) dL_law_1586 (fun q u H locs hv hp => ?_)
    have hq9 : q = 0 := hv
    subst hq9
    have hp : hr_H D2 A s.heap (hq_O a 1 ++ (hq_T a z 0 ++ hq_R o cJ (fun _ => 0))) H locs := hp
    refine lv_istore (lv' := [(6, .int 0), (5, .int 1), (4, .int 0), (3, .ref o), (2, .ref (a 0)), (1, .ref (ad 0)), (0, .ref b)]) hx hb dL_law_1589 hl (by decide) rfl (fun ls hl => ?_)
    refine lv_aload_n hx hb dL_law_1591 rfl (lv_at hl 4 rfl) ?_
    refine hq_th (rest := []) (th := 1) (v1 := .ref (a 1)) (v2 := .int 0) (v3 := .int 0) C0 _ hp ⟨Nat.le_of_ble_eq_true rfl, Nat.le_of_ble_eq_true rfl⟩ ⟨Nat.le_of_ble_eq_true rfl, Nat.le_of_ble_eq_true rfl⟩ hl.1 (Nat.le_of_ble_eq_true rfl) dL_law_1592 (fun H locs hp => ?_)
    refine lv_iload hx hb dL_law_1595 (lv_at hl 1 rfl) ?_
    refine lv_icmp_eq (tgt := 1602) hx hb dL_law_1597 (by decide) (fun _ => ?_) (fun h => absurd rfl h)
    refine lv_iload hx hb dL_law_1602 (lv_at hl 1 rfl) ?_
    refine lv_if_ne (tgt := 1619) hx hb dL_law_1604 (by decide) (fun _ => ?_) (fun h => absurd h (by decide))
    refine lv_goto (tgt := 1636) hx hb dL_law_1619 (by decide) ?_
    refine W.widen (k := 1000) (n := 5000) (Nat.le_of_ble_eq_true rfl) (Nat.le_of_ble_eq_true rfl) ?_
    exact kk _ _ _ hp.2.2 (lv_sub hl [2, 6] rfl)
set_option maxHeartbeats 4000000 in
set_option maxRecDepth 100000 in
theorem hq_case_digest (C0 : hq_C p s m args meth c D1 D2 K z s1 s2 b L xs cJ A) (hfl : l.stackTraces = false) (hp : hq_W D1 D2 K ad a z o cJ A s.heap H locs) (hL : L = 7) (hl : lv_has ls 9 [(4, .int 0), (3, .ref o), (2, .ref (a 0)), (1, .ref (ad 0)), (0, .ref b)])
    (kk : ∀ (H : Heap) (locs : List Loc) (ls : Array Slot), va_S A s.heap H locs → lv_has ls 9 [(4, .int 0), (0, .ref b)] → W p l e room_1 s m args below meth c H locs 1000 5000 Q (F0 m 1636 ls [])) : W p l e room_1 s m args below meth c H locs 197 2214 Q (F0 m 1622 ls []) := by
  obtain ⟨hx, hb, hml, hown, hts, hK1, hJ1, hK2, hJ2, hA, hN, hV, hZ, hX, hbl, hbA⟩ := id C0
  refine lv_aload_n hx hb dL_law_1622 rfl (lv_at hl 3 rfl) ?_
  refine hq_xl C0 hp (As := []) (rest := []) (n := 0) (hk_X7_digest l D1 K ad hn_T0 (Nat.le_refl 0)) (hq_gW hq_139 hq_140 hq_141 hm_445) ⟨rfl, rfl⟩ (by decide +kernel) ⟨Nat.le_of_ble_eq_true rfl, Nat.le_of_ble_eq_true rfl⟩ ⟨Nat.le_of_ble_eq_true rfl, Nat.le_of_ble_eq_true rfl⟩ hl.1 rfl rfl (Nat.le_of_ble_eq_true rfl) dL_law_1623 (fun q v1 H locs hv hp => ?_)
  have hq9 : q = hr_dg := (congrArg Prod.fst hv.1).trans he_digest
  subst hq9
  refine lv_aload_n hx hb dL_law_1626 rfl (lv_at hl 2 rfl) ?_
  refine hq_rl (q0 := 0) (As := []) (rest := [.long hr_dg]) (n := 0) C0 hp (hq_R o cJ (fun _ => 0)) (hr_X12_digest l D2 a z 0) rfl rfl (hq_gV hq_142 hq_143 hq_144 hw_316) ⟨rfl, rfl⟩ (by decide +kernel) ⟨Nat.le_of_ble_eq_true rfl, Nat.le_of_ble_eq_true rfl⟩ ⟨Nat.le_of_ble_eq_true rfl, Nat.le_of_ble_eq_true rfl⟩ hl.1 rfl rfl (Nat.le_of_ble_eq_true rfl) dL_law_1627 (fun q u H locs hv hp => ?_)
  have hq9 : q = hr_dg := hv
  subst hq9
  refine hq_lcmp C0 rfl dL_law_1630 ?_
  refine lv_if_eq (tgt := 1636) hx hb dL_law_1631 (by decide) (fun _ => ?_) (fun h => absurd rfl h)
  refine W.widen (k := 1000) (n := 5000) (Nat.le_of_ble_eq_true rfl) (Nat.le_of_ble_eq_true rfl) ?_
  exact kk _ _ _ hp.2.2 (lv_sub hl [0, 4] rfl)
end HQ2

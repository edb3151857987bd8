/-! THE LAW: two masts, then 164 checksums (wip/gen/mkz84.py) -/
def hz_room : Room := { frames := 12, cells := 803144, slots := 6701483, locals := 466 }
/-- how the run ends: with 0, or behind 802944 new cells at least -/
def hz_Q : Array Value → State → Outcome → State → Prop := fun _ st oc t => ∃ r : Int32, oc = .returned (some (.int r)) ∧ (False ∨ st.heap.size + 802944 ≤ t.heap.size)
/-- the script: two masts (place 0, power 60, frequencies 0 and 2), then 164 checksums -/
def hz_h : Nat → Int32 := fun k => match k with
  | 2 => 60
  | 4 => 1
  | 9 => 60
  | 10 => 2
  | 11 => 1
  | _ => 0
section HZW
variable {p : Program} {l : Launch} {e : Env} {s : State} {m : MethodId} {args : Array Value} {below : List Frame} {meth : Method} {c : Code} {H : Heap} {locs : List Loc} {cells slots : Nat}
variable {pc : Nat} {ls : Array Slot} {D1 D2 : va_G} {K : Nat → ClassId} {ad a : Nat → Nat} {A : Nat → Prop} {z o b : Nat} {xs : Nat → Int32} {cJ cO : ClassId} {v : hh_M} {g : Nat → Int64}
theorem hz_ret1 (hx : p.tables.exec = Jvm.exec) (hb : c.code = cL_law) (hr : meth.sig.returnType = some .boolean) (hlk : meth.locks = false) (hS : va_S A s.heap H locs) (hz : s.heap.size + 802944 ≤ H.size) (hc : cells ≤ 803144 ∧ slots ≤ 3260102) (hdg : decode cL_law pc = .ok (.ireturn, 1)) : W p l e hz_room s m args below meth c H locs cells slots (MQ below hz_Q args s 803144 3260102 A) (F0 m pc ls [.int 1]) := by
  refine W.widen (k := 803144) (n := 3260102) hc.1 hc.2 ?_
  exact W.zret hx hb hr rfl (fun t ht hW => ⟨1, rfl, Or.inr (by rw [ht]; exact hz)⟩) hS.2.2 hdg hlk
set_option maxHeartbeats 4000000 in
set_option maxRecDepth 100000 in
/-- the checksums -/
theorem hz_loop (C0 : hz_C p s m args c D1 D2 K z b 1162 xs cJ cO A) (hr : meth.sig.returnType = some .boolean) (hlk : meth.locks = false) (hxs : ∀ j : Nat, 2 ≤ j → j < 166 → xs (7 * j) = 22) : ∀ (n j : Nat) (v : hh_M) (g : Nat → Int64) (H : Heap) (locs : List Loc) (ls : Array Slot), j ≤ 164 → 164 - j < n → hh_TT 2 0 0 v → s.heap.size + 4896 * j ≤ H.size → hz_W D1 D2 K ad v (hs_Y a z cO hz_pp 0) o cJ g A s.heap H locs → lv_has ls 9 [(4, .int (nI (7 * (j + 2)))), (3, .ref o), (2, .ref (a 0)), (1, .ref (ad 0)), (0, .ref b)] → W p l e hz_room s m args below meth c H locs (200 + 4896 * j) (2242 + 19865 * j) (MQ below hz_Q args s 803144 3260102 A) (F0 m 23 ls []) := by
  obtain ⟨hx, hb, hml, hown, hts, hK1, hJ1, hK2, hA, hN, hX, hbl, hbA⟩ := id C0
  intro n
  induction n with
  | zero => intro j v g H locs ls h1 h2; omega
  | succ n ih =>
  intro j v g H locs ls hj hn hT hz hp hl
  refine lv_iload hx hb dL_law_23 (lv_at hl 0 rfl) ?_
  refine lv_aload_n hx hb dL_law_25 rfl (lv_at hl 4 rfl) ?_
  refine va_slen hx hb hX hbl hbA hp.2.2.2 dL_law_26 ?_
  refine lv_bipush (v := 7) hx hb dL_law_27 (by decide) ?_
  refine lv_isub hx hb dL_law_29 ?_
  rw [show Int32.ofNat 1162 - 7 = nI 1155 from by decide]
  refine lv_icmp_gt (tgt := 1069) hx hb dL_law_30 (by decide) (fun h9 => ?_) (fun h9 => ?_)
  · have h8 : 1155 < 7 * (j + 2) := (nI_ltI (by decide) (by omega)).mp h9
    have hj9 : j = 164 := by omega
    subst hj9
    refine lv_iconst (v := 1) hx hb dL_law_1069 (by decide) ?_
    exact hz_ret1 hx hb hr hlk hp.2.2.2 hz ⟨Nat.le_of_ble_eq_true rfl, Nat.le_of_ble_eq_true rfl⟩ dL_law_1070
  have h8 : ¬ 1155 < 7 * (j + 2) := fun q => h9 ((nI_ltI (by decide) (by omega)).mpr q)
  refine lv_aload_n hx hb dL_law_33 rfl (lv_at hl 4 rfl) ?_
  refine lv_iload hx hb dL_law_34 (lv_at hl 0 rfl) ?_
  refine hz_arg C0 hp.2.2.2 (k := 7 * (j + 2)) (by omega) (by omega) dL_law_36 ?_
  rw [hxs (j + 2) (by omega) (by omega)]
  refine lv_bipush (v := 31) hx hb dL_law_37 (by decide) ?_
  refine lv_iand hx hb dL_law_39 ?_
  rw [show (22 : Int32) &&& 31 = 22 from by decide]
  refine lv_tableIn (off := 1010) (tgt := 1050) hx hb dL_law_40 (by decide) (by decide) rfl (by decide) ?_
  refine lv_aload_n hx hb dL_law_1050 rfl (lv_at hl 3 rfl) ?_
  refine hz_cd C0 hp hT ⟨Nat.le_of_ble_eq_true rfl, Nat.le_of_ble_eq_true rfl⟩ ⟨by show _ ≤ 803144; omega, by show _ ≤ 6701483; omega⟩ hl.1 dL_law_1051 (fun q1 v1 H1 locs1 hT1 hz1 hp1 => ?_)
  refine lv_pop2_2 hx hb dL_law_1054 rfl ?_
  refine lv_aload_n hx hb dL_law_1055 rfl (lv_at hl 2 rfl) ?_
  refine hz_rl (q0 := 0) (b0 := a 0) (As := []) (rest := []) (n := 0) C0 hp1 (hs_digest l D2 a z cO hz_pp 0) rfl (hz_gV hz_13 hz_14 hz_15 hw_233) ⟨rfl, rfl⟩ (by decide +kernel) ⟨Nat.le_of_ble_eq_true rfl, Nat.le_of_ble_eq_true rfl⟩ ⟨by show _ ≤ 803144; omega, by show _ ≤ 6701483; omega⟩ hl.1 rfl rfl (Nat.le_of_ble_eq_true rfl) dL_law_1056 (fun q2 u H2 locs2 hv2 hz2 hp2 => ?_)
  refine lv_pop2_2 hx hb dL_law_1059 rfl ?_
  refine lv_goto (tgt := 1063) hx hb dL_law_1060 (by decide) ?_
  refine lv_iinc (v := nI (7 * (j + 1 + 2))) (lv' := [(4, .int (nI (7 * (j + 1 + 2)))), (3, .ref o), (2, .ref (a 0)), (1, .ref (ad 0)), (0, .ref b)]) hx hb dL_law_1063 hl (k := 0) rfl ((nI_add (7 * (j + 2)) 7).trans (congrArg nI (by omega))) (by decide) rfl (fun ls hl => ?_)
  refine lv_goto (tgt := 23) hx hb dL_law_1066 (by decide) ?_
  refine W.widen (k := 200 + 4896 * (j + 1)) (n := 2242 + 19865 * (j + 1)) (by omega) (by omega) ?_
  exact ih (j + 1) v1 g H2 locs2 ls (by omega) (by omega) hT1 (by omega) hp2 hl
set_option maxHeartbeats 4000000 in
set_option maxRecDepth 100000 in
theorem hz_second (C0 : hz_C p s m args c D1 D2 K z b 1162 xs cJ cO A) (hr : meth.sig.returnType = some .boolean) (hlk : meth.locks = false) (hxm : ∀ k : Nat, k < 14 → xs k = hz_h k) (hxs : ∀ j : Nat, 2 ≤ j → j < 166 → xs (7 * j) = 22) {r m1 : Nat} (hT : hh_T 1 (fun _ => 0) (fun _ => 0) v) (hp : hz_W D1 D2 K ad v (hz_Y1 a z r m1 cO 0) o cJ g A s.heap H locs) (hl : lv_has ls 9 [(4, .int (nI 7)), (3, .ref o), (2, .ref (a 0)), (1, .ref (ad 0)), (0, .ref b)]) : W p l e hz_room s m args below meth c H locs 199 2233 (MQ below hz_Q args s 803144 3260102 A) (F0 m 23 ls []) := by
  obtain ⟨hx, hb, hml, hown, hts, hK1, hJ1, hK2, hA, hN, hX, hbl, hbA⟩ := id C0
  refine lv_iload hx hb dL_law_23 (lv_at hl 0 rfl) ?_
  refine lv_aload_n hx hb dL_law_25 rfl (lv_at hl 4 rfl) ?_
  refine va_slen hx hb hX hbl hbA hp.2.2.2 dL_law_26 ?_
  refine lv_bipush (v := 7) hx hb dL_law_27 (by decide) ?_
  refine lv_isub hx hb dL_law_29 ?_
  refine lv_icmp_gt (tgt := 1069) hx hb dL_law_30 (by decide) (fun h9 => absurd h9 (by decide)) (fun _ => ?_)
  refine lv_aload_n hx hb dL_law_33 rfl (lv_at hl 4 rfl) ?_
  refine lv_iload hx hb dL_law_34 (lv_at hl 0 rfl) ?_
  refine hz_arg C0 hp.2.2.2 (k := 7) (by decide) (by decide) dL_law_36 ?_
  rw [show xs 7 = 0 from hxm 7 (by decide)]
  refine lv_bipush (v := 31) hx hb dL_law_37 (by decide) ?_
  refine lv_iand hx hb dL_law_39 ?_
  rw [show (0 : Int32) &&& 31 = 0 from by decide]
  refine lv_tableIn (off := 108) (tgt := 148) hx hb dL_law_40 (by decide) (by decide) rfl (by decide) ?_
  refine lv_aload_n hx hb dL_law_148 rfl (lv_at hl 3 rfl) ?_
  refine lv_aload_n hx hb dL_law_149 rfl (lv_at hl 4 rfl) ?_
  refine lv_iload hx hb dL_law_150 (lv_at hl 0 rfl) ?_
  refine lv_iconst (v := 1) hx hb dL_law_152 (by decide) ?_
  refine lv_iadd hx hb dL_law_153 ?_
  rw [show nI 7 + 1 = nI 8 from by decide]
  refine hz_arg C0 hp.2.2.2 (k := 8) (by decide) (by decide) dL_law_154 ?_
  rw [show xs 8 = 0 from hxm 8 (by decide)]
  refine lv_aload_n hx hb dL_law_155 rfl (lv_at hl 4 rfl) ?_
  refine lv_iload hx hb dL_law_156 (lv_at hl 0 rfl) ?_
  refine lv_iconst (v := 2) hx hb dL_law_158 (by decide) ?_
  refine lv_iadd hx hb dL_law_159 ?_
  rw [show nI 7 + 2 = nI 9 from by decide]
  refine hz_arg C0 hp.2.2.2 (k := 9) (by decide) (by decide) dL_law_160 ?_
  rw [show xs 9 = 60 from hxm 9 (by decide)]
  refine lv_aload_n hx hb dL_law_161 rfl (lv_at hl 4 rfl) ?_
  refine lv_iload hx hb dL_law_162 (lv_at hl 0 rfl) ?_
  refine lv_iconst (v := 3) hx hb dL_law_164 (by decide) ?_
  refine lv_iadd hx hb dL_law_165 ?_
  rw [show nI 7 + 3 = nI 10 from by decide]
  refine hz_arg C0 hp.2.2.2 (k := 10) (by decide) (by decide) dL_law_166 ?_
  rw [show xs 10 = 2 from hxm 10 (by decide)]
  refine lv_aload_n hx hb dL_law_167 rfl (lv_at hl 4 rfl) ?_
  refine lv_iload hx hb dL_law_168 (lv_at hl 0 rfl) ?_
  refine lv_iconst (v := 4) hx hb dL_law_170 (by decide) ?_
  refine lv_iadd hx hb dL_law_171 ?_
  rw [show nI 7 + 4 = nI 11 from by decide]
  refine hz_arg C0 hp.2.2.2 (k := 11) (by decide) (by decide) dL_law_172 ?_
  rw [show xs 11 = 1 from hxm 11 (by decide)]
  refine lv_aload_n hx hb dL_law_173 rfl (lv_at hl 4 rfl) ?_
  refine lv_iload hx hb dL_law_174 (lv_at hl 0 rfl) ?_
  refine lv_iconst (v := 5) hx hb dL_law_176 (by decide) ?_
  refine lv_iadd hx hb dL_law_177 ?_
  rw [show nI 7 + 5 = nI 12 from by decide]
  refine hz_arg C0 hp.2.2.2 (k := 12) (by decide) (by decide) dL_law_178 ?_
  rw [show xs 12 = 0 from hxm 12 (by decide)]
  refine lv_aload_n hx hb dL_law_179 rfl (lv_at hl 4 rfl) ?_
  refine lv_iload hx hb dL_law_180 (lv_at hl 0 rfl) ?_
  refine lv_bipush (v := 6) hx hb dL_law_182 (by decide) ?_
  refine lv_iadd hx hb dL_law_184 ?_
  rw [show nI 7 + 6 = nI 13 from by decide]
  refine hz_arg C0 hp.2.2.2 (k := 13) (by decide) (by decide) dL_law_185 ?_
  rw [show xs 13 = 0 from hxm 13 (by decide)]
  refine lv_aload_n hx hb dL_law_186 rfl (lv_at hl 1 rfl) ?_
  refine hz_cm C0 hp hT (by decide) (by decide) (by decide) ⟨Nat.le_of_ble_eq_true rfl, Nat.le_of_ble_eq_true rfl⟩ ⟨Nat.le_of_ble_eq_true rfl, Nat.le_of_ble_eq_true rfl⟩ hl.1 dL_law_187 (fun q5 v g H locs hT hz1 hp => ?_)
  refine lv_istore (lv' := [(5, .int q5), (4, .int (nI 7)), (3, .ref o), (2, .ref (a 0)), (1, .ref (ad 0)), (0, .ref b)]) hx hb dL_law_190 hl (by decide) rfl (fun ls hl => ?_)
  refine lv_aload_n hx hb dL_law_192 rfl (lv_at hl 3 rfl) ?_
  refine lv_aload_n hx hb dL_law_193 rfl (lv_at hl 5 rfl) ?_
  refine lv_iload hx hb dL_law_194 (lv_at hl 1 rfl) ?_
  refine lv_iconst (v := 1) hx hb dL_law_196 (by decide) ?_
  refine lv_iadd hx hb dL_law_197 ?_
  rw [show nI 7 + 1 = nI 8 from by decide]
  refine hz_arg C0 hp.2.2.2 (k := 8) (by decide) (by decide) dL_law_198 ?_
  rw [show xs 8 = 0 from hxm 8 (by decide)]
  refine lv_aload_n hx hb dL_law_199 rfl (lv_at hl 5 rfl) ?_
  refine lv_iload hx hb dL_law_200 (lv_at hl 1 rfl) ?_
  refine lv_iconst (v := 2) hx hb dL_law_202 (by decide) ?_
  refine lv_iadd hx hb dL_law_203 ?_
  rw [show nI 7 + 2 = nI 9 from by decide]
  refine hz_arg C0 hp.2.2.2 (k := 9) (by decide) (by decide) dL_law_204 ?_
  rw [show xs 9 = 60 from hxm 9 (by decide)]
  refine lv_aload_n hx hb dL_law_205 rfl (lv_at hl 5 rfl) ?_
  refine lv_iload hx hb dL_law_206 (lv_at hl 1 rfl) ?_
  refine lv_iconst (v := 3) hx hb dL_law_208 (by decide) ?_
  refine lv_iadd hx hb dL_law_209 ?_
  rw [show nI 7 + 3 = nI 10 from by decide]
  refine hz_arg C0 hp.2.2.2 (k := 10) (by decide) (by decide) dL_law_210 ?_
  rw [show xs 10 = 2 from hxm 10 (by decide)]
  refine lv_aload_n hx hb dL_law_211 rfl (lv_at hl 5 rfl) ?_
  refine lv_iload hx hb dL_law_212 (lv_at hl 1 rfl) ?_
  refine lv_iconst (v := 4) hx hb dL_law_214 (by decide) ?_
  refine lv_iadd hx hb dL_law_215 ?_
  rw [show nI 7 + 4 = nI 11 from by decide]
  refine hz_arg C0 hp.2.2.2 (k := 11) (by decide) (by decide) dL_law_216 ?_
  rw [show xs 11 = 1 from hxm 11 (by decide)]
  refine lv_aload_n hx hb dL_law_217 rfl (lv_at hl 5 rfl) ?_
  refine lv_iload hx hb dL_law_218 (lv_at hl 1 rfl) ?_
  refine lv_iconst (v := 5) hx hb dL_law_220 (by decide) ?_
  refine lv_iadd hx hb dL_law_221 ?_
  rw [show nI 7 + 5 = nI 12 from by decide]
  refine hz_arg C0 hp.2.2.2 (k := 12) (by decide) (by decide) dL_law_222 ?_
  rw [show xs 12 = 0 from hxm 12 (by decide)]
  refine lv_aload_n hx hb dL_law_223 rfl (lv_at hl 5 rfl) ?_
  refine lv_iload hx hb dL_law_224 (lv_at hl 1 rfl) ?_
  refine lv_bipush (v := 6) hx hb dL_law_226 (by decide) ?_
  refine lv_iadd hx hb dL_law_228 ?_
  rw [show nI 7 + 6 = nI 13 from by decide]
  refine hz_arg C0 hp.2.2.2 (k := 13) (by decide) (by decide) dL_law_229 ?_
  rw [show xs 13 = 0 from hxm 13 (by decide)]
  refine hz_ri (q0 := 0) (b0 := a 0) (As := [.int 0, .int 60, .int 2, .int 1, .int 0, .int 0]) (rest := []) (n := 6) C0 hp (hs_mast2 l D2 a z r m1 cO 0) rfl (hz_gV hz_7 hz_8 hz_9 hw_135) ⟨rfl, rfl⟩ (by decide +kernel) ⟨Nat.le_of_ble_eq_true rfl, Nat.le_of_ble_eq_true rfl⟩ ⟨Nat.le_of_ble_eq_true rfl, Nat.le_of_ble_eq_true rfl⟩ hl.1 rfl rfl (Nat.le_of_ble_eq_true rfl) dL_law_230 (fun q6 u H locs hv hz2 hp => ?_)
  refine W.widen (k := 200) (n := 2242) (by decide) (by decide) ?_
  refine lv_istore (lv' := [(6, .int q6), (5, .int q5), (4, .int (nI 7)), (3, .ref o), (2, .ref (a 0)), (1, .ref (ad 0)), (0, .ref b)]) hx hb dL_law_233 hl (by decide) rfl (fun ls hl => ?_)
  have hE : ∀ (ls : Array Slot), lv_has ls 9 [(6, .int q6), (5, .int q5), (4, .int (nI 7)), (3, .ref o), (2, .ref (a 0)), (1, .ref (ad 0)), (0, .ref b)] → W p l e hz_room s m args below meth c H locs 200 2242 (MQ below hz_Q args s 803144 3260102 A) (F0 m 235 ls []) := by
    intro ls hl
    refine lv_goto (tgt := 1063) hx hb dL_law_235 (by decide) ?_
    refine lv_iinc (v := nI 14) (lv' := [(4, .int (nI 14)), (6, .int q6), (5, .int q5), (3, .ref o), (2, .ref (a 0)), (1, .ref (ad 0)), (0, .ref b)]) hx hb dL_law_1063 hl (k := 2) rfl (by decide) (by decide) rfl (fun ls hl => ?_)
    refine lv_goto (tgt := 23) hx hb dL_law_1066 (by decide) ?_
    exact hz_loop C0 hr hlk hxs 165 0 v g _ _ _ (by decide) (by decide) ⟨_, _, hT, rfl, rfl, Nat.le_refl _⟩ hp.2.2.2.1 hp (lv_sub hl [0, 3, 4, 5, 6] rfl)
  exact hE _ hl
set_option maxHeartbeats 4000000 in
set_option maxRecDepth 100000 in
theorem hz_first (C0 : hz_C p s m args c D1 D2 K z b 1162 xs cJ cO A) (hr : meth.sig.returnType = some .boolean) (hlk : meth.locks = false) (hxm : ∀ k : Nat, k < 14 → xs k = hz_h k) (hxs : ∀ j : Nat, 2 ≤ j → j < 166 → xs (7 * j) = 22) (hT : hh_T 0 (fun _ => 0) (fun _ => 0) v) (hp : hz_W D1 D2 K ad v (hr_Y a z 0 0) o cJ g A s.heap H locs) (hl : lv_has ls 9 [(4, .int (nI 0)), (3, .ref o), (2, .ref (a 0)), (1, .ref (ad 0)), (0, .ref b)]) : W p l e hz_room s m args below meth c H locs 197 2214 (MQ below hz_Q args s 803144 3260102 A) (F0 m 23 ls []) := by
  obtain ⟨hx, hb, hml, hown, hts, hK1, hJ1, hK2, hA, hN, hX, hbl, hbA⟩ := id C0
  refine lv_iload hx hb dL_law_23 (lv_at hl 0 rfl) ?_
  refine lv_aload_n hx hb dL_law_25 rfl (lv_at hl 4 rfl) ?_
  refine va_slen hx hb hX hbl hbA hp.2.2.2 dL_law_26 ?_
  refine lv_bipush (v := 7) hx hb dL_law_27 (by decide) ?_
  refine lv_isub hx hb dL_law_29 ?_
  refine lv_icmp_gt (tgt := 1069) hx hb dL_law_30 (by decide) (fun h9 => absurd h9 (by decide)) (fun _ => ?_)
  refine lv_aload_n hx hb dL_law_33 rfl (lv_at hl 4 rfl) ?_
  refine lv_iload hx hb dL_law_34 (lv_at hl 0 rfl) ?_
  refine hz_arg C0 hp.2.2.2 (k := 0) (by decide) (by decide) dL_law_36 ?_
  rw [show xs 0 = 0 from hxm 0 (by decide)]
  refine lv_bipush (v := 31) hx hb dL_law_37 (by decide) ?_
  refine lv_iand hx hb dL_law_39 ?_
  rw [show (0 : Int32) &&& 31 = 0 from by decide]
  refine lv_tableIn (off := 108) (tgt := 148) hx hb dL_law_40 (by decide) (by decide) rfl (by decide) ?_
  refine lv_aload_n hx hb dL_law_148 rfl (lv_at hl 3 rfl) ?_
  refine lv_aload_n hx hb dL_law_149 rfl (lv_at hl 4 rfl) ?_
  refine lv_iload hx hb dL_law_150 (lv_at hl 0 rfl) ?_
  refine lv_iconst (v := 1) hx hb dL_law_152 (by decide) ?_
  refine lv_iadd hx hb dL_law_153 ?_
  rw [show nI 0 + 1 = nI 1 from by decide]
  refine hz_arg C0 hp.2.2.2 (k := 1) (by decide) (by decide) dL_law_154 ?_
  rw [show xs 1 = 0 from hxm 1 (by decide)]
  refine lv_aload_n hx hb dL_law_155 rfl (lv_at hl 4 rfl) ?_
  refine lv_iload hx hb dL_law_156 (lv_at hl 0 rfl) ?_
  refine lv_iconst (v := 2) hx hb dL_law_158 (by decide) ?_
  refine lv_iadd hx hb dL_law_159 ?_
  rw [show nI 0 + 2 = nI 2 from by decide]
  refine hz_arg C0 hp.2.2.2 (k := 2) (by decide) (by decide) dL_law_160 ?_
  rw [show xs 2 = 60 from hxm 2 (by decide)]
  refine lv_aload_n hx hb dL_law_161 rfl (lv_at hl 4 rfl) ?_
  refine lv_iload hx hb dL_law_162 (lv_at hl 0 rfl) ?_
  refine lv_iconst (v := 3) hx hb dL_law_164 (by decide) ?_
  refine lv_iadd hx hb dL_law_165 ?_
  rw [show nI 0 + 3 = nI 3 from by decide]
  refine hz_arg C0 hp.2.2.2 (k := 3) (by decide) (by decide) dL_law_166 ?_
  rw [show xs 3 = 0 from hxm 3 (by decide)]
  refine lv_aload_n hx hb dL_law_167 rfl (lv_at hl 4 rfl) ?_
  refine lv_iload hx hb dL_law_168 (lv_at hl 0 rfl) ?_
  refine lv_iconst (v := 4) hx hb dL_law_170 (by decide) ?_
  refine lv_iadd hx hb dL_law_171 ?_
  rw [show nI 0 + 4 = nI 4 from by decide]
  refine hz_arg C0 hp.2.2.2 (k := 4) (by decide) (by decide) dL_law_172 ?_
  rw [show xs 4 = 1 from hxm 4 (by decide)]
  refine lv_aload_n hx hb dL_law_173 rfl (lv_at hl 4 rfl) ?_
  refine lv_iload hx hb dL_law_174 (lv_at hl 0 rfl) ?_
  refine lv_iconst (v := 5) hx hb dL_law_176 (by decide) ?_
  refine lv_iadd hx hb dL_law_177 ?_
  rw [show nI 0 + 5 = nI 5 from by decide]
  refine hz_arg C0 hp.2.2.2 (k := 5) (by decide) (by decide) dL_law_178 ?_
  rw [show xs 5 = 0 from hxm 5 (by decide)]
  refine lv_aload_n hx hb dL_law_179 rfl (lv_at hl 4 rfl) ?_
  refine lv_iload hx hb dL_law_180 (lv_at hl 0 rfl) ?_
  refine lv_bipush (v := 6) hx hb dL_law_182 (by decide) ?_
  refine lv_iadd hx hb dL_law_184 ?_
  rw [show nI 0 + 6 = nI 6 from by decide]
  refine hz_arg C0 hp.2.2.2 (k := 6) (by decide) (by decide) dL_law_185 ?_
  rw [show xs 6 = 0 from hxm 6 (by decide)]
  refine lv_aload_n hx hb dL_law_186 rfl (lv_at hl 1 rfl) ?_
  refine hz_cm C0 hp hT (by decide) (by decide) (by decide) ⟨Nat.le_of_ble_eq_true rfl, Nat.le_of_ble_eq_true rfl⟩ ⟨Nat.le_of_ble_eq_true rfl, Nat.le_of_ble_eq_true rfl⟩ hl.1 dL_law_187 (fun q5 v g H locs hT hz1 hp => ?_)
  refine lv_istore (lv' := [(5, .int q5), (4, .int (nI 0)), (3, .ref o), (2, .ref (a 0)), (1, .ref (ad 0)), (0, .ref b)]) hx hb dL_law_190 hl (by decide) rfl (fun ls hl => ?_)
  refine lv_aload_n hx hb dL_law_192 rfl (lv_at hl 3 rfl) ?_
  refine lv_aload_n hx hb dL_law_193 rfl (lv_at hl 5 rfl) ?_
  refine lv_iload hx hb dL_law_194 (lv_at hl 1 rfl) ?_
  refine lv_iconst (v := 1) hx hb dL_law_196 (by decide) ?_
  refine lv_iadd hx hb dL_law_197 ?_
  rw [show nI 0 + 1 = nI 1 from by decide]
  refine hz_arg C0 hp.2.2.2 (k := 1) (by decide) (by decide) dL_law_198 ?_
  rw [show xs 1 = 0 from hxm 1 (by decide)]
  refine lv_aload_n hx hb dL_law_199 rfl (lv_at hl 5 rfl) ?_
  refine lv_iload hx hb dL_law_200 (lv_at hl 1 rfl) ?_
  refine lv_iconst (v := 2) hx hb dL_law_202 (by decide) ?_
  refine lv_iadd hx hb dL_law_203 ?_
  rw [show nI 0 + 2 = nI 2 from by decide]
  refine hz_arg C0 hp.2.2.2 (k := 2) (by decide) (by decide) dL_law_204 ?_
  rw [show xs 2 = 60 from hxm 2 (by decide)]
  refine lv_aload_n hx hb dL_law_205 rfl (lv_at hl 5 rfl) ?_
  refine lv_iload hx hb dL_law_206 (lv_at hl 1 rfl) ?_
  refine lv_iconst (v := 3) hx hb dL_law_208 (by decide) ?_
  refine lv_iadd hx hb dL_law_209 ?_
  rw [show nI 0 + 3 = nI 3 from by decide]
  refine hz_arg C0 hp.2.2.2 (k := 3) (by decide) (by decide) dL_law_210 ?_
  rw [show xs 3 = 0 from hxm 3 (by decide)]
  refine lv_aload_n hx hb dL_law_211 rfl (lv_at hl 5 rfl) ?_
  refine lv_iload hx hb dL_law_212 (lv_at hl 1 rfl) ?_
  refine lv_iconst (v := 4) hx hb dL_law_214 (by decide) ?_
  refine lv_iadd hx hb dL_law_215 ?_
  rw [show nI 0 + 4 = nI 4 from by decide]
  refine hz_arg C0 hp.2.2.2 (k := 4) (by decide) (by decide) dL_law_216 ?_
  rw [show xs 4 = 1 from hxm 4 (by decide)]
  refine lv_aload_n hx hb dL_law_217 rfl (lv_at hl 5 rfl) ?_
  refine lv_iload hx hb dL_law_218 (lv_at hl 1 rfl) ?_
  refine lv_iconst (v := 5) hx hb dL_law_220 (by decide) ?_
  refine lv_iadd hx hb dL_law_221 ?_
  rw [show nI 0 + 5 = nI 5 from by decide]
  refine hz_arg C0 hp.2.2.2 (k := 5) (by decide) (by decide) dL_law_222 ?_
  rw [show xs 5 = 0 from hxm 5 (by decide)]
  refine lv_aload_n hx hb dL_law_223 rfl (lv_at hl 5 rfl) ?_
  refine lv_iload hx hb dL_law_224 (lv_at hl 1 rfl) ?_
  refine lv_bipush (v := 6) hx hb dL_law_226 (by decide) ?_
  refine lv_iadd hx hb dL_law_228 ?_
  rw [show nI 0 + 6 = nI 6 from by decide]
  refine hz_arg C0 hp.2.2.2 (k := 6) (by decide) (by decide) dL_law_229 ?_
  rw [show xs 6 = 0 from hxm 6 (by decide)]
  refine hz_ri (q0 := 0) (b0 := a 0) (As := [.int 0, .int 60, .int 0, .int 1, .int 0, .int 0]) (rest := []) (n := 6) C0 hp (hs_mast1 l D2 a z cO 0) rfl (hz_gV hz_7 hz_8 hz_9 hw_135) ⟨rfl, rfl⟩ (by decide +kernel) ⟨Nat.le_of_ble_eq_true rfl, Nat.le_of_ble_eq_true rfl⟩ ⟨Nat.le_of_ble_eq_true rfl, Nat.le_of_ble_eq_true rfl⟩ hl.1 rfl rfl (Nat.le_of_ble_eq_true rfl) dL_law_230 (fun q6 u H locs hv hz2 hp => ?_)
  refine W.widen (k := 199) (n := 2233) (by decide) (by decide) ?_
  refine lv_istore (lv' := [(6, .int q6), (5, .int q5), (4, .int (nI 0)), (3, .ref o), (2, .ref (a 0)), (1, .ref (ad 0)), (0, .ref b)]) hx hb dL_law_233 hl (by decide) rfl (fun ls hl => ?_)
  have hE : ∀ (ls : Array Slot), lv_has ls 9 [(6, .int q6), (5, .int q5), (4, .int (nI 0)), (3, .ref o), (2, .ref (a 0)), (1, .ref (ad 0)), (0, .ref b)] → W p l e hz_room s m args below meth c H locs 199 2233 (MQ below hz_Q args s 803144 3260102 A) (F0 m 235 ls []) := by
    intro ls hl
    refine lv_goto (tgt := 1063) hx hb dL_law_235 (by decide) ?_
    refine lv_iinc (v := nI 7) (lv' := [(4, .int (nI 7)), (6, .int q6), (5, .int q5), (3, .ref o), (2, .ref (a 0)), (1, .ref (ad 0)), (0, .ref b)]) hx hb dL_law_1063 hl (k := 2) rfl (by decide) (by decide) rfl (fun ls hl => ?_)
    refine lv_goto (tgt := 23) hx hb dL_law_1066 (by decide) ?_
    exact hz_second C0 hr hlk hxm hxs hT hp (lv_sub hl [0, 3, 4, 5, 6] rfl)
  exact hE _ hl
end HZW

/-! ===== the law: a call on both, case by case; the loop ===== -/
section LAWC
variable {p : Program} {l : Launch} {e : Env} {s : State} {m : MethodId} {below : List Frame} {meth : Method} {c : Code} {H : Heap} {locs : List Loc} {cells slots : Nat} {Q : State → Prop}
variable {pc : Nat} {ls : Array Slot} {rest : List Value} {G : GP} {w : va_W} {b a : Nat → Nat} {ad : Nat → Nat → Nat} {v pd rv : Nat → Int32} {Ns : Nat → NS} {x : MX} {sb L i T : Nat} {xs : Nat → Int32} {R : Room} {args : Array Value}
theorem sldN {nL : Nat} {own : String} {cc : ByteArray} (E : EN p c cc s m args own nL G) (hw : HB G (fun q : Nat => s.heap.size ≤ q) s.heap w H locs) (hX : va_X sb L xs s s.heap) (hbl : sb < s.heap.size) (hL : L ≤ 1536) {j : Nat} (hj : j < L) (hdg : decode cc pc = .ok (.iaload, 1)) (kk : W p l e R s m args below meth c H locs cells slots Q (F0 m (pc + 1) ls (.int (xs j) :: rest))) : W p l e R s m args below meth c H locs cells slots Q (F0 m pc ls (.int (nI j) :: .ref sb :: rest)) :=
  va_sld E.1 E.2.1 hX hbl (Nat.not_le.mpr hbl) hw.2.2.1 (vp_in_nI hj (by omega)) hdg (by rw [nI_clamp (by omega)]; exact kk)
theorem rm_fit {rm : Room} {k : Nat} (h : rmOK rm) (hk : k ≤ 8) : rm.frames + 1 ≤ room_1.frames ∧ 8 + (k + 11) + rm.locals ≤ room_1.locals := by
  have h1 := h.2.2.1
  have h2 := h.2.2.2
  exact ⟨by show rm.frames + 1 ≤ 10; omega, by show 8 + (k + 11) + rm.locals ≤ 388; omega⟩
set_option maxRecDepth 100000 in
set_option maxHeartbeats 4000000 in
theorem lk_set (E : EN p c cL_law s m #[.ref sb] RL 4 G) (hX : va_X sb L xs s s.heap) (hbl : sb < s.heap.size) (hL : L ≤ 1536) (hXS : XS [] s) (hcs : cells ≤ 600000 ∧ slots ≤ 7302250) (hi : i + 3 ≤ L) (hT : T + 6039 < 2 ^ 31) (hR : Rl T v pd rv Ns x) (hw : HB G (fun q : Nat => s.heap.size ≤ q) s.heap (cW G b ad v pd rv Ns ++ mN G a (Ns 0) x) H locs) (hl : lv_has ls 4 [(0, .ref sb), (1, .ref (b 0)), (2, .ref (a 0)), (3, .int (nI i))]) (kk : ∀ (v pd rv : Nat → Int32) (Ns : Nat → NS) (x : MX) (H : Heap) (locs : List Loc), Rl (T + 6039) v pd rv Ns x → HB G (fun q : Nat => s.heap.size ≤ q) s.heap (cW G b ad v pd rv Ns ++ mN G a (Ns 0) x) H locs → W p l e room_1 s m #[.ref sb] below meth c H locs cells slots Q (F0 m 810 ls [])) : W p l e room_1 s m #[.ref sb] below meth c H locs cells slots Q (F0 m 152 ls []) := by
  obtain ⟨rmx, rmm, v', pd', rv', Ns', x', r, h1, h2, hM1, hM2, hR'⟩ := pr_set l G b a ad hT hR (xs (i + 1)) (xs (i + 2))
  refine lv_aload_n E.1 E.2.1 dL_law_152 rfl (lv_at hl 1 rfl) ?_
  refine lv_aload_n E.1 E.2.1 dL_law_153 rfl (lv_at hl 0 rfl) ?_
  refine lv_iload_n E.1 E.2.1 dL_law_154 rfl (lv_at hl 3 rfl) ?_
  refine lv_iconst (v := nI 1) E.1 E.2.1 dL_law_155 (by decide) ?_
  refine lv_addN E.1 E.2.1 dL_law_156 ?_
  refine sldN E hw hX hbl hL (j := i + 1) (by omega) dL_law_157 ?_
  refine lv_aload_n E.1 E.2.1 dL_law_158 rfl (lv_at hl 0 rfl) ?_
  refine lv_iload_n E.1 E.2.1 dL_law_159 rfl (lv_at hl 3 rfl) ?_
  refine lv_iconst (v := nI 2) E.1 E.2.1 dL_law_160 (by decide) ?_
  refine lv_addN E.1 E.2.1 dL_law_161 ?_
  refine sldN E hw hX hbl hL (j := i + 2) (by omega) dL_law_162 ?_
  refine callVIp E hM1 XS.eb (XS.to hXS va_A_eq hw (List.Perm.refl _)) mw_3_16 YX3_set ⟨h1.1, h1.2.1⟩ (rm_fit h1 (by decide)) hcs hw (List.Perm.refl _) (List.Perm.refl _) 0 rfl rfl rfl hl rfl (Nat.le_of_ble_eq_true rfl) dL_law_163 (fun H locs hw => ?_)
  refine lv_aload_n E.1 E.2.1 dL_law_166 rfl (lv_at hl 2 rfl) ?_
  refine lv_aload_n E.1 E.2.1 dL_law_167 rfl (lv_at hl 0 rfl) ?_
  refine lv_iload_n E.1 E.2.1 dL_law_168 rfl (lv_at hl 3 rfl) ?_
  refine lv_iconst (v := nI 1) E.1 E.2.1 dL_law_169 (by decide) ?_
  refine lv_addN E.1 E.2.1 dL_law_170 ?_
  refine sldN E hw hX hbl hL (j := i + 1) (by omega) dL_law_171 ?_
  refine lv_aload_n E.1 E.2.1 dL_law_172 rfl (lv_at hl 0 rfl) ?_
  refine lv_iload_n E.1 E.2.1 dL_law_173 rfl (lv_at hl 3 rfl) ?_
  refine lv_iconst (v := nI 2) E.1 E.2.1 dL_law_174 (by decide) ?_
  refine lv_addN E.1 E.2.1 dL_law_175 ?_
  refine sldN E hw hX hbl hL (j := i + 2) (by omega) dL_law_176 ?_
  refine callVIp E hM2 ES.eb (fun _ _ _ => trivial) mw_5_9 YX4_set ⟨h2.1, h2.2.1⟩ (rm_fit h2 (by decide)) hcs hw List.perm_append_comm List.perm_append_comm 0 rfl rfl rfl hl rfl (Nat.le_of_ble_eq_true rfl) dL_law_177 (fun H locs hw => ?_)
  refine lv_icmp_eq (tgt := 810) E.1 E.2.1 dL_law_180 (by decide) (fun _ => ?_) (fun z => absurd rfl z)
  exact kk v' pd' rv' Ns' x' H locs hR' hw
set_option maxRecDepth 100000 in
set_option maxHeartbeats 4000000 in
theorem lk_willing (E : EN p c cL_law s m #[.ref sb] RL 4 G) (hX : va_X sb L xs s s.heap) (hbl : sb < s.heap.size) (hL : L ≤ 1536) (hXS : XS [] s) (hcs : cells ≤ 600000 ∧ slots ≤ 7302250) (hi : i + 3 ≤ L) (hT : T + 6039 < 2 ^ 31) (hR : Rl T v pd rv Ns x) (hw : HB G (fun q : Nat => s.heap.size ≤ q) s.heap (cW G b ad v pd rv Ns ++ mN G a (Ns 0) x) H locs) (hl : lv_has ls 4 [(0, .ref sb), (1, .ref (b 0)), (2, .ref (a 0)), (3, .int (nI i))]) (kk : ∀ (v pd rv : Nat → Int32) (Ns : Nat → NS) (x : MX) (H : Heap) (locs : List Loc), Rl (T + 6039) v pd rv Ns x → HB G (fun q : Nat => s.heap.size ≤ q) s.heap (cW G b ad v pd rv Ns ++ mN G a (Ns 0) x) H locs → W p l e room_1 s m #[.ref sb] below meth c H locs cells slots Q (F0 m 810 ls [])) : W p l e room_1 s m #[.ref sb] below meth c H locs cells slots Q (F0 m 185 ls []) := by
  obtain ⟨rmx, rmm, v', pd', rv', Ns', x', r, h1, h2, hM1, hM2, hR'⟩ := pr_willing l G b a ad hT hR (xs (i + 1)) (xs (i + 2))
  refine lv_aload_n E.1 E.2.1 dL_law_185 rfl (lv_at hl 1 rfl) ?_
  refine lv_aload_n E.1 E.2.1 dL_law_186 rfl (lv_at hl 0 rfl) ?_
  refine lv_iload_n E.1 E.2.1 dL_law_187 rfl (lv_at hl 3 rfl) ?_
  refine lv_iconst (v := nI 1) E.1 E.2.1 dL_law_188 (by decide) ?_
  refine lv_addN E.1 E.2.1 dL_law_189 ?_
  refine sldN E hw hX hbl hL (j := i + 1) (by omega) dL_law_190 ?_
  refine lv_aload_n E.1 E.2.1 dL_law_191 rfl (lv_at hl 0 rfl) ?_
  refine lv_iload_n E.1 E.2.1 dL_law_192 rfl (lv_at hl 3 rfl) ?_
  refine lv_iconst (v := nI 2) E.1 E.2.1 dL_law_193 (by decide) ?_
  refine lv_addN E.1 E.2.1 dL_law_194 ?_
  refine sldN E hw hX hbl hL (j := i + 2) (by omega) dL_law_195 ?_
  refine callVIp E hM1 ES.eb (fun _ _ _ => trivial) mw_5_22 YX3_willing ⟨h1.1, h1.2.1⟩ (rm_fit h1 (by decide)) hcs hw (List.Perm.refl _) (List.Perm.refl _) 0 rfl rfl rfl hl rfl (Nat.le_of_ble_eq_true rfl) dL_law_196 (fun H locs hw => ?_)
  refine lv_aload_n E.1 E.2.1 dL_law_199 rfl (lv_at hl 2 rfl) ?_
  refine lv_aload_n E.1 E.2.1 dL_law_200 rfl (lv_at hl 0 rfl) ?_
  refine lv_iload_n E.1 E.2.1 dL_law_201 rfl (lv_at hl 3 rfl) ?_
  refine lv_iconst (v := nI 1) E.1 E.2.1 dL_law_202 (by decide) ?_
  refine lv_addN E.1 E.2.1 dL_law_203 ?_
  refine sldN E hw hX hbl hL (j := i + 1) (by omega) dL_law_204 ?_
  refine lv_aload_n E.1 E.2.1 dL_law_205 rfl (lv_at hl 0 rfl) ?_
  refine lv_iload_n E.1 E.2.1 dL_law_206 rfl (lv_at hl 3 rfl) ?_
  refine lv_iconst (v := nI 2) E.1 E.2.1 dL_law_207 (by decide) ?_
  refine lv_addN E.1 E.2.1 dL_law_208 ?_
  refine sldN E hw hX hbl hL (j := i + 2) (by omega) dL_law_209 ?_
  refine callVIp E hM2 ES.eb (fun _ _ _ => trivial) mw_6_11 YX4_willing ⟨h2.1, h2.2.1⟩ (rm_fit h2 (by decide)) hcs hw List.perm_append_comm List.perm_append_comm 0 rfl rfl rfl hl rfl (Nat.le_of_ble_eq_true rfl) dL_law_210 (fun H locs hw => ?_)
  refine lv_icmp_eq (tgt := 810) E.1 E.2.1 dL_law_213 (by decide) (fun _ => ?_) (fun z => absurd rfl z)
  exact kk v' pd' rv' Ns' x' H locs hR' hw
set_option maxRecDepth 100000 in
set_option maxHeartbeats 4000000 in
theorem lk_open (E : EN p c cL_law s m #[.ref sb] RL 4 G) (hX : va_X sb L xs s s.heap) (hbl : sb < s.heap.size) (hL : L ≤ 1536) (hXS : XS [] s) (hcs : cells ≤ 600000 ∧ slots ≤ 7302250) (hi : i + 3 ≤ L) (hT : T + 6039 < 2 ^ 31) (hR : Rl T v pd rv Ns x) (hw : HB G (fun q : Nat => s.heap.size ≤ q) s.heap (cW G b ad v pd rv Ns ++ mN G a (Ns 0) x) H locs) (hl : lv_has ls 4 [(0, .ref sb), (1, .ref (b 0)), (2, .ref (a 0)), (3, .int (nI i))]) (kk : ∀ (v pd rv : Nat → Int32) (Ns : Nat → NS) (x : MX) (H : Heap) (locs : List Loc), Rl (T + 6039) v pd rv Ns x → HB G (fun q : Nat => s.heap.size ≤ q) s.heap (cW G b ad v pd rv Ns ++ mN G a (Ns 0) x) H locs → W p l e room_1 s m #[.ref sb] below meth c H locs cells slots Q (F0 m 810 ls [])) : W p l e room_1 s m #[.ref sb] below meth c H locs cells slots Q (F0 m 218 ls []) := by
  obtain ⟨rmx, rmm, v', pd', rv', Ns', x', r, h1, h2, hM1, hM2, hR'⟩ := pr_open l G b a ad hT hR (xs (i + 1))
  refine lv_aload_n E.1 E.2.1 dL_law_218 rfl (lv_at hl 1 rfl) ?_
  refine lv_aload_n E.1 E.2.1 dL_law_219 rfl (lv_at hl 0 rfl) ?_
  refine lv_iload_n E.1 E.2.1 dL_law_220 rfl (lv_at hl 3 rfl) ?_
  refine lv_iconst (v := nI 1) E.1 E.2.1 dL_law_221 (by decide) ?_
  refine lv_addN E.1 E.2.1 dL_law_222 ?_
  refine sldN E hw hX hbl hL (j := i + 1) (by omega) dL_law_223 ?_
  refine callVIp E hM1 ES.eb (fun _ _ _ => trivial) mw_6_15 YX3_open ⟨h1.1, h1.2.1⟩ (rm_fit h1 (by decide)) hcs hw (List.Perm.refl _) (List.Perm.refl _) 0 rfl rfl rfl hl rfl (Nat.le_of_ble_eq_true rfl) dL_law_224 (fun H locs hw => ?_)
  refine lv_aload_n E.1 E.2.1 dL_law_227 rfl (lv_at hl 2 rfl) ?_
  refine lv_aload_n E.1 E.2.1 dL_law_228 rfl (lv_at hl 0 rfl) ?_
  refine lv_iload_n E.1 E.2.1 dL_law_229 rfl (lv_at hl 3 rfl) ?_
  refine lv_iconst (v := nI 1) E.1 E.2.1 dL_law_230 (by decide) ?_
  refine lv_addN E.1 E.2.1 dL_law_231 ?_
  refine sldN E hw hX hbl hL (j := i + 1) (by omega) dL_law_232 ?_
  refine callVIp E hM2 ES.eb (fun _ _ _ => trivial) mw_7_11 YX4_open ⟨h2.1, h2.2.1⟩ (rm_fit h2 (by decide)) hcs hw List.perm_append_comm List.perm_append_comm 0 rfl rfl rfl hl rfl (Nat.le_of_ble_eq_true rfl) dL_law_233 (fun H locs hw => ?_)
  refine lv_icmp_eq (tgt := 810) E.1 E.2.1 dL_law_236 (by decide) (fun _ => ?_) (fun z => absurd rfl z)
  exact kk v' pd' rv' Ns' x' H locs hR' hw
set_option maxRecDepth 100000 in
set_option maxHeartbeats 4000000 in
theorem lk_deliver (E : EN p c cL_law s m #[.ref sb] RL 4 G) (hX : va_X sb L xs s s.heap) (hbl : sb < s.heap.size) (hL : L ≤ 1536) (hXS : XS [] s) (hcs : cells ≤ 600000 ∧ slots ≤ 7302250) (hi : i + 3 ≤ L) (hT : T + 6039 < 2 ^ 31) (hR : Rl T v pd rv Ns x) (hw : HB G (fun q : Nat => s.heap.size ≤ q) s.heap (cW G b ad v pd rv Ns ++ mN G a (Ns 0) x) H locs) (hl : lv_has ls 4 [(0, .ref sb), (1, .ref (b 0)), (2, .ref (a 0)), (3, .int (nI i))]) (kk : ∀ (v pd rv : Nat → Int32) (Ns : Nat → NS) (x : MX) (H : Heap) (locs : List Loc), Rl (T + 6039) v pd rv Ns x → HB G (fun q : Nat => s.heap.size ≤ q) s.heap (cW G b ad v pd rv Ns ++ mN G a (Ns 0) x) H locs → W p l e room_1 s m #[.ref sb] below meth c H locs cells slots Q (F0 m 810 ls [])) : W p l e room_1 s m #[.ref sb] below meth c H locs cells slots Q (F0 m 241 ls []) := by
  obtain ⟨rmx, rmm, v', pd', rv', Ns', x', r, h1, h2, hM1, hM2, hR'⟩ := pr_deliver l G b a ad hT hR (xs (i + 1))
  refine lv_aload_n E.1 E.2.1 dL_law_241 rfl (lv_at hl 1 rfl) ?_
  refine lv_aload_n E.1 E.2.1 dL_law_242 rfl (lv_at hl 0 rfl) ?_
  refine lv_iload_n E.1 E.2.1 dL_law_243 rfl (lv_at hl 3 rfl) ?_
  refine lv_iconst (v := nI 1) E.1 E.2.1 dL_law_244 (by decide) ?_
  refine lv_addN E.1 E.2.1 dL_law_245 ?_
  refine sldN E hw hX hbl hL (j := i + 1) (by omega) dL_law_246 ?_
  refine callVIp E hM1 ES.eb (fun _ _ _ => trivial) mw_8_10 YX3_deliver ⟨h1.1, h1.2.1⟩ (rm_fit h1 (by decide)) hcs hw (List.Perm.refl _) (List.Perm.refl _) 0 rfl rfl rfl hl rfl (Nat.le_of_ble_eq_true rfl) dL_law_247 (fun H locs hw => ?_)
  refine lv_aload_n E.1 E.2.1 dL_law_250 rfl (lv_at hl 2 rfl) ?_
  refine lv_aload_n E.1 E.2.1 dL_law_251 rfl (lv_at hl 0 rfl) ?_
  refine lv_iload_n E.1 E.2.1 dL_law_252 rfl (lv_at hl 3 rfl) ?_
  refine lv_iconst (v := nI 1) E.1 E.2.1 dL_law_253 (by decide) ?_
  refine lv_addN E.1 E.2.1 dL_law_254 ?_
  refine sldN E hw hX hbl hL (j := i + 1) (by omega) dL_law_255 ?_
  refine callVIp E hM2 ES.eb (fun _ _ _ => trivial) mw_11_5 YX4_deliver ⟨h2.1, h2.2.1⟩ (rm_fit h2 (by decide)) hcs hw List.perm_append_comm List.perm_append_comm 0 rfl rfl rfl hl rfl (Nat.le_of_ble_eq_true rfl) dL_law_256 (fun H locs hw => ?_)
  refine lv_icmp_eq (tgt := 810) E.1 E.2.1 dL_law_259 (by decide) (fun _ => ?_) (fun z => absurd rfl z)
  exact kk v' pd' rv' Ns' x' H locs hR' hw
set_option maxRecDepth 100000 in
set_option maxHeartbeats 4000000 in
theorem lk_lose (E : EN p c cL_law s m #[.ref sb] RL 4 G) (hX : va_X sb L xs s s.heap) (hbl : sb < s.heap.size) (hL : L ≤ 1536) (hXS : XS [] s) (hcs : cells ≤ 600000 ∧ slots ≤ 7302250) (hi : i + 3 ≤ L) (hT : T + 6039 < 2 ^ 31) (hR : Rl T v pd rv Ns x) (hw : HB G (fun q : Nat => s.heap.size ≤ q) s.heap (cW G b ad v pd rv Ns ++ mN G a (Ns 0) x) H locs) (hl : lv_has ls 4 [(0, .ref sb), (1, .ref (b 0)), (2, .ref (a 0)), (3, .int (nI i))]) (kk : ∀ (v pd rv : Nat → Int32) (Ns : Nat → NS) (x : MX) (H : Heap) (locs : List Loc), Rl (T + 6039) v pd rv Ns x → HB G (fun q : Nat => s.heap.size ≤ q) s.heap (cW G b ad v pd rv Ns ++ mN G a (Ns 0) x) H locs → W p l e room_1 s m #[.ref sb] below meth c H locs cells slots Q (F0 m 810 ls [])) : W p l e room_1 s m #[.ref sb] below meth c H locs cells slots Q (F0 m 264 ls []) := by
  obtain ⟨rmx, rmm, v', pd', rv', Ns', x', r, h1, h2, hM1, hM2, hR'⟩ := pr_lose l G b a ad hT hR (xs (i + 1))
  refine lv_aload_n E.1 E.2.1 dL_law_264 rfl (lv_at hl 1 rfl) ?_
  refine lv_aload_n E.1 E.2.1 dL_law_265 rfl (lv_at hl 0 rfl) ?_
  refine lv_iload_n E.1 E.2.1 dL_law_266 rfl (lv_at hl 3 rfl) ?_
  refine lv_iconst (v := nI 1) E.1 E.2.1 dL_law_267 (by decide) ?_
  refine lv_addN E.1 E.2.1 dL_law_268 ?_
  refine sldN E hw hX hbl hL (j := i + 1) (by omega) dL_law_269 ?_
  refine callVIp E hM1 ES.eb (fun _ _ _ => trivial) mw_12_21 YX3_lose ⟨h1.1, h1.2.1⟩ (rm_fit h1 (by decide)) hcs hw (List.Perm.refl _) (List.Perm.refl _) 0 rfl rfl rfl hl rfl (Nat.le_of_ble_eq_true rfl) dL_law_270 (fun H locs hw => ?_)
  refine lv_aload_n E.1 E.2.1 dL_law_273 rfl (lv_at hl 2 rfl) ?_
  refine lv_aload_n E.1 E.2.1 dL_law_274 rfl (lv_at hl 0 rfl) ?_
  refine lv_iload_n E.1 E.2.1 dL_law_275 rfl (lv_at hl 3 rfl) ?_
  refine lv_iconst (v := nI 1) E.1 E.2.1 dL_law_276 (by decide) ?_
  refine lv_addN E.1 E.2.1 dL_law_277 ?_
  refine sldN E hw hX hbl hL (j := i + 1) (by omega) dL_law_278 ?_
  refine callVIp E hM2 ES.eb (fun _ _ _ => trivial) mw_13_5 YX4_lose ⟨h2.1, h2.2.1⟩ (rm_fit h2 (by decide)) hcs hw List.perm_append_comm List.perm_append_comm 0 rfl rfl rfl hl rfl (Nat.le_of_ble_eq_true rfl) dL_law_279 (fun H locs hw => ?_)
  refine lv_icmp_eq (tgt := 810) E.1 E.2.1 dL_law_282 (by decide) (fun _ => ?_) (fun z => absurd rfl z)
  exact kk v' pd' rv' Ns' x' H locs hR' hw
set_option maxRecDepth 100000 in
set_option maxHeartbeats 4000000 in
theorem lk_twice (E : EN p c cL_law s m #[.ref sb] RL 4 G) (hX : va_X sb L xs s s.heap) (hbl : sb < s.heap.size) (hL : L ≤ 1536) (hXS : XS [] s) (hcs : cells ≤ 600000 ∧ slots ≤ 7302250) (hi : i + 3 ≤ L) (hT : T + 6039 < 2 ^ 31) (hR : Rl T v pd rv Ns x) (hw : HB G (fun q : Nat => s.heap.size ≤ q) s.heap (cW G b ad v pd rv Ns ++ mN G a (Ns 0) x) H locs) (hl : lv_has ls 4 [(0, .ref sb), (1, .ref (b 0)), (2, .ref (a 0)), (3, .int (nI i))]) (kk : ∀ (v pd rv : Nat → Int32) (Ns : Nat → NS) (x : MX) (H : Heap) (locs : List Loc), Rl (T + 6039) v pd rv Ns x → HB G (fun q : Nat => s.heap.size ≤ q) s.heap (cW G b ad v pd rv Ns ++ mN G a (Ns 0) x) H locs → W p l e room_1 s m #[.ref sb] below meth c H locs cells slots Q (F0 m 810 ls [])) : W p l e room_1 s m #[.ref sb] below meth c H locs cells slots Q (F0 m 287 ls []) := by
  obtain ⟨rmx, rmm, v', pd', rv', Ns', x', r, h1, h2, hM1, hM2, hR'⟩ := pr_twice l G b a ad hT hR (xs (i + 1))
  refine lv_aload_n E.1 E.2.1 dL_law_287 rfl (lv_at hl 1 rfl) ?_
  refine lv_aload_n E.1 E.2.1 dL_law_288 rfl (lv_at hl 0 rfl) ?_
  refine lv_iload_n E.1 E.2.1 dL_law_289 rfl (lv_at hl 3 rfl) ?_
  refine lv_iconst (v := nI 1) E.1 E.2.1 dL_law_290 (by decide) ?_
  refine lv_addN E.1 E.2.1 dL_law_291 ?_
  refine sldN E hw hX hbl hL (j := i + 1) (by omega) dL_law_292 ?_
  refine callVIp E hM1 ES.eb (fun _ _ _ => trivial) mw_13_13 YX3_twice ⟨h1.1, h1.2.1⟩ (rm_fit h1 (by decide)) hcs hw (List.Perm.refl _) (List.Perm.refl _) 0 rfl rfl rfl hl rfl (Nat.le_of_ble_eq_true rfl) dL_law_293 (fun H locs hw => ?_)
  refine lv_aload_n E.1 E.2.1 dL_law_296 rfl (lv_at hl 2 rfl) ?_
  refine lv_aload_n E.1 E.2.1 dL_law_297 rfl (lv_at hl 0 rfl) ?_
  refine lv_iload_n E.1 E.2.1 dL_law_298 rfl (lv_at hl 3 rfl) ?_
  refine lv_iconst (v := nI 1) E.1 E.2.1 dL_law_299 (by decide) ?_
  refine lv_addN E.1 E.2.1 dL_law_300 ?_
  refine sldN E hw hX hbl hL (j := i + 1) (by omega) dL_law_301 ?_
  refine callVIp E hM2 ES.eb (fun _ _ _ => trivial) mw_14_1 YX4_twice ⟨h2.1, h2.2.1⟩ (rm_fit h2 (by decide)) hcs hw List.perm_append_comm List.perm_append_comm 0 rfl rfl rfl hl rfl (Nat.le_of_ble_eq_true rfl) dL_law_302 (fun H locs hw => ?_)
  refine lv_icmp_eq (tgt := 810) E.1 E.2.1 dL_law_305 (by decide) (fun _ => ?_) (fun z => absurd rfl z)
  exact kk v' pd' rv' Ns' x' H locs hR' hw
set_option maxRecDepth 100000 in
set_option maxHeartbeats 4000000 in
theorem lk_fall (E : EN p c cL_law s m #[.ref sb] RL 4 G) (hX : va_X sb L xs s s.heap) (hbl : sb < s.heap.size) (hL : L ≤ 1536) (hXS : XS [] s) (hcs : cells ≤ 600000 ∧ slots ≤ 7302250) (hi : i + 3 ≤ L) (hT : T + 6039 < 2 ^ 31) (hR : Rl T v pd rv Ns x) (hw : HB G (fun q : Nat => s.heap.size ≤ q) s.heap (cW G b ad v pd rv Ns ++ mN G a (Ns 0) x) H locs) (hl : lv_has ls 4 [(0, .ref sb), (1, .ref (b 0)), (2, .ref (a 0)), (3, .int (nI i))]) (kk : ∀ (v pd rv : Nat → Int32) (Ns : Nat → NS) (x : MX) (H : Heap) (locs : List Loc), Rl (T + 6039) v pd rv Ns x → HB G (fun q : Nat => s.heap.size ≤ q) s.heap (cW G b ad v pd rv Ns ++ mN G a (Ns 0) x) H locs → W p l e room_1 s m #[.ref sb] below meth c H locs cells slots Q (F0 m 810 ls [])) : W p l e room_1 s m #[.ref sb] below meth c H locs cells slots Q (F0 m 310 ls []) := by
  obtain ⟨rmx, rmm, v', pd', rv', Ns', x', r, h1, h2, hM1, hM2, hR'⟩ := pr_fall l G b a ad hT hR (xs (i + 1))
  refine lv_aload_n E.1 E.2.1 dL_law_310 rfl (lv_at hl 1 rfl) ?_
  refine lv_aload_n E.1 E.2.1 dL_law_311 rfl (lv_at hl 0 rfl) ?_
  refine lv_iload_n E.1 E.2.1 dL_law_312 rfl (lv_at hl 3 rfl) ?_
  refine lv_iconst (v := nI 1) E.1 E.2.1 dL_law_313 (by decide) ?_
  refine lv_addN E.1 E.2.1 dL_law_314 ?_
  refine sldN E hw hX hbl hL (j := i + 1) (by omega) dL_law_315 ?_
  refine callVIp E hM1 ES.eb (fun _ _ _ => trivial) mw_14_5 YX3_fall ⟨h1.1, h1.2.1⟩ (rm_fit h1 (by decide)) hcs hw (List.Perm.refl _) (List.Perm.refl _) 0 rfl rfl rfl hl rfl (Nat.le_of_ble_eq_true rfl) dL_law_316 (fun H locs hw => ?_)
  refine lv_aload_n E.1 E.2.1 dL_law_319 rfl (lv_at hl 2 rfl) ?_
  refine lv_aload_n E.1 E.2.1 dL_law_320 rfl (lv_at hl 0 rfl) ?_
  refine lv_iload_n E.1 E.2.1 dL_law_321 rfl (lv_at hl 3 rfl) ?_
  refine lv_iconst (v := nI 1) E.1 E.2.1 dL_law_322 (by decide) ?_
  refine lv_addN E.1 E.2.1 dL_law_323 ?_
  refine sldN E hw hX hbl hL (j := i + 1) (by omega) dL_law_324 ?_
  refine callVIp E hM2 ES.eb (fun _ _ _ => trivial) mw_15_3 YX4_fall ⟨h2.1, h2.2.1⟩ (rm_fit h2 (by decide)) hcs hw List.perm_append_comm List.perm_append_comm 0 rfl rfl rfl hl rfl (Nat.le_of_ble_eq_true rfl) dL_law_325 (fun H locs hw => ?_)
  refine lv_icmp_eq (tgt := 810) E.1 E.2.1 dL_law_328 (by decide) (fun _ => ?_) (fun z => absurd rfl z)
  exact kk v' pd' rv' Ns' x' H locs hR' hw
set_option maxRecDepth 100000 in
set_option maxHeartbeats 4000000 in
theorem lk_rise (E : EN p c cL_law s m #[.ref sb] RL 4 G) (hX : va_X sb L xs s s.heap) (hbl : sb < s.heap.size) (hL : L ≤ 1536) (hXS : XS [] s) (hcs : cells ≤ 600000 ∧ slots ≤ 7302250) (hi : i + 3 ≤ L) (hT : T + 6039 < 2 ^ 31) (hR : Rl T v pd rv Ns x) (hw : HB G (fun q : Nat => s.heap.size ≤ q) s.heap (cW G b ad v pd rv Ns ++ mN G a (Ns 0) x) H locs) (hl : lv_has ls 4 [(0, .ref sb), (1, .ref (b 0)), (2, .ref (a 0)), (3, .int (nI i))]) (kk : ∀ (v pd rv : Nat → Int32) (Ns : Nat → NS) (x : MX) (H : Heap) (locs : List Loc), Rl (T + 6039) v pd rv Ns x → HB G (fun q : Nat => s.heap.size ≤ q) s.heap (cW G b ad v pd rv Ns ++ mN G a (Ns 0) x) H locs → W p l e room_1 s m #[.ref sb] below meth c H locs cells slots Q (F0 m 810 ls [])) : W p l e room_1 s m #[.ref sb] below meth c H locs cells slots Q (F0 m 333 ls []) := by
  obtain ⟨rmx, rmm, v', pd', rv', Ns', x', r, h1, h2, hM1, hM2, hR'⟩ := pr_rise l G b a ad hT hR (xs (i + 1))
  refine lv_aload_n E.1 E.2.1 dL_law_333 rfl (lv_at hl 1 rfl) ?_
  refine lv_aload_n E.1 E.2.1 dL_law_334 rfl (lv_at hl 0 rfl) ?_
  refine lv_iload_n E.1 E.2.1 dL_law_335 rfl (lv_at hl 3 rfl) ?_
  refine lv_iconst (v := nI 1) E.1 E.2.1 dL_law_336 (by decide) ?_
  refine lv_addN E.1 E.2.1 dL_law_337 ?_
  refine sldN E hw hX hbl hL (j := i + 1) (by omega) dL_law_338 ?_
  refine callVIp E hM1 ES.eb (fun _ _ _ => trivial) mw_15_15 YX3_rise ⟨h1.1, h1.2.1⟩ (rm_fit h1 (by decide)) hcs hw (List.Perm.refl _) (List.Perm.refl _) 0 rfl rfl rfl hl rfl (Nat.le_of_ble_eq_true rfl) dL_law_339 (fun H locs hw => ?_)
  refine lv_aload_n E.1 E.2.1 dL_law_342 rfl (lv_at hl 2 rfl) ?_
  refine lv_aload_n E.1 E.2.1 dL_law_343 rfl (lv_at hl 0 rfl) ?_
  refine lv_iload_n E.1 E.2.1 dL_law_344 rfl (lv_at hl 3 rfl) ?_
  refine lv_iconst (v := nI 1) E.1 E.2.1 dL_law_345 (by decide) ?_
  refine lv_addN E.1 E.2.1 dL_law_346 ?_
  refine sldN E hw hX hbl hL (j := i + 1) (by omega) dL_law_347 ?_
  refine callVIp E hM2 ES.eb (fun _ _ _ => trivial) mw_15_23 YX4_rise ⟨h2.1, h2.2.1⟩ (rm_fit h2 (by decide)) hcs hw List.perm_append_comm List.perm_append_comm 0 rfl rfl rfl hl rfl (Nat.le_of_ble_eq_true rfl) dL_law_348 (fun H locs hw => ?_)
  refine lv_icmp_eq (tgt := 810) E.1 E.2.1 dL_law_351 (by decide) (fun _ => ?_) (fun z => absurd rfl z)
  exact kk v' pd' rv' Ns' x' H locs hR' hw
set_option maxRecDepth 100000 in
set_option maxHeartbeats 4000000 in
theorem lk_ticks (E : EN p c cL_law s m #[.ref sb] RL 4 G) (hX : va_X sb L xs s s.heap) (hbl : sb < s.heap.size) (hL : L ≤ 1536) (hXS : XS [] s) (hcs : cells ≤ 600000 ∧ slots ≤ 7302250) (hi : i + 3 ≤ L) (hT : T + 6039 < 2 ^ 31) (hR : Rl T v pd rv Ns x) (hw : HB G (fun q : Nat => s.heap.size ≤ q) s.heap (cW G b ad v pd rv Ns ++ mN G a (Ns 0) x) H locs) (hl : lv_has ls 4 [(0, .ref sb), (1, .ref (b 0)), (2, .ref (a 0)), (3, .int (nI i))]) (kk : ∀ (v pd rv : Nat → Int32) (Ns : Nat → NS) (x : MX) (H : Heap) (locs : List Loc), Rl (T + 6039) v pd rv Ns x → HB G (fun q : Nat => s.heap.size ≤ q) s.heap (cW G b ad v pd rv Ns ++ mN G a (Ns 0) x) H locs → W p l e room_1 s m #[.ref sb] below meth c H locs cells slots Q (F0 m 810 ls [])) : W p l e room_1 s m #[.ref sb] below meth c H locs cells slots Q (F0 m 356 ls []) := by
  obtain ⟨rmx, rmm, v', pd', rv', Ns', x', r, h1, h2, hM1, hM2, hR'⟩ := pr_ticks l G b a ad hT hR (xs (i + 1))
  refine lv_aload_n E.1 E.2.1 dL_law_356 rfl (lv_at hl 1 rfl) ?_
  refine lv_aload_n E.1 E.2.1 dL_law_357 rfl (lv_at hl 0 rfl) ?_
  refine lv_iload_n E.1 E.2.1 dL_law_358 rfl (lv_at hl 3 rfl) ?_
  refine lv_iconst (v := nI 1) E.1 E.2.1 dL_law_359 (by decide) ?_
  refine lv_addN E.1 E.2.1 dL_law_360 ?_
  refine sldN E hw hX hbl hL (j := i + 1) (by omega) dL_law_361 ?_
  refine callVIp E hM1 ES.eb (fun _ _ _ => trivial) mw_16_3 YX3_ticks ⟨h1.1, h1.2.1⟩ (rm_fit h1 (by decide)) hcs hw (List.Perm.refl _) (List.Perm.refl _) 0 rfl rfl rfl hl rfl (Nat.le_of_ble_eq_true rfl) dL_law_362 (fun H locs hw => ?_)
  refine lv_aload_n E.1 E.2.1 dL_law_365 rfl (lv_at hl 2 rfl) ?_
  refine lv_aload_n E.1 E.2.1 dL_law_366 rfl (lv_at hl 0 rfl) ?_
  refine lv_iload_n E.1 E.2.1 dL_law_367 rfl (lv_at hl 3 rfl) ?_
  refine lv_iconst (v := nI 1) E.1 E.2.1 dL_law_368 (by decide) ?_
  refine lv_addN E.1 E.2.1 dL_law_369 ?_
  refine sldN E hw hX hbl hL (j := i + 1) (by omega) dL_law_370 ?_
  refine callVIp E hM2 ES.eb (fun _ _ _ => trivial) mw_17_3 YX4_ticks ⟨h2.1, h2.2.1⟩ (rm_fit h2 (by decide)) hcs hw List.perm_append_comm List.perm_append_comm 0 rfl rfl rfl hl rfl (Nat.le_of_ble_eq_true rfl) dL_law_371 (fun H locs hw => ?_)
  refine lv_icmp_eq (tgt := 810) E.1 E.2.1 dL_law_374 (by decide) (fun _ => ?_) (fun z => absurd rfl z)
  exact kk v' pd' rv' Ns' x' H locs hR' hw
set_option maxRecDepth 100000 in
set_option maxHeartbeats 4000000 in
theorem lk_ofDeal (E : EN p c cL_law s m #[.ref sb] RL 4 G) (hX : va_X sb L xs s s.heap) (hbl : sb < s.heap.size) (hL : L ≤ 1536) (hXS : XS [] s) (hcs : cells ≤ 600000 ∧ slots ≤ 7302250) (hi : i + 3 ≤ L) (hT : T + 6039 < 2 ^ 31) (hR : Rl T v pd rv Ns x) (hw : HB G (fun q : Nat => s.heap.size ≤ q) s.heap (cW G b ad v pd rv Ns ++ mN G a (Ns 0) x) H locs) (hl : lv_has ls 4 [(0, .ref sb), (1, .ref (b 0)), (2, .ref (a 0)), (3, .int (nI i))]) (kk : ∀ (v pd rv : Nat → Int32) (Ns : Nat → NS) (x : MX) (H : Heap) (locs : List Loc), Rl (T + 6039) v pd rv Ns x → HB G (fun q : Nat => s.heap.size ≤ q) s.heap (cW G b ad v pd rv Ns ++ mN G a (Ns 0) x) H locs → W p l e room_1 s m #[.ref sb] below meth c H locs cells slots Q (F0 m 810 ls [])) : W p l e room_1 s m #[.ref sb] below meth c H locs cells slots Q (F0 m 379 ls []) := by
  obtain ⟨rmx, rmm, v', pd', rv', Ns', x', r, h1, h2, hM1, hM2, hR'⟩ := pr_ofDeal l G b a ad hT hR (xs (i + 1)) (xs (i + 2))
  refine lv_aload_n E.1 E.2.1 dL_law_379 rfl (lv_at hl 1 rfl) ?_
  refine lv_aload_n E.1 E.2.1 dL_law_380 rfl (lv_at hl 0 rfl) ?_
  refine lv_iload_n E.1 E.2.1 dL_law_381 rfl (lv_at hl 3 rfl) ?_
  refine lv_iconst (v := nI 1) E.1 E.2.1 dL_law_382 (by decide) ?_
  refine lv_addN E.1 E.2.1 dL_law_383 ?_
  refine sldN E hw hX hbl hL (j := i + 1) (by omega) dL_law_384 ?_
  refine lv_aload_n E.1 E.2.1 dL_law_385 rfl (lv_at hl 0 rfl) ?_
  refine lv_iload_n E.1 E.2.1 dL_law_386 rfl (lv_at hl 3 rfl) ?_
  refine lv_iconst (v := nI 2) E.1 E.2.1 dL_law_387 (by decide) ?_
  refine lv_addN E.1 E.2.1 dL_law_388 ?_
  refine sldN E hw hX hbl hL (j := i + 2) (by omega) dL_law_389 ?_
  refine callVIp E hM1 ES.eb (fun _ _ _ => trivial) mw_17_22 YX3_ofDeal ⟨h1.1, h1.2.1⟩ (rm_fit h1 (by decide)) hcs hw (List.Perm.refl _) (List.Perm.refl _) 0 rfl rfl rfl hl rfl (Nat.le_of_ble_eq_true rfl) dL_law_390 (fun H locs hw => ?_)
  refine lv_aload_n E.1 E.2.1 dL_law_393 rfl (lv_at hl 2 rfl) ?_
  refine lv_aload_n E.1 E.2.1 dL_law_394 rfl (lv_at hl 0 rfl) ?_
  refine lv_iload_n E.1 E.2.1 dL_law_395 rfl (lv_at hl 3 rfl) ?_
  refine lv_iconst (v := nI 1) E.1 E.2.1 dL_law_396 (by decide) ?_
  refine lv_addN E.1 E.2.1 dL_law_397 ?_
  refine sldN E hw hX hbl hL (j := i + 1) (by omega) dL_law_398 ?_
  refine lv_aload_n E.1 E.2.1 dL_law_399 rfl (lv_at hl 0 rfl) ?_
  refine lv_iload_n E.1 E.2.1 dL_law_400 rfl (lv_at hl 3 rfl) ?_
  refine lv_iconst (v := nI 2) E.1 E.2.1 dL_law_401 (by decide) ?_
  refine lv_addN E.1 E.2.1 dL_law_402 ?_
  refine sldN E hw hX hbl hL (j := i + 2) (by omega) dL_law_403 ?_
  refine callVIp E hM2 ES.eb (fun _ _ _ => trivial) mw_18_10 YX4_ofDeal ⟨h2.1, h2.2.1⟩ (rm_fit h2 (by decide)) hcs hw List.perm_append_comm List.perm_append_comm 0 rfl rfl rfl hl rfl (Nat.le_of_ble_eq_true rfl) dL_law_404 (fun H locs hw => ?_)
  refine lv_icmp_eq (tgt := 810) E.1 E.2.1 dL_law_407 (by decide) (fun _ => ?_) (fun z => absurd rfl z)
  exact kk v' pd' rv' Ns' x' H locs hR' hw
set_option maxRecDepth 100000 in
set_option maxHeartbeats 4000000 in
theorem lk_at (E : EN p c cL_law s m #[.ref sb] RL 4 G) (hX : va_X sb L xs s s.heap) (hbl : sb < s.heap.size) (hL : L ≤ 1536) (hXS : XS [] s) (hcs : cells ≤ 600000 ∧ slots ≤ 7302250) (hi : i + 3 ≤ L) (hT : T + 6039 < 2 ^ 31) (hR : Rl T v pd rv Ns x) (hw : HB G (fun q : Nat => s.heap.size ≤ q) s.heap (cW G b ad v pd rv Ns ++ mN G a (Ns 0) x) H locs) (hl : lv_has ls 4 [(0, .ref sb), (1, .ref (b 0)), (2, .ref (a 0)), (3, .int (nI i))]) (kk : ∀ (v pd rv : Nat → Int32) (Ns : Nat → NS) (x : MX) (H : Heap) (locs : List Loc), Rl (T + 6039) v pd rv Ns x → HB G (fun q : Nat => s.heap.size ≤ q) s.heap (cW G b ad v pd rv Ns ++ mN G a (Ns 0) x) H locs → W p l e room_1 s m #[.ref sb] below meth c H locs cells slots Q (F0 m 810 ls [])) : W p l e room_1 s m #[.ref sb] below meth c H locs cells slots Q (F0 m 412 ls []) := by
  obtain ⟨rmx, rmm, v', pd', rv', Ns', x', r, h1, h2, hM1, hM2, hR'⟩ := pr_at l G b a ad hT hR (xs (i + 1)) (xs (i + 2))
  refine lv_aload_n E.1 E.2.1 dL_law_412 rfl (lv_at hl 1 rfl) ?_
  refine lv_aload_n E.1 E.2.1 dL_law_413 rfl (lv_at hl 0 rfl) ?_
  refine lv_iload_n E.1 E.2.1 dL_law_414 rfl (lv_at hl 3 rfl) ?_
  refine lv_iconst (v := nI 1) E.1 E.2.1 dL_law_415 (by decide) ?_
  refine lv_addN E.1 E.2.1 dL_law_416 ?_
  refine sldN E hw hX hbl hL (j := i + 1) (by omega) dL_law_417 ?_
  refine lv_aload_n E.1 E.2.1 dL_law_418 rfl (lv_at hl 0 rfl) ?_
  refine lv_iload_n E.1 E.2.1 dL_law_419 rfl (lv_at hl 3 rfl) ?_
  refine lv_iconst (v := nI 2) E.1 E.2.1 dL_law_420 (by decide) ?_
  refine lv_addN E.1 E.2.1 dL_law_421 ?_
  refine sldN E hw hX hbl hL (j := i + 2) (by omega) dL_law_422 ?_
  refine callVIp E hM1 ES.eb (fun _ _ _ => trivial) mw_18_22 YX3_at ⟨h1.1, h1.2.1⟩ (rm_fit h1 (by decide)) hcs hw (List.Perm.refl _) (List.Perm.refl _) 0 rfl rfl rfl hl rfl (Nat.le_of_ble_eq_true rfl) dL_law_423 (fun H locs hw => ?_)
  refine lv_aload_n E.1 E.2.1 dL_law_426 rfl (lv_at hl 2 rfl) ?_
  refine lv_aload_n E.1 E.2.1 dL_law_427 rfl (lv_at hl 0 rfl) ?_
  refine lv_iload_n E.1 E.2.1 dL_law_428 rfl (lv_at hl 3 rfl) ?_
  refine lv_iconst (v := nI 1) E.1 E.2.1 dL_law_429 (by decide) ?_
  refine lv_addN E.1 E.2.1 dL_law_430 ?_
  refine sldN E hw hX hbl hL (j := i + 1) (by omega) dL_law_431 ?_
  refine lv_aload_n E.1 E.2.1 dL_law_432 rfl (lv_at hl 0 rfl) ?_
  refine lv_iload_n E.1 E.2.1 dL_law_433 rfl (lv_at hl 3 rfl) ?_
  refine lv_iconst (v := nI 2) E.1 E.2.1 dL_law_434 (by decide) ?_
  refine lv_addN E.1 E.2.1 dL_law_435 ?_
  refine sldN E hw hX hbl hL (j := i + 2) (by omega) dL_law_436 ?_
  refine callVIp E hM2 ES.eb (fun _ _ _ => trivial) mw_19_6 YX4_at ⟨h2.1, h2.2.1⟩ (rm_fit h2 (by decide)) hcs hw List.perm_append_comm List.perm_append_comm 0 rfl rfl rfl hl rfl (Nat.le_of_ble_eq_true rfl) dL_law_437 (fun H locs hw => ?_)
  refine lv_icmp_eq (tgt := 810) E.1 E.2.1 dL_law_440 (by decide) (fun _ => ?_) (fun z => absurd rfl z)
  exact kk v' pd' rv' Ns' x' H locs hR' hw
set_option maxRecDepth 100000 in
set_option maxHeartbeats 4000000 in
theorem lk_message (E : EN p c cL_law s m #[.ref sb] RL 4 G) (hX : va_X sb L xs s s.heap) (hbl : sb < s.heap.size) (hL : L ≤ 1536) (hXS : XS [] s) (hcs : cells ≤ 600000 ∧ slots ≤ 7302250) (hi : i + 3 ≤ L) (hT : T + 6039 < 2 ^ 31) (hR : Rl T v pd rv Ns x) (hw : HB G (fun q : Nat => s.heap.size ≤ q) s.heap (cW G b ad v pd rv Ns ++ mN G a (Ns 0) x) H locs) (hl : lv_has ls 4 [(0, .ref sb), (1, .ref (b 0)), (2, .ref (a 0)), (3, .int (nI i))]) (kk : ∀ (v pd rv : Nat → Int32) (Ns : Nat → NS) (x : MX) (H : Heap) (locs : List Loc), Rl (T + 6039) v pd rv Ns x → HB G (fun q : Nat => s.heap.size ≤ q) s.heap (cW G b ad v pd rv Ns ++ mN G a (Ns 0) x) H locs → W p l e room_1 s m #[.ref sb] below meth c H locs cells slots Q (F0 m 810 ls [])) : W p l e room_1 s m #[.ref sb] below meth c H locs cells slots Q (F0 m 445 ls []) := by
  obtain ⟨rmx, rmm, v', pd', rv', Ns', x', r, h1, h2, hM1, hM2, hR'⟩ := pr_message l G b a ad hT hR (xs (i + 1)) (xs (i + 2))
  refine lv_aload_n E.1 E.2.1 dL_law_445 rfl (lv_at hl 1 rfl) ?_
  refine lv_aload_n E.1 E.2.1 dL_law_446 rfl (lv_at hl 0 rfl) ?_
  refine lv_iload_n E.1 E.2.1 dL_law_447 rfl (lv_at hl 3 rfl) ?_
  refine lv_iconst (v := nI 1) E.1 E.2.1 dL_law_448 (by decide) ?_
  refine lv_addN E.1 E.2.1 dL_law_449 ?_
  refine sldN E hw hX hbl hL (j := i + 1) (by omega) dL_law_450 ?_
  refine lv_aload_n E.1 E.2.1 dL_law_451 rfl (lv_at hl 0 rfl) ?_
  refine lv_iload_n E.1 E.2.1 dL_law_452 rfl (lv_at hl 3 rfl) ?_
  refine lv_iconst (v := nI 2) E.1 E.2.1 dL_law_453 (by decide) ?_
  refine lv_addN E.1 E.2.1 dL_law_454 ?_
  refine sldN E hw hX hbl hL (j := i + 2) (by omega) dL_law_455 ?_
  refine callVIp E hM1 ES.eb (fun _ _ _ => trivial) mw_19_10 YX3_message ⟨h1.1, h1.2.1⟩ (rm_fit h1 (by decide)) hcs hw (List.Perm.refl _) (List.Perm.refl _) 0 rfl rfl rfl hl rfl (Nat.le_of_ble_eq_true rfl) dL_law_456 (fun H locs hw => ?_)
  refine lv_aload_n E.1 E.2.1 dL_law_459 rfl (lv_at hl 2 rfl) ?_
  refine lv_aload_n E.1 E.2.1 dL_law_460 rfl (lv_at hl 0 rfl) ?_
  refine lv_iload_n E.1 E.2.1 dL_law_461 rfl (lv_at hl 3 rfl) ?_
  refine lv_iconst (v := nI 1) E.1 E.2.1 dL_law_462 (by decide) ?_
  refine lv_addN E.1 E.2.1 dL_law_463 ?_
  refine sldN E hw hX hbl hL (j := i + 1) (by omega) dL_law_464 ?_
  refine lv_aload_n E.1 E.2.1 dL_law_465 rfl (lv_at hl 0 rfl) ?_
  refine lv_iload_n E.1 E.2.1 dL_law_466 rfl (lv_at hl 3 rfl) ?_
  refine lv_iconst (v := nI 2) E.1 E.2.1 dL_law_467 (by decide) ?_
  refine lv_addN E.1 E.2.1 dL_law_468 ?_
  refine sldN E hw hX hbl hL (j := i + 2) (by omega) dL_law_469 ?_
  refine callVIp E hM2 ES.eb (fun _ _ _ => trivial) mw_19_21 YX4_message ⟨h2.1, h2.2.1⟩ (rm_fit h2 (by decide)) hcs hw List.perm_append_comm List.perm_append_comm 0 rfl rfl rfl hl rfl (Nat.le_of_ble_eq_true rfl) dL_law_470 (fun H locs hw => ?_)
  refine lv_icmp_eq (tgt := 810) E.1 E.2.1 dL_law_473 (by decide) (fun _ => ?_) (fun z => absurd rfl z)
  exact kk v' pd' rv' Ns' x' H locs hR' hw
set_option maxRecDepth 100000 in
set_option maxHeartbeats 4000000 in
theorem lk_who (E : EN p c cL_law s m #[.ref sb] RL 4 G) (hX : va_X sb L xs s s.heap) (hbl : sb < s.heap.size) (hL : L ≤ 1536) (hXS : XS [] s) (hcs : cells ≤ 600000 ∧ slots ≤ 7302250) (hi : i + 3 ≤ L) (hT : T + 6039 < 2 ^ 31) (hR : Rl T v pd rv Ns x) (hw : HB G (fun q : Nat => s.heap.size ≤ q) s.heap (cW G b ad v pd rv Ns ++ mN G a (Ns 0) x) H locs) (hl : lv_has ls 4 [(0, .ref sb), (1, .ref (b 0)), (2, .ref (a 0)), (3, .int (nI i))]) (kk : ∀ (v pd rv : Nat → Int32) (Ns : Nat → NS) (x : MX) (H : Heap) (locs : List Loc), Rl (T + 6039) v pd rv Ns x → HB G (fun q : Nat => s.heap.size ≤ q) s.heap (cW G b ad v pd rv Ns ++ mN G a (Ns 0) x) H locs → W p l e room_1 s m #[.ref sb] below meth c H locs cells slots Q (F0 m 810 ls [])) : W p l e room_1 s m #[.ref sb] below meth c H locs cells slots Q (F0 m 478 ls []) := by
  obtain ⟨rmx, rmm, v', pd', rv', Ns', x', r, h1, h2, hM1, hM2, hR'⟩ := pr_who l G b a ad hT hR (xs (i + 1)) (xs (i + 2))
  refine lv_aload_n E.1 E.2.1 dL_law_478 rfl (lv_at hl 1 rfl) ?_
  refine lv_aload_n E.1 E.2.1 dL_law_479 rfl (lv_at hl 0 rfl) ?_
  refine lv_iload_n E.1 E.2.1 dL_law_480 rfl (lv_at hl 3 rfl) ?_
  refine lv_iconst (v := nI 1) E.1 E.2.1 dL_law_481 (by decide) ?_
  refine lv_addN E.1 E.2.1 dL_law_482 ?_
  refine sldN E hw hX hbl hL (j := i + 1) (by omega) dL_law_483 ?_
  refine lv_aload_n E.1 E.2.1 dL_law_484 rfl (lv_at hl 0 rfl) ?_
  refine lv_iload_n E.1 E.2.1 dL_law_485 rfl (lv_at hl 3 rfl) ?_
  refine lv_iconst (v := nI 2) E.1 E.2.1 dL_law_486 (by decide) ?_
  refine lv_addN E.1 E.2.1 dL_law_487 ?_
  refine sldN E hw hX hbl hL (j := i + 2) (by omega) dL_law_488 ?_
  refine callVIp E hM1 ES.eb (fun _ _ _ => trivial) mw_20_1 YX3_who ⟨h1.1, h1.2.1⟩ (rm_fit h1 (by decide)) hcs hw (List.Perm.refl _) (List.Perm.refl _) 0 rfl rfl rfl hl rfl (Nat.le_of_ble_eq_true rfl) dL_law_489 (fun H locs hw => ?_)
  refine lv_aload_n E.1 E.2.1 dL_law_492 rfl (lv_at hl 2 rfl) ?_
  refine lv_aload_n E.1 E.2.1 dL_law_493 rfl (lv_at hl 0 rfl) ?_
  refine lv_iload_n E.1 E.2.1 dL_law_494 rfl (lv_at hl 3 rfl) ?_
  refine lv_iconst (v := nI 1) E.1 E.2.1 dL_law_495 (by decide) ?_
  refine lv_addN E.1 E.2.1 dL_law_496 ?_
  refine sldN E hw hX hbl hL (j := i + 1) (by omega) dL_law_497 ?_
  refine lv_aload_n E.1 E.2.1 dL_law_498 rfl (lv_at hl 0 rfl) ?_
  refine lv_iload_n E.1 E.2.1 dL_law_499 rfl (lv_at hl 3 rfl) ?_
  refine lv_iconst (v := nI 2) E.1 E.2.1 dL_law_500 (by decide) ?_
  refine lv_addN E.1 E.2.1 dL_law_501 ?_
  refine sldN E hw hX hbl hL (j := i + 2) (by omega) dL_law_502 ?_
  refine callVIp E hM2 ES.eb (fun _ _ _ => trivial) mw_20_14 YX4_who ⟨h2.1, h2.2.1⟩ (rm_fit h2 (by decide)) hcs hw List.perm_append_comm List.perm_append_comm 0 rfl rfl rfl hl rfl (Nat.le_of_ble_eq_true rfl) dL_law_503 (fun H locs hw => ?_)
  refine lv_icmp_eq (tgt := 810) E.1 E.2.1 dL_law_506 (by decide) (fun _ => ?_) (fun z => absurd rfl z)
  exact kk v' pd' rv' Ns' x' H locs hR' hw
set_option maxRecDepth 100000 in
set_option maxHeartbeats 4000000 in
theorem lk_count (E : EN p c cL_law s m #[.ref sb] RL 4 G) (hX : va_X sb L xs s s.heap) (hbl : sb < s.heap.size) (hL : L ≤ 1536) (hXS : XS [] s) (hcs : cells ≤ 600000 ∧ slots ≤ 7302250) (hi : i + 3 ≤ L) (hT : T + 6039 < 2 ^ 31) (hR : Rl T v pd rv Ns x) (hw : HB G (fun q : Nat => s.heap.size ≤ q) s.heap (cW G b ad v pd rv Ns ++ mN G a (Ns 0) x) H locs) (hl : lv_has ls 4 [(0, .ref sb), (1, .ref (b 0)), (2, .ref (a 0)), (3, .int (nI i))]) (kk : ∀ (v pd rv : Nat → Int32) (Ns : Nat → NS) (x : MX) (H : Heap) (locs : List Loc), Rl (T + 6039) v pd rv Ns x → HB G (fun q : Nat => s.heap.size ≤ q) s.heap (cW G b ad v pd rv Ns ++ mN G a (Ns 0) x) H locs → W p l e room_1 s m #[.ref sb] below meth c H locs cells slots Q (F0 m 810 ls [])) : W p l e room_1 s m #[.ref sb] below meth c H locs cells slots Q (F0 m 511 ls []) := by
  obtain ⟨rmx, rmm, v', pd', rv', Ns', x', r, h1, h2, hM1, hM2, hR'⟩ := pr_count l G b a ad hT hR (xs (i + 1))
  refine lv_aload_n E.1 E.2.1 dL_law_511 rfl (lv_at hl 1 rfl) ?_
  refine lv_aload_n E.1 E.2.1 dL_law_512 rfl (lv_at hl 0 rfl) ?_
  refine lv_iload_n E.1 E.2.1 dL_law_513 rfl (lv_at hl 3 rfl) ?_
  refine lv_iconst (v := nI 1) E.1 E.2.1 dL_law_514 (by decide) ?_
  refine lv_addN E.1 E.2.1 dL_law_515 ?_
  refine sldN E hw hX hbl hL (j := i + 1) (by omega) dL_law_516 ?_
  refine callVIp E hM1 ES.eb (fun _ _ _ => trivial) mw_20_22 YX3_count ⟨h1.1, h1.2.1⟩ (rm_fit h1 (by decide)) hcs hw (List.Perm.refl _) (List.Perm.refl _) 0 rfl rfl rfl hl rfl (Nat.le_of_ble_eq_true rfl) dL_law_517 (fun H locs hw => ?_)
  refine lv_aload_n E.1 E.2.1 dL_law_520 rfl (lv_at hl 2 rfl) ?_
  refine lv_aload_n E.1 E.2.1 dL_law_521 rfl (lv_at hl 0 rfl) ?_
  refine lv_iload_n E.1 E.2.1 dL_law_522 rfl (lv_at hl 3 rfl) ?_
  refine lv_iconst (v := nI 1) E.1 E.2.1 dL_law_523 (by decide) ?_
  refine lv_addN E.1 E.2.1 dL_law_524 ?_
  refine sldN E hw hX hbl hL (j := i + 1) (by omega) dL_law_525 ?_
  refine callVIp E hM2 ES.eb (fun _ _ _ => trivial) mw_21_15 YX4_count ⟨h2.1, h2.2.1⟩ (rm_fit h2 (by decide)) hcs hw List.perm_append_comm List.perm_append_comm 0 rfl rfl rfl hl rfl (Nat.le_of_ble_eq_true rfl) dL_law_526 (fun H locs hw => ?_)
  refine lv_icmp_eq (tgt := 810) E.1 E.2.1 dL_law_529 (by decide) (fun _ => ?_) (fun z => absurd rfl z)
  exact kk v' pd' rv' Ns' x' H locs hR' hw
set_option maxRecDepth 100000 in
set_option maxHeartbeats 4000000 in
theorem lk_sure (E : EN p c cL_law s m #[.ref sb] RL 4 G) (hX : va_X sb L xs s s.heap) (hbl : sb < s.heap.size) (hL : L ≤ 1536) (hXS : XS [] s) (hcs : cells ≤ 600000 ∧ slots ≤ 7302250) (hi : i + 3 ≤ L) (hT : T + 6039 < 2 ^ 31) (hR : Rl T v pd rv Ns x) (hw : HB G (fun q : Nat => s.heap.size ≤ q) s.heap (cW G b ad v pd rv Ns ++ mN G a (Ns 0) x) H locs) (hl : lv_has ls 4 [(0, .ref sb), (1, .ref (b 0)), (2, .ref (a 0)), (3, .int (nI i))]) (kk : ∀ (v pd rv : Nat → Int32) (Ns : Nat → NS) (x : MX) (H : Heap) (locs : List Loc), Rl (T + 6039) v pd rv Ns x → HB G (fun q : Nat => s.heap.size ≤ q) s.heap (cW G b ad v pd rv Ns ++ mN G a (Ns 0) x) H locs → W p l e room_1 s m #[.ref sb] below meth c H locs cells slots Q (F0 m 810 ls [])) : W p l e room_1 s m #[.ref sb] below meth c H locs cells slots Q (F0 m 534 ls []) := by
  obtain ⟨rmx, rmm, v', pd', rv', Ns', x', r, h1, h2, hM1, hM2, hR'⟩ := pr_sure l G b a ad hT hR (xs (i + 1))
  refine lv_aload_n E.1 E.2.1 dL_law_534 rfl (lv_at hl 1 rfl) ?_
  refine lv_aload_n E.1 E.2.1 dL_law_535 rfl (lv_at hl 0 rfl) ?_
  refine lv_iload_n E.1 E.2.1 dL_law_536 rfl (lv_at hl 3 rfl) ?_
  refine lv_iconst (v := nI 1) E.1 E.2.1 dL_law_537 (by decide) ?_
  refine lv_addN E.1 E.2.1 dL_law_538 ?_
  refine sldN E hw hX hbl hL (j := i + 1) (by omega) dL_law_539 ?_
  refine callVIp E hM1 ES.eb (fun _ _ _ => trivial) mw_22_0 YX3_sure ⟨h1.1, h1.2.1⟩ (rm_fit h1 (by decide)) hcs hw (List.Perm.refl _) (List.Perm.refl _) 0 rfl rfl rfl hl rfl (Nat.le_of_ble_eq_true rfl) dL_law_540 (fun H locs hw => ?_)
  refine lv_aload_n E.1 E.2.1 dL_law_543 rfl (lv_at hl 2 rfl) ?_
  refine lv_aload_n E.1 E.2.1 dL_law_544 rfl (lv_at hl 0 rfl) ?_
  refine lv_iload_n E.1 E.2.1 dL_law_545 rfl (lv_at hl 3 rfl) ?_
  refine lv_iconst (v := nI 1) E.1 E.2.1 dL_law_546 (by decide) ?_
  refine lv_addN E.1 E.2.1 dL_law_547 ?_
  refine sldN E hw hX hbl hL (j := i + 1) (by omega) dL_law_548 ?_
  refine callVIp E hM2 ES.eb (fun _ _ _ => trivial) mw_22_8 YX4_sure ⟨h2.1, h2.2.1⟩ (rm_fit h2 (by decide)) hcs hw List.perm_append_comm List.perm_append_comm 0 rfl rfl rfl hl rfl (Nat.le_of_ble_eq_true rfl) dL_law_549 (fun H locs hw => ?_)
  refine lv_icmp_eq (tgt := 810) E.1 E.2.1 dL_law_552 (by decide) (fun _ => ?_) (fun z => absurd rfl z)
  exact kk v' pd' rv' Ns' x' H locs hR' hw
set_option maxRecDepth 100000 in
set_option maxHeartbeats 4000000 in
theorem lk_couldAsk (E : EN p c cL_law s m #[.ref sb] RL 4 G) (hX : va_X sb L xs s s.heap) (hbl : sb < s.heap.size) (hL : L ≤ 1536) (hXS : XS [] s) (hcs : cells ≤ 600000 ∧ slots ≤ 7302250) (hi : i + 3 ≤ L) (hT : T + 6039 < 2 ^ 31) (hR : Rl T v pd rv Ns x) (hw : HB G (fun q : Nat => s.heap.size ≤ q) s.heap (cW G b ad v pd rv Ns ++ mN G a (Ns 0) x) H locs) (hl : lv_has ls 4 [(0, .ref sb), (1, .ref (b 0)), (2, .ref (a 0)), (3, .int (nI i))]) (kk : ∀ (v pd rv : Nat → Int32) (Ns : Nat → NS) (x : MX) (H : Heap) (locs : List Loc), Rl (T + 6039) v pd rv Ns x → HB G (fun q : Nat => s.heap.size ≤ q) s.heap (cW G b ad v pd rv Ns ++ mN G a (Ns 0) x) H locs → W p l e room_1 s m #[.ref sb] below meth c H locs cells slots Q (F0 m 810 ls [])) : W p l e room_1 s m #[.ref sb] below meth c H locs cells slots Q (F0 m 557 ls []) := by
  obtain ⟨rmx, rmm, v', pd', rv', Ns', x', r, h1, h2, hM1, hM2, hR'⟩ := pr_couldAsk l G b a ad hT hR (xs (i + 1))
  refine lv_aload_n E.1 E.2.1 dL_law_557 rfl (lv_at hl 1 rfl) ?_
  refine lv_aload_n E.1 E.2.1 dL_law_558 rfl (lv_at hl 0 rfl) ?_
  refine lv_iload_n E.1 E.2.1 dL_law_559 rfl (lv_at hl 3 rfl) ?_
  refine lv_iconst (v := nI 1) E.1 E.2.1 dL_law_560 (by decide) ?_
  refine lv_addN E.1 E.2.1 dL_law_561 ?_
  refine sldN E hw hX hbl hL (j := i + 1) (by omega) dL_law_562 ?_
  refine callVIp E hM1 ES.eb (fun _ _ _ => trivial) mw_22_12 YX3_couldAsk ⟨h1.1, h1.2.1⟩ (rm_fit h1 (by decide)) hcs hw (List.Perm.refl _) (List.Perm.refl _) 0 rfl rfl rfl hl rfl (Nat.le_of_ble_eq_true rfl) dL_law_563 (fun H locs hw => ?_)
  refine lv_aload_n E.1 E.2.1 dL_law_566 rfl (lv_at hl 2 rfl) ?_
  refine lv_aload_n E.1 E.2.1 dL_law_567 rfl (lv_at hl 0 rfl) ?_
  refine lv_iload_n E.1 E.2.1 dL_law_568 rfl (lv_at hl 3 rfl) ?_
  refine lv_iconst (v := nI 1) E.1 E.2.1 dL_law_569 (by decide) ?_
  refine lv_addN E.1 E.2.1 dL_law_570 ?_
  refine sldN E hw hX hbl hL (j := i + 1) (by omega) dL_law_571 ?_
  refine callVIp E hM2 ES.eb (fun _ _ _ => trivial) mw_22_20 YX4_couldAsk ⟨h2.1, h2.2.1⟩ (rm_fit h2 (by decide)) hcs hw List.perm_append_comm List.perm_append_comm 0 rfl rfl rfl hl rfl (Nat.le_of_ble_eq_true rfl) dL_law_572 (fun H locs hw => ?_)
  refine lv_icmp_eq (tgt := 810) E.1 E.2.1 dL_law_575 (by decide) (fun _ => ?_) (fun z => absurd rfl z)
  exact kk v' pd' rv' Ns' x' H locs hR' hw
set_option maxRecDepth 100000 in
set_option maxHeartbeats 4000000 in
theorem lk_settledIn (E : EN p c cL_law s m #[.ref sb] RL 4 G) (hX : va_X sb L xs s s.heap) (hbl : sb < s.heap.size) (hL : L ≤ 1536) (hXS : XS [] s) (hcs : cells ≤ 600000 ∧ slots ≤ 7302250) (hi : i + 3 ≤ L) (hT : T + 6039 < 2 ^ 31) (hR : Rl T v pd rv Ns x) (hw : HB G (fun q : Nat => s.heap.size ≤ q) s.heap (cW G b ad v pd rv Ns ++ mN G a (Ns 0) x) H locs) (hl : lv_has ls 4 [(0, .ref sb), (1, .ref (b 0)), (2, .ref (a 0)), (3, .int (nI i))]) (kk : ∀ (v pd rv : Nat → Int32) (Ns : Nat → NS) (x : MX) (H : Heap) (locs : List Loc), Rl (T + 6039) v pd rv Ns x → HB G (fun q : Nat => s.heap.size ≤ q) s.heap (cW G b ad v pd rv Ns ++ mN G a (Ns 0) x) H locs → W p l e room_1 s m #[.ref sb] below meth c H locs cells slots Q (F0 m 810 ls [])) : W p l e room_1 s m #[.ref sb] below meth c H locs cells slots Q (F0 m 580 ls []) := by
  obtain ⟨rmx, rmm, v', pd', rv', Ns', x', r, h1, h2, hM1, hM2, hR'⟩ := pr_settledIn l G b a ad hT hR (xs (i + 1))
  refine lv_aload_n E.1 E.2.1 dL_law_580 rfl (lv_at hl 1 rfl) ?_
  refine lv_aload_n E.1 E.2.1 dL_law_581 rfl (lv_at hl 0 rfl) ?_
  refine lv_iload_n E.1 E.2.1 dL_law_582 rfl (lv_at hl 3 rfl) ?_
  refine lv_iconst (v := nI 1) E.1 E.2.1 dL_law_583 (by decide) ?_
  refine lv_addN E.1 E.2.1 dL_law_584 ?_
  refine sldN E hw hX hbl hL (j := i + 1) (by omega) dL_law_585 ?_
  refine callVIp E hM1 ES.eb (fun _ _ _ => trivial) mw_23_4 YX3_settledIn ⟨h1.1, h1.2.1⟩ (rm_fit h1 (by decide)) hcs hw (List.Perm.refl _) (List.Perm.refl _) 0 rfl rfl rfl hl rfl (Nat.le_of_ble_eq_true rfl) dL_law_586 (fun H locs hw => ?_)
  refine lv_aload_n E.1 E.2.1 dL_law_589 rfl (lv_at hl 2 rfl) ?_
  refine lv_aload_n E.1 E.2.1 dL_law_590 rfl (lv_at hl 0 rfl) ?_
  refine lv_iload_n E.1 E.2.1 dL_law_591 rfl (lv_at hl 3 rfl) ?_
  refine lv_iconst (v := nI 1) E.1 E.2.1 dL_law_592 (by decide) ?_
  refine lv_addN E.1 E.2.1 dL_law_593 ?_
  refine sldN E hw hX hbl hL (j := i + 1) (by omega) dL_law_594 ?_
  refine callVIp E hM2 ES.eb (fun _ _ _ => trivial) mw_23_22 YX4_settledIn ⟨h2.1, h2.2.1⟩ (rm_fit h2 (by decide)) hcs hw List.perm_append_comm List.perm_append_comm 0 rfl rfl rfl hl rfl (Nat.le_of_ble_eq_true rfl) dL_law_595 (fun H locs hw => ?_)
  refine lv_icmp_eq (tgt := 810) E.1 E.2.1 dL_law_598 (by decide) (fun _ => ?_) (fun z => absurd rfl z)
  exact kk v' pd' rv' Ns' x' H locs hR' hw
set_option maxRecDepth 100000 in
set_option maxHeartbeats 4000000 in
theorem lk_underwayIn (E : EN p c cL_law s m #[.ref sb] RL 4 G) (hX : va_X sb L xs s s.heap) (hbl : sb < s.heap.size) (hL : L ≤ 1536) (hXS : XS [] s) (hcs : cells ≤ 600000 ∧ slots ≤ 7302250) (hi : i + 3 ≤ L) (hT : T + 6039 < 2 ^ 31) (hR : Rl T v pd rv Ns x) (hw : HB G (fun q : Nat => s.heap.size ≤ q) s.heap (cW G b ad v pd rv Ns ++ mN G a (Ns 0) x) H locs) (hl : lv_has ls 4 [(0, .ref sb), (1, .ref (b 0)), (2, .ref (a 0)), (3, .int (nI i))]) (kk : ∀ (v pd rv : Nat → Int32) (Ns : Nat → NS) (x : MX) (H : Heap) (locs : List Loc), Rl (T + 6039) v pd rv Ns x → HB G (fun q : Nat => s.heap.size ≤ q) s.heap (cW G b ad v pd rv Ns ++ mN G a (Ns 0) x) H locs → W p l e room_1 s m #[.ref sb] below meth c H locs cells slots Q (F0 m 810 ls [])) : W p l e room_1 s m #[.ref sb] below meth c H locs cells slots Q (F0 m 603 ls []) := by
  obtain ⟨rmx, rmm, v', pd', rv', Ns', x', r, h1, h2, hM1, hM2, hR'⟩ := pr_underwayIn l G b a ad hT hR (xs (i + 1))
  refine lv_aload_n E.1 E.2.1 dL_law_603 rfl (lv_at hl 1 rfl) ?_
  refine lv_aload_n E.1 E.2.1 dL_law_604 rfl (lv_at hl 0 rfl) ?_
  refine lv_iload_n E.1 E.2.1 dL_law_605 rfl (lv_at hl 3 rfl) ?_
  refine lv_iconst (v := nI 1) E.1 E.2.1 dL_law_606 (by decide) ?_
  refine lv_addN E.1 E.2.1 dL_law_607 ?_
  refine sldN E hw hX hbl hL (j := i + 1) (by omega) dL_law_608 ?_
  refine callVIp E hM1 ES.eb (fun _ _ _ => trivial) mw_24_22 YX3_underwayIn ⟨h1.1, h1.2.1⟩ (rm_fit h1 (by decide)) hcs hw (List.Perm.refl _) (List.Perm.refl _) 0 rfl rfl rfl hl rfl (Nat.le_of_ble_eq_true rfl) dL_law_609 (fun H locs hw => ?_)
  refine lv_aload_n E.1 E.2.1 dL_law_612 rfl (lv_at hl 2 rfl) ?_
  refine lv_aload_n E.1 E.2.1 dL_law_613 rfl (lv_at hl 0 rfl) ?_
  refine lv_iload_n E.1 E.2.1 dL_law_614 rfl (lv_at hl 3 rfl) ?_
  refine lv_iconst (v := nI 1) E.1 E.2.1 dL_law_615 (by decide) ?_
  refine lv_addN E.1 E.2.1 dL_law_616 ?_
  refine sldN E hw hX hbl hL (j := i + 1) (by omega) dL_law_617 ?_
  refine callVIp E hM2 ES.eb (fun _ _ _ => trivial) mw_25_4 YX4_underwayIn ⟨h2.1, h2.2.1⟩ (rm_fit h2 (by decide)) hcs hw List.perm_append_comm List.perm_append_comm 0 rfl rfl rfl hl rfl (Nat.le_of_ble_eq_true rfl) dL_law_618 (fun H locs hw => ?_)
  refine lv_icmp_eq (tgt := 810) E.1 E.2.1 dL_law_621 (by decide) (fun _ => ?_) (fun z => absurd rfl z)
  exact kk v' pd' rv' Ns' x' H locs hR' hw
set_option maxRecDepth 100000 in
set_option maxHeartbeats 4000000 in
theorem lk_worstLoss (E : EN p c cL_law s m #[.ref sb] RL 4 G) (hX : va_X sb L xs s s.heap) (hbl : sb < s.heap.size) (hL : L ≤ 1536) (hXS : XS [] s) (hcs : cells ≤ 600000 ∧ slots ≤ 7302250) (hi : i + 3 ≤ L) (hT : T + 6039 < 2 ^ 31) (hR : Rl T v pd rv Ns x) (hw : HB G (fun q : Nat => s.heap.size ≤ q) s.heap (cW G b ad v pd rv Ns ++ mN G a (Ns 0) x) H locs) (hl : lv_has ls 4 [(0, .ref sb), (1, .ref (b 0)), (2, .ref (a 0)), (3, .int (nI i))]) (kk : ∀ (v pd rv : Nat → Int32) (Ns : Nat → NS) (x : MX) (H : Heap) (locs : List Loc), Rl (T + 6039) v pd rv Ns x → HB G (fun q : Nat => s.heap.size ≤ q) s.heap (cW G b ad v pd rv Ns ++ mN G a (Ns 0) x) H locs → W p l e room_1 s m #[.ref sb] below meth c H locs cells slots Q (F0 m 810 ls [])) : W p l e room_1 s m #[.ref sb] below meth c H locs cells slots Q (F0 m 626 ls []) := by
  obtain ⟨rmx, rmm, v', pd', rv', Ns', x', r, h1, h2, hM1, hM2, hR'⟩ := pr_worstLoss l G b a ad hT hR (xs (i + 1)) (xs (i + 2))
  refine lv_aload_n E.1 E.2.1 dL_law_626 rfl (lv_at hl 1 rfl) ?_
  refine lv_aload_n E.1 E.2.1 dL_law_627 rfl (lv_at hl 0 rfl) ?_
  refine lv_iload_n E.1 E.2.1 dL_law_628 rfl (lv_at hl 3 rfl) ?_
  refine lv_iconst (v := nI 1) E.1 E.2.1 dL_law_629 (by decide) ?_
  refine lv_addN E.1 E.2.1 dL_law_630 ?_
  refine sldN E hw hX hbl hL (j := i + 1) (by omega) dL_law_631 ?_
  refine lv_aload_n E.1 E.2.1 dL_law_632 rfl (lv_at hl 0 rfl) ?_
  refine lv_iload_n E.1 E.2.1 dL_law_633 rfl (lv_at hl 3 rfl) ?_
  refine lv_iconst (v := nI 2) E.1 E.2.1 dL_law_634 (by decide) ?_
  refine lv_addN E.1 E.2.1 dL_law_635 ?_
  refine sldN E hw hX hbl hL (j := i + 2) (by omega) dL_law_636 ?_
  refine callVIp E hM1 ES.eb (fun _ _ _ => trivial) mw_25_8 YX3_worstLoss ⟨h1.1, h1.2.1⟩ (rm_fit h1 (by decide)) hcs hw (List.Perm.refl _) (List.Perm.refl _) 0 rfl rfl rfl hl rfl (Nat.le_of_ble_eq_true rfl) dL_law_637 (fun H locs hw => ?_)
  refine lv_aload_n E.1 E.2.1 dL_law_640 rfl (lv_at hl 2 rfl) ?_
  refine lv_aload_n E.1 E.2.1 dL_law_641 rfl (lv_at hl 0 rfl) ?_
  refine lv_iload_n E.1 E.2.1 dL_law_642 rfl (lv_at hl 3 rfl) ?_
  refine lv_iconst (v := nI 1) E.1 E.2.1 dL_law_643 (by decide) ?_
  refine lv_addN E.1 E.2.1 dL_law_644 ?_
  refine sldN E hw hX hbl hL (j := i + 1) (by omega) dL_law_645 ?_
  refine lv_aload_n E.1 E.2.1 dL_law_646 rfl (lv_at hl 0 rfl) ?_
  refine lv_iload_n E.1 E.2.1 dL_law_647 rfl (lv_at hl 3 rfl) ?_
  refine lv_iconst (v := nI 2) E.1 E.2.1 dL_law_648 (by decide) ?_
  refine lv_addN E.1 E.2.1 dL_law_649 ?_
  refine sldN E hw hX hbl hL (j := i + 2) (by omega) dL_law_650 ?_
  refine callVIp E hM2 ES.eb (fun _ _ _ => trivial) mw_25_12 YX4_worstLoss ⟨h2.1, h2.2.1⟩ (rm_fit h2 (by decide)) hcs hw List.perm_append_comm List.perm_append_comm 0 rfl rfl rfl hl rfl (Nat.le_of_ble_eq_true rfl) dL_law_651 (fun H locs hw => ?_)
  refine lv_icmp_eq (tgt := 810) E.1 E.2.1 dL_law_654 (by decide) (fun _ => ?_) (fun z => absurd rfl z)
  exact kk v' pd' rv' Ns' x' H locs hR' hw
set_option maxRecDepth 100000 in
set_option maxHeartbeats 4000000 in
theorem lk_put (E : EN p c cL_law s m #[.ref sb] RL 4 G) (hX : va_X sb L xs s s.heap) (hbl : sb < s.heap.size) (hL : L ≤ 1536) (hXS : XS [] s) (hcs : cells ≤ 600000 ∧ slots ≤ 7302250) (hi : i + 3 ≤ L) (hT : T + 6039 < 2 ^ 31) (hR : Rl T v pd rv Ns x) (hw : HB G (fun q : Nat => s.heap.size ≤ q) s.heap (cW G b ad v pd rv Ns ++ mN G a (Ns 0) x) H locs) (hl : lv_has ls 4 [(0, .ref sb), (1, .ref (b 0)), (2, .ref (a 0)), (3, .int (nI i))]) (kk : ∀ (v pd rv : Nat → Int32) (Ns : Nat → NS) (x : MX) (H : Heap) (locs : List Loc), Rl (T + 6039) v pd rv Ns x → HB G (fun q : Nat => s.heap.size ≤ q) s.heap (cW G b ad v pd rv Ns ++ mN G a (Ns 0) x) H locs → W p l e room_1 s m #[.ref sb] below meth c H locs cells slots Q (F0 m 810 ls [])) : W p l e room_1 s m #[.ref sb] below meth c H locs cells slots Q (F0 m 659 ls []) := by
  obtain ⟨rmx, rmm, v', pd', rv', Ns', x', r, h1, h2, hM1, hM2, hR'⟩ := pr_put l G b a ad hT hR (((xs (i + 1)).toInt64 <<< ((nI 32).toInt64 &&& 63)) ||| ((xs (i + 2)).toInt64 &&& 4294967295))
  refine lv_aload_n E.1 E.2.1 dL_law_659 rfl (lv_at hl 1 rfl) ?_
  refine lv_aload_n E.1 E.2.1 dL_law_660 rfl (lv_at hl 0 rfl) ?_
  refine lv_iload_n E.1 E.2.1 dL_law_661 rfl (lv_at hl 3 rfl) ?_
  refine lv_iconst (v := nI 1) E.1 E.2.1 dL_law_662 (by decide) ?_
  refine lv_addN E.1 E.2.1 dL_law_663 ?_
  refine sldN E hw hX hbl hL (j := i + 1) (by omega) dL_law_664 ?_
  refine lv_i2l (v := (xs (i + 1)).toInt64) E.1 E.2.1 dL_law_665 rfl ?_
  refine lv_bipush (v := nI 32) E.1 E.2.1 dL_law_666 (by decide) ?_
  refine lv_lshl (v := (xs (i + 1)).toInt64 <<< ((nI 32).toInt64 &&& 63)) E.1 E.2.1 dL_law_668 rfl ?_
  refine lv_aload_n E.1 E.2.1 dL_law_669 rfl (lv_at hl 0 rfl) ?_
  refine lv_iload_n E.1 E.2.1 dL_law_670 rfl (lv_at hl 3 rfl) ?_
  refine lv_iconst (v := nI 2) E.1 E.2.1 dL_law_671 (by decide) ?_
  refine lv_addN E.1 E.2.1 dL_law_672 ?_
  refine sldN E hw hX hbl hL (j := i + 2) (by omega) dL_law_673 ?_
  refine lv_i2l (v := (xs (i + 2)).toInt64) E.1 E.2.1 dL_law_674 rfl ?_
  refine lv_ldc2 (v := 4294967295) E.1 E.2.1 E.2.2.2.1 (E.2.2.2.2.1 _ mw_1_6) dL_law_675 ?_
  refine lv_land E.1 E.2.1 dL_law_678 ?_
  refine lv_lor E.1 E.2.1 dL_law_679 ?_
  refine callVIp E hM1 ES.eb (fun _ _ _ => trivial) mw_25_16 YX3_put ⟨h1.1, h1.2.1⟩ (rm_fit h1 (by decide)) hcs hw (List.Perm.refl _) (List.Perm.refl _) 0 rfl rfl rfl hl rfl (Nat.le_of_ble_eq_true rfl) dL_law_680 (fun H locs hw => ?_)
  refine lv_aload_n E.1 E.2.1 dL_law_683 rfl (lv_at hl 2 rfl) ?_
  refine lv_aload_n E.1 E.2.1 dL_law_684 rfl (lv_at hl 0 rfl) ?_
  refine lv_iload_n E.1 E.2.1 dL_law_685 rfl (lv_at hl 3 rfl) ?_
  refine lv_iconst (v := nI 1) E.1 E.2.1 dL_law_686 (by decide) ?_
  refine lv_addN E.1 E.2.1 dL_law_687 ?_
  refine sldN E hw hX hbl hL (j := i + 1) (by omega) dL_law_688 ?_
  refine lv_i2l (v := (xs (i + 1)).toInt64) E.1 E.2.1 dL_law_689 rfl ?_
  refine lv_bipush (v := nI 32) E.1 E.2.1 dL_law_690 (by decide) ?_
  refine lv_lshl (v := (xs (i + 1)).toInt64 <<< ((nI 32).toInt64 &&& 63)) E.1 E.2.1 dL_law_692 rfl ?_
  refine lv_aload_n E.1 E.2.1 dL_law_693 rfl (lv_at hl 0 rfl) ?_
  refine lv_iload_n E.1 E.2.1 dL_law_694 rfl (lv_at hl 3 rfl) ?_
  refine lv_iconst (v := nI 2) E.1 E.2.1 dL_law_695 (by decide) ?_
  refine lv_addN E.1 E.2.1 dL_law_696 ?_
  refine sldN E hw hX hbl hL (j := i + 2) (by omega) dL_law_697 ?_
  refine lv_i2l (v := (xs (i + 2)).toInt64) E.1 E.2.1 dL_law_698 rfl ?_
  refine lv_ldc2 (v := 4294967295) E.1 E.2.1 E.2.2.2.1 (E.2.2.2.2.1 _ mw_1_6) dL_law_699 ?_
  refine lv_land E.1 E.2.1 dL_law_702 ?_
  refine lv_lor E.1 E.2.1 dL_law_703 ?_
  refine callVIp E hM2 ES.eb (fun _ _ _ => trivial) mw_26_3 YX4_put ⟨h2.1, h2.2.1⟩ (rm_fit h2 (by decide)) hcs hw List.perm_append_comm List.perm_append_comm 0 rfl rfl rfl hl rfl (Nat.le_of_ble_eq_true rfl) dL_law_704 (fun H locs hw => ?_)
  refine lv_icmp_eq (tgt := 810) E.1 E.2.1 dL_law_707 (by decide) (fun _ => ?_) (fun z => absurd rfl z)
  exact kk v' pd' rv' Ns' x' H locs hR' hw
set_option maxRecDepth 100000 in
set_option maxHeartbeats 4000000 in
theorem lk_wipe (E : EN p c cL_law s m #[.ref sb] RL 4 G) (hX : va_X sb L xs s s.heap) (hbl : sb < s.heap.size) (hL : L ≤ 1536) (hXS : XS [] s) (hcs : cells ≤ 600000 ∧ slots ≤ 7302250) (hi : i + 3 ≤ L) (hT : T + 6039 < 2 ^ 31) (hR : Rl T v pd rv Ns x) (hw : HB G (fun q : Nat => s.heap.size ≤ q) s.heap (cW G b ad v pd rv Ns ++ mN G a (Ns 0) x) H locs) (hl : lv_has ls 4 [(0, .ref sb), (1, .ref (b 0)), (2, .ref (a 0)), (3, .int (nI i))]) (kk : ∀ (v pd rv : Nat → Int32) (Ns : Nat → NS) (x : MX) (H : Heap) (locs : List Loc), Rl (T + 6039) v pd rv Ns x → HB G (fun q : Nat => s.heap.size ≤ q) s.heap (cW G b ad v pd rv Ns ++ mN G a (Ns 0) x) H locs → W p l e room_1 s m #[.ref sb] below meth c H locs cells slots Q (F0 m 810 ls [])) : W p l e room_1 s m #[.ref sb] below meth c H locs cells slots Q (F0 m 712 ls []) := by
  obtain ⟨rmx, rmm, v', pd', rv', Ns', x', r, h1, h2, hM1, hM2, hR'⟩ := pr_wipe l G b a ad hT hR 
  refine lv_aload_n E.1 E.2.1 dL_law_712 rfl (lv_at hl 1 rfl) ?_
  refine callVIp E hM1 ES.eb (fun _ _ _ => trivial) mw_26_8 YX3_wipe ⟨h1.1, h1.2.1⟩ (rm_fit h1 (by decide)) hcs hw (List.Perm.refl _) (List.Perm.refl _) 0 rfl rfl rfl hl rfl (Nat.le_of_ble_eq_true rfl) dL_law_713 (fun H locs hw => ?_)
  refine lv_aload_n E.1 E.2.1 dL_law_716 rfl (lv_at hl 2 rfl) ?_
  refine callVIp E hM2 ES.eb (fun _ _ _ => trivial) mw_26_12 YX4_wipe ⟨h2.1, h2.2.1⟩ (rm_fit h2 (by decide)) hcs hw List.perm_append_comm List.perm_append_comm 0 rfl rfl rfl hl rfl (Nat.le_of_ble_eq_true rfl) dL_law_717 (fun H locs hw => ?_)
  refine lv_icmp_eq (tgt := 810) E.1 E.2.1 dL_law_720 (by decide) (fun _ => ?_) (fun z => absurd rfl z)
  exact kk v' pd' rv' Ns' x' H locs hR' hw
set_option maxRecDepth 100000 in
set_option maxHeartbeats 4000000 in
theorem lk_fault (E : EN p c cL_law s m #[.ref sb] RL 4 G) (hX : va_X sb L xs s s.heap) (hbl : sb < s.heap.size) (hL : L ≤ 1536) (hXS : XS [] s) (hcs : cells ≤ 600000 ∧ slots ≤ 7302250) (hi : i + 3 ≤ L) (hT : T + 6039 < 2 ^ 31) (hR : Rl T v pd rv Ns x) (hw : HB G (fun q : Nat => s.heap.size ≤ q) s.heap (cW G b ad v pd rv Ns ++ mN G a (Ns 0) x) H locs) (hl : lv_has ls 4 [(0, .ref sb), (1, .ref (b 0)), (2, .ref (a 0)), (3, .int (nI i))]) (kk : ∀ (v pd rv : Nat → Int32) (Ns : Nat → NS) (x : MX) (H : Heap) (locs : List Loc), Rl (T + 6039) v pd rv Ns x → HB G (fun q : Nat => s.heap.size ≤ q) s.heap (cW G b ad v pd rv Ns ++ mN G a (Ns 0) x) H locs → W p l e room_1 s m #[.ref sb] below meth c H locs cells slots Q (F0 m 810 ls [])) : W p l e room_1 s m #[.ref sb] below meth c H locs cells slots Q (F0 m 725 ls []) := by
  obtain ⟨rmx, rmm, v', pd', rv', Ns', x', r, h1, h2, hM1, hM2, hR'⟩ := pr_fault l G b a ad hT hR 
  refine lv_aload_n E.1 E.2.1 dL_law_725 rfl (lv_at hl 1 rfl) ?_
  refine callVIp E hM1 ES.eb (fun _ _ _ => trivial) mw_26_16 YX3_fault ⟨h1.1, h1.2.1⟩ (rm_fit h1 (by decide)) hcs hw (List.Perm.refl _) (List.Perm.refl _) 0 rfl rfl rfl hl rfl (Nat.le_of_ble_eq_true rfl) dL_law_726 (fun H locs hw => ?_)
  refine lv_aload_n E.1 E.2.1 dL_law_729 rfl (lv_at hl 2 rfl) ?_
  refine callVIp E hM2 ES.eb (fun _ _ _ => trivial) mw_28_17 YX4_fault ⟨h2.1, h2.2.1⟩ (rm_fit h2 (by decide)) hcs hw List.perm_append_comm List.perm_append_comm 0 rfl rfl rfl hl rfl (Nat.le_of_ble_eq_true rfl) dL_law_730 (fun H locs hw => ?_)
  refine lv_icmp_eq (tgt := 810) E.1 E.2.1 dL_law_733 (by decide) (fun _ => ?_) (fun z => absurd rfl z)
  exact kk v' pd' rv' Ns' x' H locs hR' hw
set_option maxRecDepth 100000 in
set_option maxHeartbeats 4000000 in
theorem lk_carryOut (E : EN p c cL_law s m #[.ref sb] RL 4 G) (hX : va_X sb L xs s s.heap) (hbl : sb < s.heap.size) (hL : L ≤ 1536) (hXS : XS [] s) (hcs : cells ≤ 600000 ∧ slots ≤ 7302250) (hi : i + 3 ≤ L) (hT : T + 6039 < 2 ^ 31) (hR : Rl T v pd rv Ns x) (hw : HB G (fun q : Nat => s.heap.size ≤ q) s.heap (cW G b ad v pd rv Ns ++ mN G a (Ns 0) x) H locs) (hl : lv_has ls 4 [(0, .ref sb), (1, .ref (b 0)), (2, .ref (a 0)), (3, .int (nI i))]) (kk : ∀ (v pd rv : Nat → Int32) (Ns : Nat → NS) (x : MX) (H : Heap) (locs : List Loc), Rl (T + 6039) v pd rv Ns x → HB G (fun q : Nat => s.heap.size ≤ q) s.heap (cW G b ad v pd rv Ns ++ mN G a (Ns 0) x) H locs → W p l e room_1 s m #[.ref sb] below meth c H locs cells slots Q (F0 m 810 ls [])) : W p l e room_1 s m #[.ref sb] below meth c H locs cells slots Q (F0 m 738 ls []) := by
  obtain ⟨rmx, rmm, v', pd', rv', Ns', x', r, h1, h2, hM1, hM2, hR'⟩ := pr_carryOut l G b a ad hT hR 
  refine lv_aload_n E.1 E.2.1 dL_law_738 rfl (lv_at hl 1 rfl) ?_
  refine callVIp E hM1 ES.eb (fun _ _ _ => trivial) mw_30_4 YX3_carryOut ⟨h1.1, h1.2.1⟩ (rm_fit h1 (by decide)) hcs hw (List.Perm.refl _) (List.Perm.refl _) 0 rfl rfl rfl hl rfl (Nat.le_of_ble_eq_true rfl) dL_law_739 (fun H locs hw => ?_)
  refine lv_aload_n E.1 E.2.1 dL_law_742 rfl (lv_at hl 2 rfl) ?_
  refine callVIp E hM2 ES.eb (fun _ _ _ => trivial) mw_30_19 YX4_carryOut ⟨h2.1, h2.2.1⟩ (rm_fit h2 (by decide)) hcs hw List.perm_append_comm List.perm_append_comm 0 rfl rfl rfl hl rfl (Nat.le_of_ble_eq_true rfl) dL_law_743 (fun H locs hw => ?_)
  refine lv_icmp_eq (tgt := 810) E.1 E.2.1 dL_law_746 (by decide) (fun _ => ?_) (fun z => absurd rfl z)
  exact kk v' pd' rv' Ns' x' H locs hR' hw
set_option maxRecDepth 100000 in
set_option maxHeartbeats 4000000 in
theorem lk_undo (E : EN p c cL_law s m #[.ref sb] RL 4 G) (hX : va_X sb L xs s s.heap) (hbl : sb < s.heap.size) (hL : L ≤ 1536) (hXS : XS [] s) (hcs : cells ≤ 600000 ∧ slots ≤ 7302250) (hi : i + 3 ≤ L) (hT : T + 6039 < 2 ^ 31) (hR : Rl T v pd rv Ns x) (hw : HB G (fun q : Nat => s.heap.size ≤ q) s.heap (cW G b ad v pd rv Ns ++ mN G a (Ns 0) x) H locs) (hl : lv_has ls 4 [(0, .ref sb), (1, .ref (b 0)), (2, .ref (a 0)), (3, .int (nI i))]) (kk : ∀ (v pd rv : Nat → Int32) (Ns : Nat → NS) (x : MX) (H : Heap) (locs : List Loc), Rl (T + 6039) v pd rv Ns x → HB G (fun q : Nat => s.heap.size ≤ q) s.heap (cW G b ad v pd rv Ns ++ mN G a (Ns 0) x) H locs → W p l e room_1 s m #[.ref sb] below meth c H locs cells slots Q (F0 m 810 ls [])) : W p l e room_1 s m #[.ref sb] below meth c H locs cells slots Q (F0 m 751 ls []) := by
  obtain ⟨rmx, rmm, v', pd', rv', Ns', x', r, h1, h2, hM1, hM2, hR'⟩ := pr_undo l G b a ad hT hR 
  refine lv_aload_n E.1 E.2.1 dL_law_751 rfl (lv_at hl 1 rfl) ?_
  refine callVIp E hM1 ES.eb (fun _ _ _ => trivial) mw_31_10 YX3_undo ⟨h1.1, h1.2.1⟩ (rm_fit h1 (by decide)) hcs hw (List.Perm.refl _) (List.Perm.refl _) 0 rfl rfl rfl hl rfl (Nat.le_of_ble_eq_true rfl) dL_law_752 (fun H locs hw => ?_)
  refine lv_aload_n E.1 E.2.1 dL_law_755 rfl (lv_at hl 2 rfl) ?_
  refine callVIp E hM2 ES.eb (fun _ _ _ => trivial) mw_31_14 YX4_undo ⟨h2.1, h2.2.1⟩ (rm_fit h2 (by decide)) hcs hw List.perm_append_comm List.perm_append_comm 0 rfl rfl rfl hl rfl (Nat.le_of_ble_eq_true rfl) dL_law_756 (fun H locs hw => ?_)
  refine lv_icmp_eq (tgt := 810) E.1 E.2.1 dL_law_759 (by decide) (fun _ => ?_) (fun z => absurd rfl z)
  exact kk v' pd' rv' Ns' x' H locs hR' hw
set_option maxRecDepth 100000 in
set_option maxHeartbeats 4000000 in
theorem lk_save (E : EN p c cL_law s m #[.ref sb] RL 4 G) (hX : va_X sb L xs s s.heap) (hbl : sb < s.heap.size) (hL : L ≤ 1536) (hXS : XS [] s) (hcs : cells ≤ 600000 ∧ slots ≤ 7302250) (hi : i + 3 ≤ L) (hT : T + 6039 < 2 ^ 31) (hR : Rl T v pd rv Ns x) (hw : HB G (fun q : Nat => s.heap.size ≤ q) s.heap (cW G b ad v pd rv Ns ++ mN G a (Ns 0) x) H locs) (hl : lv_has ls 4 [(0, .ref sb), (1, .ref (b 0)), (2, .ref (a 0)), (3, .int (nI i))]) (kk : ∀ (v pd rv : Nat → Int32) (Ns : Nat → NS) (x : MX) (H : Heap) (locs : List Loc), Rl (T + 6039) v pd rv Ns x → HB G (fun q : Nat => s.heap.size ≤ q) s.heap (cW G b ad v pd rv Ns ++ mN G a (Ns 0) x) H locs → W p l e room_1 s m #[.ref sb] below meth c H locs cells slots Q (F0 m 810 ls [])) : W p l e room_1 s m #[.ref sb] below meth c H locs cells slots Q (F0 m 764 ls []) := by
  obtain ⟨rmx, rmm, v', pd', rv', Ns', x', r, h1, h2, hM1, hM2, hR'⟩ := pr_save l G b a ad hT hR (xs (i + 1))
  refine lv_aload_n E.1 E.2.1 dL_law_764 rfl (lv_at hl 1 rfl) ?_
  refine lv_aload_n E.1 E.2.1 dL_law_765 rfl (lv_at hl 0 rfl) ?_
  refine lv_iload_n E.1 E.2.1 dL_law_766 rfl (lv_at hl 3 rfl) ?_
  refine lv_iconst (v := nI 1) E.1 E.2.1 dL_law_767 (by decide) ?_
  refine lv_addN E.1 E.2.1 dL_law_768 ?_
  refine sldN E hw hX hbl hL (j := i + 1) (by omega) dL_law_769 ?_
  refine callVIp E hM1 ES.eb (fun _ _ _ => trivial) mw_31_18 YX3_save ⟨h1.1, h1.2.1⟩ (rm_fit h1 (by decide)) hcs hw (List.Perm.refl _) (List.Perm.refl _) 0 rfl rfl rfl hl rfl (Nat.le_of_ble_eq_true rfl) dL_law_770 (fun H locs hw => ?_)
  refine lv_aload_n E.1 E.2.1 dL_law_773 rfl (lv_at hl 2 rfl) ?_
  refine lv_aload_n E.1 E.2.1 dL_law_774 rfl (lv_at hl 0 rfl) ?_
  refine lv_iload_n E.1 E.2.1 dL_law_775 rfl (lv_at hl 3 rfl) ?_
  refine lv_iconst (v := nI 1) E.1 E.2.1 dL_law_776 (by decide) ?_
  refine lv_addN E.1 E.2.1 dL_law_777 ?_
  refine sldN E hw hX hbl hL (j := i + 1) (by omega) dL_law_778 ?_
  refine callVIp E hM2 ES.eb (fun _ _ _ => trivial) mw_32_0 YX4_save ⟨h2.1, h2.2.1⟩ (rm_fit h2 (by decide)) hcs hw List.perm_append_comm List.perm_append_comm 0 rfl rfl rfl hl rfl (Nat.le_of_ble_eq_true rfl) dL_law_779 (fun H locs hw => ?_)
  refine lv_icmp_eq (tgt := 810) E.1 E.2.1 dL_law_782 (by decide) (fun _ => ?_) (fun z => absurd rfl z)
  exact kk v' pd' rv' Ns' x' H locs hR' hw
set_option maxRecDepth 100000 in
set_option maxHeartbeats 4000000 in
theorem lk_restore (E : EN p c cL_law s m #[.ref sb] RL 4 G) (hX : va_X sb L xs s s.heap) (hbl : sb < s.heap.size) (hL : L ≤ 1536) (hXS : XS [] s) (hcs : cells ≤ 600000 ∧ slots ≤ 7302250) (hi : i + 3 ≤ L) (hT : T + 6039 < 2 ^ 31) (hR : Rl T v pd rv Ns x) (hw : HB G (fun q : Nat => s.heap.size ≤ q) s.heap (cW G b ad v pd rv Ns ++ mN G a (Ns 0) x) H locs) (hl : lv_has ls 4 [(0, .ref sb), (1, .ref (b 0)), (2, .ref (a 0)), (3, .int (nI i))]) (kk : ∀ (v pd rv : Nat → Int32) (Ns : Nat → NS) (x : MX) (H : Heap) (locs : List Loc), Rl (T + 6039) v pd rv Ns x → HB G (fun q : Nat => s.heap.size ≤ q) s.heap (cW G b ad v pd rv Ns ++ mN G a (Ns 0) x) H locs → W p l e room_1 s m #[.ref sb] below meth c H locs cells slots Q (F0 m 810 ls [])) : W p l e room_1 s m #[.ref sb] below meth c H locs cells slots Q (F0 m 787 ls []) := by
  obtain ⟨rmx, rmm, v', pd', rv', Ns', x', r, h1, h2, hM1, hM2, hR'⟩ := pr_restore l G b a ad hT hR (xs (i + 1))
  refine lv_aload_n E.1 E.2.1 dL_law_787 rfl (lv_at hl 1 rfl) ?_
  refine lv_aload_n E.1 E.2.1 dL_law_788 rfl (lv_at hl 0 rfl) ?_
  refine lv_iload_n E.1 E.2.1 dL_law_789 rfl (lv_at hl 3 rfl) ?_
  refine lv_iconst (v := nI 1) E.1 E.2.1 dL_law_790 (by decide) ?_
  refine lv_addN E.1 E.2.1 dL_law_791 ?_
  refine sldN E hw hX hbl hL (j := i + 1) (by omega) dL_law_792 ?_
  refine callVIp E hM1 ES.eb (fun _ _ _ => trivial) mw_32_4 YX3_restore ⟨h1.1, h1.2.1⟩ (rm_fit h1 (by decide)) hcs hw (List.Perm.refl _) (List.Perm.refl _) 0 rfl rfl rfl hl rfl (Nat.le_of_ble_eq_true rfl) dL_law_793 (fun H locs hw => ?_)
  refine lv_aload_n E.1 E.2.1 dL_law_796 rfl (lv_at hl 2 rfl) ?_
  refine lv_aload_n E.1 E.2.1 dL_law_797 rfl (lv_at hl 0 rfl) ?_
  refine lv_iload_n E.1 E.2.1 dL_law_798 rfl (lv_at hl 3 rfl) ?_
  refine lv_iconst (v := nI 1) E.1 E.2.1 dL_law_799 (by decide) ?_
  refine lv_addN E.1 E.2.1 dL_law_800 ?_
  refine sldN E hw hX hbl hL (j := i + 1) (by omega) dL_law_801 ?_
  refine callVIp E hM2 ES.eb (fun _ _ _ => trivial) mw_32_9 YX4_restore ⟨h2.1, h2.2.1⟩ (rm_fit h2 (by decide)) hcs hw List.perm_append_comm List.perm_append_comm 0 rfl rfl rfl hl rfl (Nat.le_of_ble_eq_true rfl) dL_law_802 (fun H locs hw => ?_)
  refine lv_icmp_eq (tgt := 810) E.1 E.2.1 dL_law_805 (by decide) (fun _ => ?_) (fun z => absurd rfl z)
  exact kk v' pd' rv' Ns' x' H locs hR' hw
theorem up_T {T : Nat} (h : Rl T v pd rv Ns x) : Rl (T + 6039) v pd rv Ns x := by
  obtain ⟨nx, u, n, sv, C, s, hC⟩ := h
  exact ⟨nx, u, n, sv, C, s, hC.up (Nat.le_add_right T 6039)⟩
set_option maxRecDepth 100000 in
set_option maxHeartbeats 4000000 in
theorem law_case (E : EN p c cL_law s m #[.ref sb] RL 4 G) (hX : va_X sb L xs s s.heap) (hbl : sb < s.heap.size) (hL : L ≤ 1536) (hXS : XS [] s) (hcs : cells ≤ 600000 ∧ slots ≤ 7302250) (hi : i + 3 ≤ L) (hT : T + 6039 < 2 ^ 31) (hR : Rl T v pd rv Ns x) (hw : HB G (fun q : Nat => s.heap.size ≤ q) s.heap (cW G b ad v pd rv Ns ++ mN G a (Ns 0) x) H locs) (hl : lv_has ls 4 [(0, .ref sb), (1, .ref (b 0)), (2, .ref (a 0)), (3, .int (nI i))]) (kk : ∀ (v pd rv : Nat → Int32) (Ns : Nat → NS) (x : MX) (H : Heap) (locs : List Loc), Rl (T + 6039) v pd rv Ns x → HB G (fun q : Nat => s.heap.size ≤ q) s.heap (cW G b ad v pd rv Ns ++ mN G a (Ns 0) x) H locs → W p l e room_1 s m #[.ref sb] below meth c H locs cells slots Q (F0 m 810 ls [])) : W p l e room_1 s m #[.ref sb] below meth c H locs cells slots Q (F0 m 26 ls []) := by
  refine lv_aload_n E.1 E.2.1 dL_law_26 rfl (lv_at hl 0 rfl) ?_
  refine lv_iload_n E.1 E.2.1 dL_law_27 rfl (lv_at hl 3 rfl) ?_
  refine sldN E hw hX hbl hL (j := i) (by omega) dL_law_28 ?_
  refine lv_bipush (v := nI 31) E.1 E.2.1 dL_law_29 (by decide) ?_
  refine lv_iand E.1 E.2.1 dL_law_31 ?_
  generalize xs i &&& nI 31 = t
  by_cases z0 : t = nI 0
  · refine lv_eqi (y := nI 0) z0 ?_
    refine lv_tableIn (tgt := 152) E.1 E.2.1 dL_law_32 (by decide) (by decide) rfl (by decide) ?_
    exact lk_set E hX hbl hL hXS hcs hi hT hR hw hl kk
  by_cases z1 : t = nI 1
  · refine lv_eqi (y := nI 1) z1 ?_
    refine lv_tableIn (tgt := 185) E.1 E.2.1 dL_law_32 (by decide) (by decide) rfl (by decide) ?_
    exact lk_willing E hX hbl hL hXS hcs hi hT hR hw hl kk
  by_cases z2 : t = nI 2
  · refine lv_eqi (y := nI 2) z2 ?_
    refine lv_tableIn (tgt := 218) E.1 E.2.1 dL_law_32 (by decide) (by decide) rfl (by decide) ?_
    exact lk_open E hX hbl hL hXS hcs hi hT hR hw hl kk
  by_cases z3 : t = nI 3
  · refine lv_eqi (y := nI 3) z3 ?_
    refine lv_tableIn (tgt := 241) E.1 E.2.1 dL_law_32 (by decide) (by decide) rfl (by decide) ?_
    exact lk_deliver E hX hbl hL hXS hcs hi hT hR hw hl kk
  by_cases z4 : t = nI 4
  · refine lv_eqi (y := nI 4) z4 ?_
    refine lv_tableIn (tgt := 264) E.1 E.2.1 dL_law_32 (by decide) (by decide) rfl (by decide) ?_
    exact lk_lose E hX hbl hL hXS hcs hi hT hR hw hl kk
  by_cases z5 : t = nI 5
  · refine lv_eqi (y := nI 5) z5 ?_
    refine lv_tableIn (tgt := 287) E.1 E.2.1 dL_law_32 (by decide) (by decide) rfl (by decide) ?_
    exact lk_twice E hX hbl hL hXS hcs hi hT hR hw hl kk
  by_cases z6 : t = nI 6
  · refine lv_eqi (y := nI 6) z6 ?_
    refine lv_tableIn (tgt := 310) E.1 E.2.1 dL_law_32 (by decide) (by decide) rfl (by decide) ?_
    exact lk_fall E hX hbl hL hXS hcs hi hT hR hw hl kk
  by_cases z7 : t = nI 7
  · refine lv_eqi (y := nI 7) z7 ?_
    refine lv_tableIn (tgt := 333) E.1 E.2.1 dL_law_32 (by decide) (by decide) rfl (by decide) ?_
    exact lk_rise E hX hbl hL hXS hcs hi hT hR hw hl kk
  by_cases z8 : t = nI 8
  · refine lv_eqi (y := nI 8) z8 ?_
    refine lv_tableIn (tgt := 356) E.1 E.2.1 dL_law_32 (by decide) (by decide) rfl (by decide) ?_
    exact lk_ticks E hX hbl hL hXS hcs hi hT hR hw hl kk
  by_cases z9 : t = nI 9
  · refine lv_eqi (y := nI 9) z9 ?_
    refine lv_tableIn (tgt := 379) E.1 E.2.1 dL_law_32 (by decide) (by decide) rfl (by decide) ?_
    exact lk_ofDeal E hX hbl hL hXS hcs hi hT hR hw hl kk
  by_cases z10 : t = nI 10
  · refine lv_eqi (y := nI 10) z10 ?_
    refine lv_tableIn (tgt := 412) E.1 E.2.1 dL_law_32 (by decide) (by decide) rfl (by decide) ?_
    exact lk_at E hX hbl hL hXS hcs hi hT hR hw hl kk
  by_cases z11 : t = nI 11
  · refine lv_eqi (y := nI 11) z11 ?_
    refine lv_tableIn (tgt := 445) E.1 E.2.1 dL_law_32 (by decide) (by decide) rfl (by decide) ?_
    exact lk_message E hX hbl hL hXS hcs hi hT hR hw hl kk
  by_cases z12 : t = nI 12
  · refine lv_eqi (y := nI 12) z12 ?_
    refine lv_tableIn (tgt := 478) E.1 E.2.1 dL_law_32 (by decide) (by decide) rfl (by decide) ?_
    exact lk_who E hX hbl hL hXS hcs hi hT hR hw hl kk
  by_cases z13 : t = nI 13
  · refine lv_eqi (y := nI 13) z13 ?_
    refine lv_tableIn (tgt := 511) E.1 E.2.1 dL_law_32 (by decide) (by decide) rfl (by decide) ?_
    exact lk_count E hX hbl hL hXS hcs hi hT hR hw hl kk
  by_cases z14 : t = nI 14
  · refine lv_eqi (y := nI 14) z14 ?_
    refine lv_tableIn (tgt := 534) E.1 E.2.1 dL_law_32 (by decide) (by decide) rfl (by decide) ?_
    exact lk_sure E hX hbl hL hXS hcs hi hT hR hw hl kk
  by_cases z15 : t = nI 15
  · refine lv_eqi (y := nI 15) z15 ?_
    refine lv_tableIn (tgt := 557) E.1 E.2.1 dL_law_32 (by decide) (by decide) rfl (by decide) ?_
    exact lk_couldAsk E hX hbl hL hXS hcs hi hT hR hw hl kk
  by_cases z16 : t = nI 16
  · refine lv_eqi (y := nI 16) z16 ?_
    refine lv_tableIn (tgt := 580) E.1 E.2.1 dL_law_32 (by decide) (by decide) rfl (by decide) ?_
    exact lk_settledIn E hX hbl hL hXS hcs hi hT hR hw hl kk
  by_cases z17 : t = nI 17
  · refine lv_eqi (y := nI 17) z17 ?_
    refine lv_tableIn (tgt := 603) E.1 E.2.1 dL_law_32 (by decide) (by decide) rfl (by decide) ?_
    exact lk_underwayIn E hX hbl hL hXS hcs hi hT hR hw hl kk
  by_cases z18 : t = nI 18
  · refine lv_eqi (y := nI 18) z18 ?_
    refine lv_tableIn (tgt := 626) E.1 E.2.1 dL_law_32 (by decide) (by decide) rfl (by decide) ?_
    exact lk_worstLoss E hX hbl hL hXS hcs hi hT hR hw hl kk
  by_cases z19 : t = nI 19
  · refine lv_eqi (y := nI 19) z19 ?_
    refine lv_tableIn (tgt := 659) E.1 E.2.1 dL_law_32 (by decide) (by decide) rfl (by decide) ?_
    exact lk_put E hX hbl hL hXS hcs hi hT hR hw hl kk
  by_cases z20 : t = nI 20
  · refine lv_eqi (y := nI 20) z20 ?_
    refine lv_tableIn (tgt := 712) E.1 E.2.1 dL_law_32 (by decide) (by decide) rfl (by decide) ?_
    exact lk_wipe E hX hbl hL hXS hcs hi hT hR hw hl kk
  by_cases z21 : t = nI 21
  · refine lv_eqi (y := nI 21) z21 ?_
    refine lv_tableIn (tgt := 725) E.1 E.2.1 dL_law_32 (by decide) (by decide) rfl (by decide) ?_
    exact lk_fault E hX hbl hL hXS hcs hi hT hR hw hl kk
  by_cases z22 : t = nI 22
  · refine lv_eqi (y := nI 22) z22 ?_
    refine lv_tableIn (tgt := 738) E.1 E.2.1 dL_law_32 (by decide) (by decide) rfl (by decide) ?_
    exact lk_carryOut E hX hbl hL hXS hcs hi hT hR hw hl kk
  by_cases z23 : t = nI 23
  · refine lv_eqi (y := nI 23) z23 ?_
    refine lv_tableIn (tgt := 751) E.1 E.2.1 dL_law_32 (by decide) (by decide) rfl (by decide) ?_
    exact lk_undo E hX hbl hL hXS hcs hi hT hR hw hl kk
  by_cases z24 : t = nI 24
  · refine lv_eqi (y := nI 24) z24 ?_
    refine lv_tableIn (tgt := 764) E.1 E.2.1 dL_law_32 (by decide) (by decide) rfl (by decide) ?_
    exact lk_save E hX hbl hL hXS hcs hi hT hR hw hl kk
  by_cases z25 : t = nI 25
  · refine lv_eqi (y := nI 25) z25 ?_
    refine lv_tableIn (tgt := 787) E.1 E.2.1 dL_law_32 (by decide) (by decide) rfl (by decide) ?_
    exact lk_restore E hX hbl hL hXS hcs hi hT hR hw hl kk
  refine lv_tableOut (tgt := 810) E.1 E.2.1 dL_law_32 (by have t0 := lv_neT z0 (a := 0) (by decide); have t1 := lv_neT z1 (a := 1) (by decide); have t2 := lv_neT z2 (a := 2) (by decide); have t3 := lv_neT z3 (a := 3) (by decide); have t4 := lv_neT z4 (a := 4) (by decide); have t5 := lv_neT z5 (a := 5) (by decide); have t6 := lv_neT z6 (a := 6) (by decide); have t7 := lv_neT z7 (a := 7) (by decide); have t8 := lv_neT z8 (a := 8) (by decide); have t9 := lv_neT z9 (a := 9) (by decide); have t10 := lv_neT z10 (a := 10) (by decide); have t11 := lv_neT z11 (a := 11) (by decide); have t12 := lv_neT z12 (a := 12) (by decide); have t13 := lv_neT z13 (a := 13) (by decide); have t14 := lv_neT z14 (a := 14) (by decide); have t15 := lv_neT z15 (a := 15) (by decide); have t16 := lv_neT z16 (a := 16) (by decide); have t17 := lv_neT z17 (a := 17) (by decide); have t18 := lv_neT z18 (a := 18) (by decide); have t19 := lv_neT z19 (a := 19) (by decide); have t20 := lv_neT z20 (a := 20) (by decide); have t21 := lv_neT z21 (a := 21) (by decide); have t22 := lv_neT z22 (a := 22) (by decide); have t23 := lv_neT z23 (a := 23) (by decide); have t24 := lv_neT z24 (a := 24) (by decide); have t25 := lv_neT z25 (a := 25) (by decide); omega) (by decide) ?_
  exact kk v pd rv Ns x H locs (up_T hR) hw
theorem len_3 {L : Nat} (hL : L ≤ 1536) : (nI L - nI 3).toInt = (L : Int) - 3 := by
  rcases Nat.lt_or_ge L 3 with h | h
  · rcases (show L = 0 ∨ L = 1 ∨ L = 2 by omega) with rfl | rfl | rfl <;> decide
  · rw [pk_sub h, nI_toInt (by omega)]
    omega
set_option maxRecDepth 100000 in
set_option maxHeartbeats 4000000 in
/-- the law's loop, at its head with i ints read -/
theorem law_loop (E : EN p c cL_law s m #[.ref sb] RL 4 G) (hr : meth.sig.returnType = ret) (hlk : meth.locks = false) (hX : va_X sb L xs s s.heap) (hbl : sb < s.heap.size) (hL : L ≤ 1536) (hXS : XS [] s) : ∀ (n i : Nat), i ≤ L → L + 1 ≤ i + n → ∀ (v pd rv : Nat → Int32) (Ns : Nat → NS) (x : MX) (H : Heap) (locs : List Loc) (ls : Array Slot), Rl (2013 * i) v pd rv Ns x → HB G (fun q : Nat => s.heap.size ≤ q) s.heap (cW G b ad v pd rv Ns ++ mN G a (Ns 0) x) H locs → lv_has ls 4 [(0, .ref sb), (1, .ref (b 0)), (2, .ref (a 0)), (3, .int (nI i))] → W p l e room_1 s m #[.ref sb] below meth c H locs 167 8473 (lw_Z below #[.ref sb] s) (F0 m 18 ls []) := by
  intro n
  induction n with
  | zero => intro i h1 h2; exact absurd h2 (by omega)
  | succ n ih =>
    intro i hi hn v pd rv Ns x H locs ls hR hw hl
    refine lv_iload_n E.1 E.2.1 dL_law_18 rfl (lv_at hl 3 rfl) ?_
    refine lv_aload_n E.1 E.2.1 dL_law_19 rfl (lv_at hl 0 rfl) ?_
    refine va_slen E.1 E.2.1 hX hbl (Nat.not_le.mpr hbl) hw.2.2.1 dL_law_20 ?_
    refine lv_iconst (v := nI 3) E.1 E.2.1 dL_law_21 (by decide) ?_
    refine lv_isub E.1 E.2.1 dL_law_22 ?_
    have h3 : (Int32.ofNat L - nI 3).toInt = (L : Int) - 3 := len_3 hL
    refine lv_icmp_gt (tgt := 816) E.1 E.2.1 dL_law_23 (by decide) (fun z => ?_) (fun z => ?_)
    · refine lv_iconst (v := 1) E.1 E.2.1 dL_law_816 (by decide) ?_
      refine va_forget (fun q hq => hw.2.2.1.2.2 q hq) ?_
      refine W.widen (k := 600000) (n := 7302250) (Nat.le_of_ble_eq_true rfl) (Nat.le_of_ble_eq_true rfl) ?_
      exact lw_ret E.1 E.2.1 hr hlk dL_law_817
    · have hi3 : i + 3 ≤ L := by
        have z2 : ¬ (Int32.ofNat L - nI 3 < nI i) := z
        rw [Int32.lt_iff_toInt_lt, h3, nI_toInt (by omega)] at z2
        omega
      refine law_case E hX hbl hL hXS ⟨Nat.le_of_ble_eq_true rfl, Nat.le_of_ble_eq_true rfl⟩ hi3 (by omega) hR hw hl (fun v pd rv Ns x H locs hR hw => ?_)
      refine lv_iinc (k := 3) (v := nI (i + 3)) (lv' := [(3, .int (nI (i + 3))), (0, .ref sb), (1, .ref (b 0)), (2, .ref (a 0))]) E.1 E.2.1 dL_law_810 hl rfl (by rw [← nI_add i 3]; rfl) (by decide) rfl (fun ls hl => ?_)
      refine lv_goto (tgt := 18) E.1 E.2.1 dL_law_813 (by decide) ?_
      rw [show 2013 * i + 6039 = 2013 * (i + 3) by omega] at hR
      exact ih (i + 3) hi3 (by omega) v pd rv Ns x H locs ls hR hw (lv_sub hl [1, 2, 3, 0] rfl)
end LAWC

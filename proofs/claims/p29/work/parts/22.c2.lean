def b1 (k : Nat) : Int32 := nI k - ((((nI k).toUInt32 >>> ((nI 1).toUInt32 &&& Int32.toUInt32 31)).toInt32) &&& 1431655765)
def b2 (k : Nat) : Int32 := (b1 k &&& 858993459) + ((((b1 k).toUInt32 >>> ((nI 2).toUInt32 &&& Int32.toUInt32 31)).toInt32) &&& 858993459)
def b3 (k : Nat) : Int32 := (b2 k + (((b2 k).toUInt32 >>> ((nI 4).toUInt32 &&& Int32.toUInt32 31)).toInt32)) &&& 252645135
def b4 (k : Nat) : Int32 := b3 k + (((b3 k).toUInt32 >>> ((nI 8).toUInt32 &&& Int32.toUInt32 31)).toInt32)
def b5 (k : Nat) : Int32 := b4 k + (((b4 k).toUInt32 >>> ((nI 16).toUInt32 &&& Int32.toUInt32 31)).toInt32)
def popc (k : Nat) : Nat := k % 2 + k / 2 % 2 + k / 4 % 2 + k / 8 % 2 + k / 16 % 2
theorem bc_eq : ∀ k, k < 32 → b5 k &&& nI 63 = nI (popc k) := by decide +kernel
theorem un_comm {N : NS} {i j v w : Nat} (h : i ≠ j) : un (un N i v) j w = un (un N j w) i v := by
  funext q
  unfold un
  by_cases h1 : q = j
  · rw [if_pos h1, if_neg (by omega), if_pos h1]
  · rw [if_neg h1]
    by_cases h2 : q = i
    · rw [if_pos h2, if_pos h2]
    · rw [if_neg h2, if_neg h2, if_neg h1]
theorem un_same {N : NS} {k v : Nat} (h : N k = v) : un N k v = N := by subst h; exact un_id
set_option maxRecDepth 100000 in
theorem HB.s7 {G : GP} {A : Nat → Prop} {H0 : Heap} {a : Nat → Nat} {N M : NS} {H : Heap} {locs : List Loc} (h : HB G A H0 (sN G a N) H locs) (e : ∀ j, j ≠ 7 → j < 390 → N j = M j) : HB G A H0 (sN G a M) H locs := by
  refine h.scongr ⟨congrArg nI (e 4 (by omega) (by omega)), congrArg nI (illS_c (fun j h1 h2 => (e j (by omega) (by omega)))), congrArg nI (unwS_c (fun j h1 h2 => e j (by omega) (by omega))), congrArg nI (e 5 (by omega) (by omega)), congrArg nI (e 6 (by omega) (by omega)), congrArg nI (e 8 (by omega) (by omega))⟩ ?_ ?_ ?_ ?_ ?_ ?_ ?_ ?_ ?_ ?_ ?_ ?_
  · intro i hi
    exact congrArg nI (e _ (by omega) (by omega))
  · intro i hi
    exact congrArg nI (e _ (by omega) (by omega))
  · intro i hi
    exact congrArg nI (e _ (by omega) (by omega))
  · intro i hi
    exact congrArg nI (e _ (by omega) (by omega))
  · intro i hi
    exact congrArg nI (e _ (by omega) (by omega))
  · intro i hi
    exact congrArg nI (e _ (by omega) (by omega))
  · intro i hi
    exact congrArg nI (e _ (by omega) (by omega))
  · intro i hi
    exact congrArg nI (e _ (by omega) (by omega))
  · intro i hi
    exact congrArg nI (e _ (by omega) (by omega))
  · intro i hi
    exact congrArg nI (e _ (by omega) (by omega))
  · intro i hi
    exact congrArg nI (cOf_c (e _ (by omega) (by omega)) (fun c hc => e _ (by omega) (by omega)))
  · intro i hi
    exact congrArg nI (e _ (by omega) (by omega))
set_option maxHeartbeats 4000000 in
set_option maxRecDepth 100000 in
theorem c_J6_bitCount_0f7a4 (l : Launch) (G : GP) (k : Nat) (hk : k < 32) : MI l yJ6_bitCount_0f7a4 (.code yJ6_bitCount_0f7a4 cJ6_bitCount_0f7a4 1 (some .int) :: GW) ({ frames := 0, cells := 0, slots := 0, locals := 0 }) [.int (nI (k))] G ES ([]) ([]) (nI (popc k)) := by
  refine MI.of (own := RJ6) rfl rfl (Nat.le_of_ble_eq_true rfl) ?_
  intro pP eE sS mM below meth cC ls AA E hw hl hr hlk hE
  replace hl : lv_has ls 1 [(0, .int (nI (k)))] := hl
  refine lv_iload_n E.1 E.2.1 dJ6_bitCount_0f7a4_0 rfl (lv_at hl 0 rfl) ?_
  refine lv_iload_n E.1 E.2.1 dJ6_bitCount_0f7a4_1 rfl (lv_at hl 0 rfl) ?_
  refine lv_iconst (v := nI 1) E.1 E.2.1 dJ6_bitCount_0f7a4_2 (by decide) ?_
  refine lv_iushr (v := (((nI (k)).toUInt32 >>> ((nI 1).toUInt32 &&& Int32.toUInt32 31)).toInt32)) E.1 E.2.1 dJ6_bitCount_0f7a4_3 rfl ?_
  refine lv_ldcw (v := 1431655765) E.1 E.2.1 E.2.2.2.1 (E.2.2.2.2.1 _ mw_15_0) dJ6_bitCount_0f7a4_4 ?_
  refine lv_iand E.1 E.2.1 dJ6_bitCount_0f7a4_7 ?_
  refine lv_isub E.1 E.2.1 dJ6_bitCount_0f7a4_8 ?_
  refine lv_eqi (y := b1 k) (rfl) ?_
  refine lv_istore_n (lv' := [(0, .int (b1 k))]) E.1 E.2.1 dJ6_bitCount_0f7a4_9 rfl hl (by decide) rfl (fun ls hl => ?_)
  refine lv_iload_n E.1 E.2.1 dJ6_bitCount_0f7a4_10 rfl (lv_at hl 0 rfl) ?_
  refine lv_ldcw (v := 858993459) E.1 E.2.1 E.2.2.2.1 (E.2.2.2.2.1 _ mw_15_1) dJ6_bitCount_0f7a4_11 ?_
  refine lv_iand E.1 E.2.1 dJ6_bitCount_0f7a4_14 ?_
  refine lv_iload_n E.1 E.2.1 dJ6_bitCount_0f7a4_15 rfl (lv_at hl 0 rfl) ?_
  refine lv_iconst (v := nI 2) E.1 E.2.1 dJ6_bitCount_0f7a4_16 (by decide) ?_
  refine lv_iushr (v := ((((b1 k)).toUInt32 >>> ((nI 2).toUInt32 &&& Int32.toUInt32 31)).toInt32)) E.1 E.2.1 dJ6_bitCount_0f7a4_17 rfl ?_
  refine lv_ldcw (v := 858993459) E.1 E.2.1 E.2.2.2.1 (E.2.2.2.2.1 _ mw_15_1) dJ6_bitCount_0f7a4_18 ?_
  refine lv_iand E.1 E.2.1 dJ6_bitCount_0f7a4_21 ?_
  refine lv_iadd E.1 E.2.1 dJ6_bitCount_0f7a4_22 ?_
  refine lv_eqi (y := b2 k) (rfl) ?_
  refine lv_istore_n (lv' := [(0, .int (b2 k))]) E.1 E.2.1 dJ6_bitCount_0f7a4_23 rfl hl (by decide) rfl (fun ls hl => ?_)
  refine lv_iload_n E.1 E.2.1 dJ6_bitCount_0f7a4_24 rfl (lv_at hl 0 rfl) ?_
  refine lv_iload_n E.1 E.2.1 dJ6_bitCount_0f7a4_25 rfl (lv_at hl 0 rfl) ?_
  refine lv_iconst (v := nI 4) E.1 E.2.1 dJ6_bitCount_0f7a4_26 (by decide) ?_
  refine lv_iushr (v := ((((b2 k)).toUInt32 >>> ((nI 4).toUInt32 &&& Int32.toUInt32 31)).toInt32)) E.1 E.2.1 dJ6_bitCount_0f7a4_27 rfl ?_
  refine lv_iadd E.1 E.2.1 dJ6_bitCount_0f7a4_28 ?_
  refine lv_ldcw (v := 252645135) E.1 E.2.1 E.2.2.2.1 (E.2.2.2.2.1 _ mw_15_2) dJ6_bitCount_0f7a4_29 ?_
  refine lv_iand E.1 E.2.1 dJ6_bitCount_0f7a4_32 ?_
  refine lv_eqi (y := b3 k) (rfl) ?_
  refine lv_istore_n (lv' := [(0, .int (b3 k))]) E.1 E.2.1 dJ6_bitCount_0f7a4_33 rfl hl (by decide) rfl (fun ls hl => ?_)
  refine lv_iload_n E.1 E.2.1 dJ6_bitCount_0f7a4_34 rfl (lv_at hl 0 rfl) ?_
  refine lv_iload_n E.1 E.2.1 dJ6_bitCount_0f7a4_35 rfl (lv_at hl 0 rfl) ?_
  refine lv_bipush (v := nI 8) E.1 E.2.1 dJ6_bitCount_0f7a4_36 (by decide) ?_
  refine lv_iushr (v := ((((b3 k)).toUInt32 >>> ((nI 8).toUInt32 &&& Int32.toUInt32 31)).toInt32)) E.1 E.2.1 dJ6_bitCount_0f7a4_38 rfl ?_
  refine lv_iadd E.1 E.2.1 dJ6_bitCount_0f7a4_39 ?_
  refine lv_eqi (y := b4 k) (rfl) ?_
  refine lv_istore_n (lv' := [(0, .int (b4 k))]) E.1 E.2.1 dJ6_bitCount_0f7a4_40 rfl hl (by decide) rfl (fun ls hl => ?_)
  refine lv_iload_n E.1 E.2.1 dJ6_bitCount_0f7a4_41 rfl (lv_at hl 0 rfl) ?_
  refine lv_iload_n E.1 E.2.1 dJ6_bitCount_0f7a4_42 rfl (lv_at hl 0 rfl) ?_
  refine lv_bipush (v := nI 16) E.1 E.2.1 dJ6_bitCount_0f7a4_43 (by decide) ?_
  refine lv_iushr (v := ((((b4 k)).toUInt32 >>> ((nI 16).toUInt32 &&& Int32.toUInt32 31)).toInt32)) E.1 E.2.1 dJ6_bitCount_0f7a4_45 rfl ?_
  refine lv_iadd E.1 E.2.1 dJ6_bitCount_0f7a4_46 ?_
  refine lv_eqi (y := b5 k) (rfl) ?_
  refine lv_istore_n (lv' := [(0, .int (b5 k))]) E.1 E.2.1 dJ6_bitCount_0f7a4_47 rfl hl (by decide) rfl (fun ls hl => ?_)
  refine lv_iload_n E.1 E.2.1 dJ6_bitCount_0f7a4_48 rfl (lv_at hl 0 rfl) ?_
  refine lv_bipush (v := nI 63) E.1 E.2.1 dJ6_bitCount_0f7a4_49 (by decide) ?_
  refine lv_iand E.1 E.2.1 dJ6_bitCount_0f7a4_51 ?_
  exact rI E hr hlk (HB.eq hw (rfl)) (bc_eq k hk) dJ6_bitCount_0f7a4_52
theorem YX2_isDeal : YV yX2_isDeal RX2 cX2_isDeal 2 (some .boolean) 1 := ⟨mw_18_7, mw_18_8, mw_1_15, mw_18_9, by decide +kernel⟩
set_option maxHeartbeats 4000000 in
set_option maxRecDepth 100000 in
theorem c_X2_isDeal (l : Launch) (G : GP) (a : Nat → Nat) (N : NS) (p : Int32) : MI l yX2_isDeal (.code yX2_isDeal cX2_isDeal 2 (some .boolean) :: GW) ({ frames := 0, cells := 0, slots := 0, locals := 0 }) [.ref (a 0), .int (p)] G ES (sN G a (N)) (sN G a (N)) (zb (0 ≤ p ∧ p < nI (N 5))) := by
  refine MI.of (own := RX2) rfl rfl (Nat.le_of_ble_eq_true rfl) ?_
  intro pP eE sS mM below meth cC ls AA E hw hl hr hlk hE
  replace hl : lv_has ls 2 [(0, .ref (a 0)), (1, .int (p))] := hl
  refine lv_iload_n E.1 E.2.1 dX2_isDeal_0 rfl (lv_at hl 1 rfl) ?_
  refine lv_if_lt (tgt := 16) E.1 E.2.1 dX2_isDeal_1 (by decide) (fun c1 => ?_) (fun c1 => ?_)
  · skip
    refine lv_iconst (v := nI 0) E.1 E.2.1 dX2_isDeal_16 (by decide) ?_
    exact rZ E hr hlk (HB.eq hw (rfl)) ((zb_f (fun z => Int32.not_lt.mpr z.1 c1)).symm) rfl dX2_isDeal_17
  · skip
    refine lv_iload_n E.1 E.2.1 dX2_isDeal_4 rfl (lv_at hl 1 rfl) ?_
    refine lv_aload_n E.1 E.2.1 dX2_isDeal_5 rfl (lv_at hl 0 rfl) ?_
    refine gX2_3 E hw mw_4_8 dX2_isDeal_6 ?_
    refine lv_eqi (y := nI (N 5)) (rfl) ?_
    refine lv_icmp_ge (tgt := 16) E.1 E.2.1 dX2_isDeal_9 (by decide) (fun c9 => ?_) (fun c9 => ?_)
    · skip
      refine lv_iconst (v := nI 0) E.1 E.2.1 dX2_isDeal_16 (by decide) ?_
      exact rZ E hr hlk (HB.eq hw (rfl)) ((zb_f (fun z => Int32.not_le.mpr z.2 c9)).symm) rfl dX2_isDeal_17
    · skip
      refine lv_iconst (v := nI 1) E.1 E.2.1 dX2_isDeal_12 (by decide) ?_
      refine lv_goto (tgt := 17) E.1 E.2.1 dX2_isDeal_13 (by decide) ?_
      exact rZ E hr hlk (HB.eq hw (rfl)) ((zb_t ⟨Int32.not_lt.mp c1, Int32.not_le.mp c9⟩).symm) rfl dX2_isDeal_17
theorem YX2_isIll : YV yX2_isIll RX2 cX2_isIll 2 (some .boolean) 1 := ⟨mw_7_0, mw_7_1, mw_1_15, mw_7_2, by decide +kernel⟩
set_option maxHeartbeats 4000000 in
set_option maxRecDepth 100000 in
theorem c_X2_isIll (l : Launch) (G : GP) (a : Nat → Nat) (N : NS) (w v : Nat) (hw : w < 5) (hv : N (10 + w) = v) : MI l yX2_isIll (.code yX2_isIll cX2_isIll 2 (some .boolean) :: GW) ({ frames := 1, cells := 0, slots := 0, locals := 21 }) [.ref (a 0), .int (nI (w))] G ES (sN G a (N)) (sN G a (N)) (zb (v = 1)) := by
  have hw5 := hw
  refine MI.of (own := RX2) rfl rfl (Nat.le_of_ble_eq_true rfl) ?_
  intro pP eE sS mM below meth cC ls AA E hw hl hr hlk hE
  replace hl : lv_has ls 2 [(0, .ref (a 0)), (1, .int (nI (w)))] := hl
  refine lv_aload_n E.1 E.2.1 dX2_isIll_0 rfl (lv_at hl 0 rfl) ?_
  refine gX2_1 E hw mw_4_6 dX2_isIll_1 ?_
  refine lv_eqi (y := nI (illS N)) (rfl) ?_
  refine lv_iload_n E.1 E.2.1 dX2_isIll_4 rfl (lv_at hl 1 rfl) ?_
  refine callSNI E (c_X3_isIn l G (illS N) w (Nat.lt_trans illS_lt (by decide)) (by omega)) E.2.2.2.2.2.2.1 YX3_isIn ⟨rfl, rfl⟩ ⟨Nat.le_of_ble_eq_true rfl, Nat.le_of_ble_eq_true rfl⟩ ⟨Nat.zero_le _, Nat.zero_le _⟩ hw (w := []) (w' := []) (rr := sN G a (N)) (big' := sN G a (N)) (List.Perm.refl _) (List.Perm.refl _) rfl hl rfl (Nat.le_of_ble_eq_true rfl) dX2_isIll_5 (fun H locs hw => ?_)
  refine lv_eqi (y := zb (v = 1)) (zb_c (by rw [← hv]; exact illS_t hw5)) ?_
  exact rZ E hr hlk (HB.eq hw (rfl)) (rfl) (zb_nar _) dX2_isIll_8
theorem YX2_whoStand : YV yX2_whoStand RX2 cX2_whoStand 3 (some .int) 2 := ⟨mw_9_18, mw_9_19, mw_1_15, mw_9_20, by decide +kernel⟩
set_option maxHeartbeats 4000000 in
set_option maxRecDepth 100000 in
theorem c_X2_whoStand (l : Launch) (G : GP) (a : Nat → Nat) (N : NS) (d s v : Nat) (hd : d < 8) (hs : s < 4) (hv : cOf d s N = v) : MI l yX2_whoStand (.code yX2_whoStand cX2_whoStand 3 (some .int) :: GW) ({ frames := 0, cells := 0, slots := 0, locals := 0 }) [.ref (a 0), .int (nI (d)), .int (nI (s))] G ES (sN G a (N)) (sN G a (N)) (nI v) := by
  refine MI.of (own := RX2) rfl rfl (Nat.le_of_ble_eq_true rfl) ?_
  intro pP eE sS mM below meth cC ls AA E hw hl hr hlk hE
  replace hl : lv_has ls 3 [(0, .ref (a 0)), (1, .int (nI (d))), (2, .int (nI (s)))] := hl
  refine lv_aload_n E.1 E.2.1 dX2_whoStand_0 rfl (lv_at hl 0 rfl) ?_
  refine gX2_12 E hw mw_2_17 dX2_whoStand_1 ?_
  refine lv_iload_n E.1 E.2.1 dX2_whoStand_4 rfl (lv_at hl 1 rfl) ?_
  refine lv_iconst (v := nI 4) E.1 E.2.1 dX2_whoStand_5 (by decide) ?_
  refine lv_mulN E.1 E.2.1 dX2_whoStand_6 ?_
  refine lv_iload_n E.1 E.2.1 dX2_whoStand_7 rfl (lv_at hl 2 rfl) ?_
  refine lv_addN E.1 E.2.1 dX2_whoStand_8 ?_
  refine lN2_10 E hw (v := v) (by omega) ((by rw [show (d * 4 + s) / 4 = d by omega, show (d * 4 + s) % 4 = s by omega]; exact hv)) dX2_whoStand_9 ?_
  exact rI E hr hlk (HB.eq hw (rfl)) (rfl) dX2_whoStand_10
theorem YX2_stands : YV yX2_stands RX2 cX2_stands 4 (some .boolean) 3 := ⟨mw_9_14, mw_9_15, mw_1_15, mw_9_16, by decide +kernel⟩
set_option maxHeartbeats 4000000 in
set_option maxRecDepth 100000 in
theorem c_X2_stands_g (l : Launch) (G : GP) (a : Nat → Nat) (N : NS) (d c s : Nat) (hd : d < 8) (hc : c < 4) (hs : s < 4) : MI l yX2_stands (.code yX2_stands cX2_stands 4 (some .boolean) :: GW) ({ frames := 1, cells := 0, slots := 0, locals := 22 }) [.ref (a 0), .int (nI (d)), .int (nI (c)), .int (nI (s))] G ES (sN G a (N)) (sN G a (N)) (zb ((N (30 + 14 * d + 0)).testBit c = true ∧ N (30 + 14 * d + (6 + c)) = s)) := by
  refine MI.of (own := RX2) rfl rfl (Nat.le_of_ble_eq_true rfl) ?_
  intro pP eE sS mM below meth cC ls AA E hw hl hr hlk hE
  replace hl : lv_has ls 4 [(0, .ref (a 0)), (1, .int (nI (d))), (2, .int (nI (c))), (3, .int (nI (s)))] := hl
  refine lv_aload_n E.1 E.2.1 dX2_stands_0 rfl (lv_at hl 0 rfl) ?_
  refine lv_iload_n E.1 E.2.1 dX2_stands_1 rfl (lv_at hl 1 rfl) ?_
  refine lv_iload_n E.1 E.2.1 dX2_stands_2 rfl (lv_at hl 3 rfl) ?_
  refine callVI E (c_X2_whoStand l G a (N) d s _ (by omega) (by omega) rfl) mw_9_17 YX2_whoStand ⟨rfl, rfl⟩ ⟨Nat.le_of_ble_eq_true rfl, Nat.le_of_ble_eq_true rfl⟩ ⟨Nat.zero_le _, Nat.zero_le _⟩ hw 0 rfl rfl rfl hl rfl (Nat.le_of_ble_eq_true rfl) dX2_stands_3 (fun H locs hw => ?_)
  refine lv_iload_n E.1 E.2.1 dX2_stands_6 rfl (lv_at hl 2 rfl) ?_
  refine callSNI E (c_X3_isIn l G (cOf d s N) c (Nat.lt_trans cOf_lt (by decide)) (by omega)) E.2.2.2.2.2.2.1 YX3_isIn ⟨rfl, rfl⟩ ⟨Nat.le_of_ble_eq_true rfl, Nat.le_of_ble_eq_true rfl⟩ ⟨Nat.zero_le _, Nat.zero_le _⟩ hw (w := []) (w' := []) (rr := sN G a (N)) (big' := sN G a (N)) (List.Perm.refl _) (List.Perm.refl _) rfl hl rfl (Nat.le_of_ble_eq_true rfl) dX2_stands_7 (fun H locs hw => ?_)
  refine lv_eqi (y := zb ((N (30 + 14 * d + 0)).testBit c = true ∧ N (30 + 14 * d + (6 + c)) = s)) (zb_c (cOf_t hc)) ?_
  exact rZ E hr hlk (HB.eq hw (rfl)) (rfl) (zb_nar _) dX2_stands_10
set_option maxHeartbeats 4000000 in
set_option maxRecDepth 100000 in
theorem c_X2_stands (l : Launch) (G : GP) (a : Nat → Nat) (N : NS) (d c s v : Nat) (hd : d < 8) (hc : c < 4) (hs : s < 4) (hb : (N (30 + 14 * d + 0)).testBit c = true) (hv : N (30 + 14 * d + (6 + c)) = v) : MI l yX2_stands (.code yX2_stands cX2_stands 4 (some .boolean) :: GW) ({ frames := 1, cells := 0, slots := 0, locals := 22 }) [.ref (a 0), .int (nI (d)), .int (nI (c)), .int (nI (s))] G ES (sN G a (N)) (sN G a (N)) (zb (v = s)) := by
  refine MI.of (own := RX2) rfl rfl (Nat.le_of_ble_eq_true rfl) ?_
  intro pP eE sS mM below meth cC ls AA E hw hl hr hlk hE
  replace hl : lv_has ls 4 [(0, .ref (a 0)), (1, .int (nI (d))), (2, .int (nI (c))), (3, .int (nI (s)))] := hl
  refine lv_aload_n E.1 E.2.1 dX2_stands_0 rfl (lv_at hl 0 rfl) ?_
  refine lv_iload_n E.1 E.2.1 dX2_stands_1 rfl (lv_at hl 1 rfl) ?_
  refine lv_iload_n E.1 E.2.1 dX2_stands_2 rfl (lv_at hl 3 rfl) ?_
  refine callVI E (c_X2_whoStand l G a (N) d s _ (by omega) (by omega) rfl) mw_9_17 YX2_whoStand ⟨rfl, rfl⟩ ⟨Nat.le_of_ble_eq_true rfl, Nat.le_of_ble_eq_true rfl⟩ ⟨Nat.zero_le _, Nat.zero_le _⟩ hw 0 rfl rfl rfl hl rfl (Nat.le_of_ble_eq_true rfl) dX2_stands_3 (fun H locs hw => ?_)
  refine lv_iload_n E.1 E.2.1 dX2_stands_6 rfl (lv_at hl 2 rfl) ?_
  refine callSNI E (c_X3_isIn l G (cOf d s N) c (Nat.lt_trans cOf_lt (by decide)) (by omega)) E.2.2.2.2.2.2.1 YX3_isIn ⟨rfl, rfl⟩ ⟨Nat.le_of_ble_eq_true rfl, Nat.le_of_ble_eq_true rfl⟩ ⟨Nat.zero_le _, Nat.zero_le _⟩ hw (w := []) (w' := []) (rr := sN G a (N)) (big' := sN G a (N)) (List.Perm.refl _) (List.Perm.refl _) rfl hl rfl (Nat.le_of_ble_eq_true rfl) dX2_stands_7 (fun H locs hw => ?_)
  refine lv_eqi (y := zb (v = s)) (zb_c ((cOf_t hc).trans (by rw [hv]; exact ⟨fun z => z.2, fun z => ⟨hb, z⟩⟩))) ?_
  exact rZ E hr hlk (HB.eq hw (rfl)) (rfl) (zb_nar _) dX2_stands_10
theorem YX2_move : YV yX2_move RX2 cX2_move 5 none 4 := ⟨mw_9_22, mw_9_23, mw_1_15, mw_10_0, by decide +kernel⟩
set_option maxHeartbeats 4000000 in
set_option maxRecDepth 100000 in
theorem c_X2_move (l : Launch) (G : GP) (a : Nat → Nat) (N : NS) (d c f t : Nat) (hd : d < 8) (hc : c < 4) (hf : f < 4) (ht : t < 4) (hft : f ≠ t) (hb : (N (30 + 14 * d + 0)).testBit c = true) (h0 : N (30 + 14 * d + (6 + c)) = f) : MV l yX2_move (.code yX2_move cX2_move 5 none :: GW) ({ frames := 0, cells := 0, slots := 0, locals := 0 }) [.ref (a 0), .int (nI (d)), .int (nI (c)), .int (nI (f)), .int (nI (t))] G ES (sN G a (N)) (sN G a (un N (30 + 14 * d + (6 + c)) t)) := by
  refine MV.of (own := RX2) rfl rfl (Nat.le_of_ble_eq_true rfl) ?_
  intro pP eE sS mM below meth cC ls AA E hw hl hr hlk hE
  replace hl : lv_has ls 5 [(0, .ref (a 0)), (1, .int (nI (d))), (2, .int (nI (c))), (3, .int (nI (f))), (4, .int (nI (t)))] := hl
  have hlf : cOf d f N < 16 := cOf_lt
  refine lv_aload_n E.1 E.2.1 dX2_move_0 rfl (lv_at hl 0 rfl) ?_
  refine gX2_12 E hw mw_2_17 dX2_move_1 ?_
  refine lv_iload_n E.1 E.2.1 dX2_move_4 rfl (lv_at hl 1 rfl) ?_
  refine lv_iconst (v := nI 4) E.1 E.2.1 dX2_move_5 (by decide) ?_
  refine lv_mulN E.1 E.2.1 dX2_move_6 ?_
  refine lv_iload_n E.1 E.2.1 dX2_move_7 rfl (lv_at hl 3 rfl) ?_
  refine lv_addN E.1 E.2.1 dX2_move_8 ?_
  refine lv_dup2_11 E.1 E.2.1 dX2_move_9 rfl rfl ?_
  refine lN2_10 E hw (v := cOf d f N) (by omega) ((by rw [show (d * 4 + f) / 4 = d by omega, show (d * 4 + f) % 4 = f by omega])) dX2_move_10 ?_
  refine lv_iconst (v := nI 1) E.1 E.2.1 dX2_move_11 (by decide) ?_
  refine lv_iload_n E.1 E.2.1 dX2_move_12 rfl (lv_at hl 2 rfl) ?_
  refine lv_ishl E.1 E.2.1 dX2_move_13 (lv_eqi (y := nI (2 ^ c)) (shl_1 _ (by omega)) ?_)
  refine lv_iconst (v := -1) E.1 E.2.1 dX2_move_14 (by decide) ?_
  refine lv_ixor E.1 E.2.1 dX2_move_15 ?_
  refine lv_iand E.1 E.2.1 dX2_move_16 (lv_eqi (y := nI (cOf d f N &&& (15 ^^^ 2 ^ c))) (andn_nI _ (by omega) _ (pow_lt16 _ (by omega))) ?_)
  refine sX2_10 E hw (by omega) dX2_move_17 (fun H locs hw => ?_)
  refine lv_aload_n E.1 E.2.1 dX2_move_18 rfl (lv_at hl 0 rfl) ?_
  refine gX2_12 E hw mw_2_17 dX2_move_19 ?_
  refine lv_iload_n E.1 E.2.1 dX2_move_22 rfl (lv_at hl 1 rfl) ?_
  refine lv_iconst (v := nI 4) E.1 E.2.1 dX2_move_23 (by decide) ?_
  refine lv_mulN E.1 E.2.1 dX2_move_24 ?_
  refine lv_iload E.1 E.2.1 dX2_move_25 (lv_at hl 4 rfl) ?_
  refine lv_addN E.1 E.2.1 dX2_move_27 ?_
  refine lv_dup2_11 E.1 E.2.1 dX2_move_28 rfl rfl ?_
  refine lX2_10 E hw (by omega) dX2_move_29 ?_
  refine lv_eqi (y := nI (cOf d t N)) ((if_neg (by omega)).trans (by show nI (cOf ((d * 4 + t) / 4) ((d * 4 + t) % 4) N) = _; rw [show (d * 4 + t) / 4 = d by omega, show (d * 4 + t) % 4 = t by omega])) ?_
  refine lv_iconst (v := nI 1) E.1 E.2.1 dX2_move_30 (by decide) ?_
  refine lv_iload_n E.1 E.2.1 dX2_move_31 rfl (lv_at hl 2 rfl) ?_
  refine lv_ishl E.1 E.2.1 dX2_move_32 (lv_eqi (y := nI (2 ^ c)) (shl_1 _ (by omega)) ?_)
  refine lv_ior E.1 E.2.1 dX2_move_33 (lv_eqi (y := nI (cOf d t N ||| 2 ^ c)) (or_nI _ _) ?_)
  refine sX2_10 E hw (by omega) dX2_move_34 (fun H locs hw => ?_)
  replace hw := HB.mv hd hc hf ht hft hb h0 hw
  exact rV E hr hlk (HB.eq hw (rfl)) dX2_move_35
theorem YX2_sendToClerks : YV yX2_sendToClerks RX2 cX2_sendToClerks 6 none 4 := ⟨mw_7_4, mw_7_5, mw_1_15, mw_7_6, by decide +kernel⟩
set_option maxHeartbeats 4000000 in
set_option maxRecDepth 100000 in
theorem c_X2_sendToClerks (l : Launch) (G : GP) (a : Nat → Nat) (N : NS) (k d f S : Nat) (hf : f < 5) (hS : S < 16) (h6 : N 6 ≤ 60) : MV l yX2_sendToClerks (.code yX2_sendToClerks cX2_sendToClerks 6 none :: GW) ({ frames := 1, cells := 0, slots := 0, locals := 25 }) [.ref (a 0), .int (nI (k)), .int (nI (d)), .int (nI (f)), .int (nI (S))] G ES (sN G a (N)) (sN G a (sa k d f S 4 N)) := by
  refine MV.of (own := RX2) rfl rfl (Nat.le_of_ble_eq_true rfl) ?_
  intro pP eE sS mM below meth cC ls AA E hw hl hr hlk hE
  replace hl : lv_has ls 6 [(0, .ref (a 0)), (1, .int (nI (k))), (2, .int (nI (d))), (3, .int (nI (f))), (4, .int (nI (S)))] := hl
  refine lv_iconst (v := nI 0) E.1 E.2.1 dX2_sendToClerks_0 (by decide) ?_
  refine lv_istore (lv' := [(5, .int (nI (0))), (0, .ref (a 0)), (1, .int (nI (k))), (2, .int (nI (d))), (3, .int (nI (f))), (4, .int (nI (S)))]) E.1 E.2.1 dX2_sendToClerks_1 hl (by decide) rfl (fun ls hl => ?_)
  refine W_ind1 (nL := 6) (P := fun c => c ≤ 4) (μ := fun c => 4 - c) (I := fun c => sN G a (sa k d f S c N)) (L := fun c => [(0, .ref (a 0)), (1, .int (nI (k))), (2, .int (nI (d))), (3, .int (nI (f))), (4, .int (nI (S))), (5, .int (nI (c)))]) ?_ (0) (Nat.zero_le _) (HB.eq hw (rfl)) (lvh_eq (l := [(0, .ref (a 0)), (1, .int (nI (k))), (2, .int (nI (d))), (3, .int (nI (f))), (4, .int (nI (S))), (5, .int (nI (0)))]) (lv_sub hl [1, 2, 3, 4, 5, 0] rfl) (rfl))
  intro c hP ih H locs ls hw hl
  replace hw : HB G AA sS.heap (sN G a (sa k d f S c N)) H locs := hw
  replace hl : lv_has ls 6 [(0, .ref (a 0)), (1, .int (nI (k))), (2, .int (nI (d))), (3, .int (nI (f))), (4, .int (nI (S))), (5, .int (nI (c)))] := hl
  refine lv_iload E.1 E.2.1 dX2_sendToClerks_3 (lv_at hl 5 rfl) ?_
  refine lv_iconst (v := nI 4) E.1 E.2.1 dX2_sendToClerks_5 (by decide) ?_
  refine lv_icmp_geN (tgt := 37) E.1 E.2.1 (by omega) (by omega) dX2_sendToClerks_6 (by decide) (fun c6 => ?_) (fun c6 => ?_)
  · skip
    exact rV E hr hlk (HB.eq hw (by rw [show c = 4 by omega])) dX2_sendToClerks_37
  · skip
    refine lv_iload E.1 E.2.1 dX2_sendToClerks_9 (lv_at hl 4 rfl) ?_
    refine lv_iload E.1 E.2.1 dX2_sendToClerks_11 (lv_at hl 5 rfl) ?_
    refine callSNI E (c_X3_isIn l G S c (by omega) (by omega)) E.2.2.2.2.2.2.1 YX3_isIn ⟨rfl, rfl⟩ ⟨Nat.le_of_ble_eq_true rfl, Nat.le_of_ble_eq_true rfl⟩ ⟨Nat.zero_le _, Nat.zero_le _⟩ hw (w := []) (w' := []) (rr := sN G a (sa k d f S c N)) (big' := sN G a (sa k d f S c N)) (List.Perm.refl _) (List.Perm.refl _) rfl hl rfl (Nat.le_of_ble_eq_true rfl) dX2_sendToClerks_13 (fun H locs hw => ?_)
    refine lv_if_eqB (tgt := 31) E.1 E.2.1 dX2_sendToClerks_16 (by decide) (fun c16 => ?_) (fun c16 => ?_)
    · skip
      refine lv_iincN (k := 5) (lv' := [(5, .int (nI (c + 1))), (0, .ref (a 0)), (1, .int (nI (k))), (2, .int (nI (d))), (3, .int (nI (f))), (4, .int (nI (S)))]) E.1 E.2.1 dX2_sendToClerks_31 hl rfl (by decide) rfl (fun ls hl => ?_)
      refine lv_goto (tgt := 3) E.1 E.2.1 dX2_sendToClerks_34 (by decide) ?_
      exact ih (c + 1) (by omega) (by omega) _ _ _ (HB.eq hw (by rw [sa, if_neg c16])) (lvh_eq (l := [(0, .ref (a 0)), (1, .int (nI (k))), (2, .int (nI (d))), (3, .int (nI (f))), (4, .int (nI (S))), (5, .int (nI (c + 1)))]) (lv_sub hl [1, 2, 3, 4, 5, 0] rfl) (rfl))
    · skip
      refine lv_aload_n E.1 E.2.1 dX2_sendToClerks_19 rfl (lv_at hl 0 rfl) ?_
      refine gX2_5 E hw mw_2_10 dX2_sendToClerks_20 ?_
      refine lv_iload_n E.1 E.2.1 dX2_sendToClerks_23 rfl (lv_at hl 1 rfl) ?_
      refine lv_iload_n E.1 E.2.1 dX2_sendToClerks_24 rfl (lv_at hl 2 rfl) ?_
      refine lv_iload_n E.1 E.2.1 dX2_sendToClerks_25 rfl (lv_at hl 3 rfl) ?_
      refine lv_iload E.1 E.2.1 dX2_sendToClerks_26 (lv_at hl 5 rfl) ?_
      refine callVV E (c_X1_send l G a (sa k d f S c N) k d f c (by omega) (sa_6 hf h6 _)) mw_7_7 YX1_send ⟨rfl, rfl⟩ ⟨Nat.le_of_ble_eq_true rfl, Nat.le_of_ble_eq_true rfl⟩ ⟨Nat.zero_le _, Nat.zero_le _⟩ hw 2 rfl rfl rfl hl rfl (Nat.le_of_ble_eq_true rfl) dX2_sendToClerks_28 (fun H locs hw => ?_)
      refine lv_iincN (k := 5) (lv' := [(5, .int (nI (c + 1))), (0, .ref (a 0)), (1, .int (nI (k))), (2, .int (nI (d))), (3, .int (nI (f))), (4, .int (nI (S)))]) E.1 E.2.1 dX2_sendToClerks_31 hl rfl (by decide) rfl (fun ls hl => ?_)
      refine lv_goto (tgt := 3) E.1 E.2.1 dX2_sendToClerks_34 (by decide) ?_
      exact ih (c + 1) (by omega) (by omega) _ _ _ (HB.eq hw (by rw [sa, if_pos c16])) (lvh_eq (l := [(0, .ref (a 0)), (1, .int (nI (k))), (2, .int (nI (d))), (3, .int (nI (f))), (4, .int (nI (S))), (5, .int (nI (c + 1)))]) (lv_sub hl [1, 2, 3, 4, 5, 0] rfl) (rfl))
theorem YX2_answerAsBetween : YV yX2_answerAsBetween RX2 cX2_answerAsBetween 3 none 2 := ⟨mw_10_6, mw_10_7, mw_1_15, mw_10_8, by decide +kernel⟩
set_option maxHeartbeats 4000000 in
set_option maxRecDepth 100000 in
theorem c_X2_answerAsBetween (l : Launch) (G : GP) (a : Nat → Nat) (N : NS) (d c : Nat) (hd : d < 8) (hF : FI N) : MV l yX2_answerAsBetween (.code yX2_answerAsBetween cX2_answerAsBetween 3 none :: GW) ({ frames := 1, cells := 0, slots := 0, locals := 25 }) [.ref (a 0), .int (nI (d)), .int (nI (c))] G ES (sN G a (N)) (sN G a (mAns d c N)) := by
  refine MV.of (own := RX2) rfl rfl (Nat.le_of_ble_eq_true rfl) ?_
  intro pP eE sS mM below meth cC ls AA E hw hl hr hlk hE
  replace hl : lv_has ls 3 [(0, .ref (a 0)), (1, .int (nI (d))), (2, .int (nI (c)))] := hl
  have h6 := hF.1
  have h1 := hF.f1 hd
  have h0 := hF.f0 hd
  have h4 := hF.f4 hd
  have h5x := hF.f5 hd
  refine lv_aload_n E.1 E.2.1 dX2_answerAsBetween_0 rfl (lv_at hl 0 rfl) ?_
  refine gX2_7 E hw mw_2_12 dX2_answerAsBetween_1 ?_
  refine lv_iload_n E.1 E.2.1 dX2_answerAsBetween_4 rfl (lv_at hl 1 rfl) ?_
  refine lN2_5 E hw (v := N (30 + 14 * d + 1)) (by omega) (rfl) dX2_answerAsBetween_5 ?_
  refine lv_iconst (v := nI 2) E.1 E.2.1 dX2_answerAsBetween_6 (by decide) ?_
  refine lv_icmp_neN (tgt := 24) E.1 E.2.1 (by omega) (by omega) dX2_answerAsBetween_7 (by decide) (fun c7 => ?_) (fun c7 => ?_)
  · skip
    refine lv_aload_n E.1 E.2.1 dX2_answerAsBetween_24 rfl (lv_at hl 0 rfl) ?_
    refine gX2_7 E hw mw_2_12 dX2_answerAsBetween_25 ?_
    refine lv_iload_n E.1 E.2.1 dX2_answerAsBetween_28 rfl (lv_at hl 1 rfl) ?_
    refine lN2_5 E hw (v := N (30 + 14 * d + 1)) (by omega) (rfl) dX2_answerAsBetween_29 ?_
    refine lv_if_eqN (tgt := 44) E.1 E.2.1 (by omega) dX2_answerAsBetween_30 (by decide) (fun c30 => ?_) (fun c30 => ?_)
    · skip
      exact rV E hr hlk (HB.eq hw (by rw [mAns, if_neg (by omega), if_neg (by omega)])) dX2_answerAsBetween_44
    · skip
      refine lv_aload_n E.1 E.2.1 dX2_answerAsBetween_33 rfl (lv_at hl 0 rfl) ?_
      refine gX2_5 E hw mw_2_10 dX2_answerAsBetween_34 ?_
      refine lv_iconst (v := nI 3) E.1 E.2.1 dX2_answerAsBetween_37 (by decide) ?_
      refine lv_iload_n E.1 E.2.1 dX2_answerAsBetween_38 rfl (lv_at hl 1 rfl) ?_
      refine lv_iconst (v := nI 4) E.1 E.2.1 dX2_answerAsBetween_39 (by decide) ?_
      refine lv_iload_n E.1 E.2.1 dX2_answerAsBetween_40 rfl (lv_at hl 2 rfl) ?_
      refine callVV E (c_X1_send l G a (N) 3 d 4 c (by omega) (by omega)) mw_7_7 YX1_send ⟨rfl, rfl⟩ ⟨Nat.le_of_ble_eq_true rfl, Nat.le_of_ble_eq_true rfl⟩ ⟨Nat.zero_le _, Nat.zero_le _⟩ hw 2 rfl rfl rfl hl rfl (Nat.le_of_ble_eq_true rfl) dX2_answerAsBetween_41 (fun H locs hw => ?_)
      exact rV E hr hlk (HB.eq hw (by rw [mAns, if_pos (by omega)])) dX2_answerAsBetween_44
  · skip
    refine lv_aload_n E.1 E.2.1 dX2_answerAsBetween_10 rfl (lv_at hl 0 rfl) ?_
    refine gX2_5 E hw mw_2_10 dX2_answerAsBetween_11 ?_
    refine lv_iconst (v := nI 4) E.1 E.2.1 dX2_answerAsBetween_14 (by decide) ?_
    refine lv_iload_n E.1 E.2.1 dX2_answerAsBetween_15 rfl (lv_at hl 1 rfl) ?_
    refine lv_iconst (v := nI 4) E.1 E.2.1 dX2_answerAsBetween_16 (by decide) ?_
    refine lv_iload_n E.1 E.2.1 dX2_answerAsBetween_17 rfl (lv_at hl 2 rfl) ?_
    refine callVV E (c_X1_send l G a (N) 4 d 4 c (by omega) (by omega)) mw_7_7 YX1_send ⟨rfl, rfl⟩ ⟨Nat.le_of_ble_eq_true rfl, Nat.le_of_ble_eq_true rfl⟩ ⟨Nat.zero_le _, Nat.zero_le _⟩ hw 2 rfl rfl rfl hl rfl (Nat.le_of_ble_eq_true rfl) dX2_answerAsBetween_18 (fun H locs hw => ?_)
    refine lv_goto (tgt := 44) E.1 E.2.1 dX2_answerAsBetween_21 (by decide) ?_
    exact rV E hr hlk (HB.eq hw (by rw [mAns, if_neg (by omega), if_pos (by omega)])) dX2_answerAsBetween_44
theorem YX2_vote : YV yX2_vote RX2 cX2_vote 3 none 2 := ⟨mw_9_10, mw_9_11, mw_1_15, mw_9_12, by decide +kernel⟩
set_option maxHeartbeats 4000000 in
set_option maxRecDepth 100000 in
theorem c_X2_vote (l : Launch) (G : GP) (a : Nat → Nat) (N : NS) (d c : Nat) (hd : d < 8) (hc : c < 4) (hF : FI N) (hb : (N (30 + 14 * d + 0)).testBit c = true) : MV l yX2_vote (.code yX2_vote cX2_vote 3 none :: GW) ({ frames := 2, cells := 0, slots := 0, locals := 45 }) [.ref (a 0), .int (nI (d)), .int (nI (c))] G ES (sN G a (N)) (sN G a (mAsk d c N)) := by
  refine MV.of (own := RX2) rfl rfl (Nat.le_of_ble_eq_true rfl) ?_
  intro pP eE sS mM below meth cC ls AA E hw hl hr hlk hE
  replace hl : lv_has ls 3 [(0, .ref (a 0)), (1, .int (nI (d))), (2, .int (nI (c)))] := hl
  have h6 := hF.1
  have h7 := hF.f6 hd hc
  have h8 := hF.wl hc
  refine lv_aload_n E.1 E.2.1 dX2_vote_0 rfl (lv_at hl 0 rfl) ?_
  refine lv_iload_n E.1 E.2.1 dX2_vote_1 rfl (lv_at hl 1 rfl) ?_
  refine lv_iload_n E.1 E.2.1 dX2_vote_2 rfl (lv_at hl 2 rfl) ?_
  refine lv_iconst (v := nI 0) E.1 E.2.1 dX2_vote_3 (by decide) ?_
  refine callVI E (c_X2_stands l G a (N) d c 0 (N (30 + 14 * d + (6 + c))) (by omega) (by omega) (by omega) hb (rfl)) mw_9_13 YX2_stands ⟨rfl, rfl⟩ ⟨Nat.le_of_ble_eq_true rfl, Nat.le_of_ble_eq_true rfl⟩ ⟨Nat.zero_le _, Nat.zero_le _⟩ hw 0 rfl rfl rfl hl rfl (Nat.le_of_ble_eq_true rfl) dX2_vote_4 (fun H locs hw => ?_)
  refine lv_if_eqB (tgt := 54) E.1 E.2.1 dX2_vote_7 (by decide) (fun c7 => ?_) (fun c7 => ?_)
  · skip
    refine lv_aload_n E.1 E.2.1 dX2_vote_54 rfl (lv_at hl 0 rfl) ?_
    refine lv_iload_n E.1 E.2.1 dX2_vote_55 rfl (lv_at hl 1 rfl) ?_
    refine lv_iload_n E.1 E.2.1 dX2_vote_56 rfl (lv_at hl 2 rfl) ?_
    refine lv_iconst (v := nI 1) E.1 E.2.1 dX2_vote_57 (by decide) ?_
    refine callVI E (c_X2_stands l G a (N) d c 1 (N (30 + 14 * d + (6 + c))) (by omega) (by omega) (by omega) hb (rfl)) mw_9_13 YX2_stands ⟨rfl, rfl⟩ ⟨Nat.le_of_ble_eq_true rfl, Nat.le_of_ble_eq_true rfl⟩ ⟨Nat.zero_le _, Nat.zero_le _⟩ hw 0 rfl rfl rfl hl rfl (Nat.le_of_ble_eq_true rfl) dX2_vote_58 (fun H locs hw => ?_)
    refine lv_if_eqB (tgt := 78) E.1 E.2.1 dX2_vote_61 (by decide) (fun c61 => ?_) (fun c61 => ?_)
    · skip
      refine lv_aload_n E.1 E.2.1 dX2_vote_78 rfl (lv_at hl 0 rfl) ?_
      refine lv_iload_n E.1 E.2.1 dX2_vote_79 rfl (lv_at hl 1 rfl) ?_
      refine lv_iload_n E.1 E.2.1 dX2_vote_80 rfl (lv_at hl 2 rfl) ?_
      refine lv_iconst (v := nI 3) E.1 E.2.1 dX2_vote_81 (by decide) ?_
      refine callVI E (c_X2_stands l G a (N) d c 3 (N (30 + 14 * d + (6 + c))) (by omega) (by omega) (by omega) hb (rfl)) mw_9_13 YX2_stands ⟨rfl, rfl⟩ ⟨Nat.le_of_ble_eq_true rfl, Nat.le_of_ble_eq_true rfl⟩ ⟨Nat.zero_le _, Nat.zero_le _⟩ hw 0 rfl rfl rfl hl rfl (Nat.le_of_ble_eq_true rfl) dX2_vote_82 (fun H locs hw => ?_)
      refine lv_if_eqB (tgt := 99) E.1 E.2.1 dX2_vote_85 (by decide) (fun c85 => ?_) (fun c85 => ?_)
      · skip
        exact rV E hr hlk (HB.eq hw (by rw [mAsk, if_neg (by omega), if_pos (by omega)])) dX2_vote_99
      · skip
        refine lv_aload_n E.1 E.2.1 dX2_vote_88 rfl (lv_at hl 0 rfl) ?_
        refine gX2_5 E hw mw_2_10 dX2_vote_89 ?_
        refine lv_iconst (v := nI 2) E.1 E.2.1 dX2_vote_92 (by decide) ?_
        refine lv_iload_n E.1 E.2.1 dX2_vote_93 rfl (lv_at hl 1 rfl) ?_
        refine lv_iload_n E.1 E.2.1 dX2_vote_94 rfl (lv_at hl 2 rfl) ?_
        refine lv_iconst (v := nI 4) E.1 E.2.1 dX2_vote_95 (by decide) ?_
        refine callVV E (c_X1_send l G a (N) 2 d c 4 (by omega) (by first | exact h6 | (rw [un_n (by omega)]; exact h6))) mw_7_7 YX1_send ⟨rfl, rfl⟩ ⟨Nat.le_of_ble_eq_true rfl, Nat.le_of_ble_eq_true rfl⟩ ⟨Nat.zero_le _, Nat.zero_le _⟩ hw 2 rfl rfl rfl hl rfl (Nat.le_of_ble_eq_true rfl) dX2_vote_96 (fun H locs hw => ?_)
        exact rV E hr hlk (HB.eq hw (by rw [mAsk, if_neg (by omega), if_neg (by omega), if_neg (by omega)])) dX2_vote_99
    · skip
      refine lv_aload_n E.1 E.2.1 dX2_vote_64 rfl (lv_at hl 0 rfl) ?_
      refine gX2_5 E hw mw_2_10 dX2_vote_65 ?_
      refine lv_iconst (v := nI 1) E.1 E.2.1 dX2_vote_68 (by decide) ?_
      refine lv_iload_n E.1 E.2.1 dX2_vote_69 rfl (lv_at hl 1 rfl) ?_
      refine lv_iload_n E.1 E.2.1 dX2_vote_70 rfl (lv_at hl 2 rfl) ?_
      refine lv_iconst (v := nI 4) E.1 E.2.1 dX2_vote_71 (by decide) ?_
      refine callVV E (c_X1_send l G a (N) 1 d c 4 (by omega) (by first | exact h6 | (rw [un_n (by omega), un_n (by omega)]; exact h6))) mw_7_7 YX1_send ⟨rfl, rfl⟩ ⟨Nat.le_of_ble_eq_true rfl, Nat.le_of_ble_eq_true rfl⟩ ⟨Nat.zero_le _, Nat.zero_le _⟩ hw 2 rfl rfl rfl hl rfl (Nat.le_of_ble_eq_true rfl) dX2_vote_72 (fun H locs hw => ?_)
      refine lv_goto (tgt := 99) E.1 E.2.1 dX2_vote_75 (by decide) ?_
      exact rV E hr hlk (HB.eq hw (by rw [mAsk, if_neg (by omega), if_neg (by omega), if_pos (by omega)])) dX2_vote_99
  · skip
    refine lv_aload_n E.1 E.2.1 dX2_vote_10 rfl (lv_at hl 0 rfl) ?_
    refine gX2_2 E hw mw_4_7 dX2_vote_11 ?_
    refine lv_eqi (y := nI (unwS N)) (rfl) ?_
    refine lv_iload_n E.1 E.2.1 dX2_vote_14 rfl (lv_at hl 2 rfl) ?_
    refine callSNI E (c_X3_isIn l G (unwS N) c (Nat.lt_trans unwS_lt (by decide)) (by omega)) E.2.2.2.2.2.2.1 YX3_isIn ⟨rfl, rfl⟩ ⟨Nat.le_of_ble_eq_true rfl, Nat.le_of_ble_eq_true rfl⟩ ⟨Nat.zero_le _, Nat.zero_le _⟩ hw (w := []) (w' := []) (rr := sN G a (N)) (big' := sN G a (N)) (List.Perm.refl _) (List.Perm.refl _) rfl hl rfl (Nat.le_of_ble_eq_true rfl) dX2_vote_15 (fun H locs hw => ?_)
    refine lv_eqi (y := zb (¬ N (15 + c) = 1)) (zb_c (unwS_t hc)) ?_
    refine lv_if_eqB (tgt := 32) E.1 E.2.1 dX2_vote_18 (by decide) (fun c18 => ?_) (fun c18 => ?_)
    · skip
      refine lv_aload_n E.1 E.2.1 dX2_vote_32 rfl (lv_at hl 0 rfl) ?_
      refine lv_iload_n E.1 E.2.1 dX2_vote_33 rfl (lv_at hl 1 rfl) ?_
      refine lv_iload_n E.1 E.2.1 dX2_vote_34 rfl (lv_at hl 2 rfl) ?_
      refine lv_iconst (v := nI 0) E.1 E.2.1 dX2_vote_35 (by decide) ?_
      refine lv_iconst (v := nI 1) E.1 E.2.1 dX2_vote_36 (by decide) ?_
      refine callVV E (c_X2_move l G a (N) d c 0 1 (by omega) (by omega) (by omega) (by omega) (by omega) hb (by first | assumption | omega)) mw_9_21 YX2_move ⟨rfl, rfl⟩ ⟨Nat.le_of_ble_eq_true rfl, Nat.le_of_ble_eq_true rfl⟩ ⟨Nat.zero_le _, Nat.zero_le _⟩ hw 0 rfl rfl rfl hl rfl (Nat.le_of_ble_eq_true rfl) dX2_vote_37 (fun H locs hw => ?_)
      refine lv_aload_n E.1 E.2.1 dX2_vote_40 rfl (lv_at hl 0 rfl) ?_
      refine gX2_13 E hw mw_2_18 dX2_vote_41 ?_
      refine lv_iload_n E.1 E.2.1 dX2_vote_44 rfl (lv_at hl 1 rfl) ?_
      refine lv_iconst (v := nI 4) E.1 E.2.1 dX2_vote_45 (by decide) ?_
      refine lv_mulN E.1 E.2.1 dX2_vote_46 ?_
      refine lv_iload_n E.1 E.2.1 dX2_vote_47 rfl (lv_at hl 2 rfl) ?_
      refine lv_addN E.1 E.2.1 dX2_vote_48 ?_
      refine lv_aload_n E.1 E.2.1 dX2_vote_49 rfl (lv_at hl 0 rfl) ?_
      refine gX2_0 E hw mw_4_5 dX2_vote_50 ?_
      refine lv_eqi (y := nI (N 4)) (congrArg nI (show (un (N) (30 + 14 * d + (6 + c)) (1)) 4 = N 4 from by rw [un_n (by omega)])) ?_
      refine sN2_11 E hw (by omega) dX2_vote_53 (fun H locs hw => ?_)
      replace hw : HB G AA sS.heap (sN G a (un (un (N) (30 + 14 * d + (6 + c)) (1)) (30 + 14 * d + (10 + c)) (N 4))) H locs := HB.eq hw (by rw [show 30 + 14 * ((d * 4 + c) / 4) + (10 + (d * 4 + c) % 4) = 30 + 14 * d + (10 + c) by omega])
      refine lv_aload_n E.1 E.2.1 dX2_vote_54 rfl (lv_at hl 0 rfl) ?_
      refine lv_iload_n E.1 E.2.1 dX2_vote_55 rfl (lv_at hl 1 rfl) ?_
      refine lv_iload_n E.1 E.2.1 dX2_vote_56 rfl (lv_at hl 2 rfl) ?_
      refine lv_iconst (v := nI 1) E.1 E.2.1 dX2_vote_57 (by decide) ?_
      refine callVI E (c_X2_stands l G a (un (un (N) (30 + 14 * d + (6 + c)) (1)) (30 + 14 * d + (10 + c)) (N 4)) d c 1 (1) (by omega) (by omega) (by omega) (by first | exact hb | (rw [un_n (by omega)]; exact hb) | (rw [un_n (by omega), un_n (by omega)]; exact hb)) (by rw [un_n (by omega), un_s])) mw_9_13 YX2_stands ⟨rfl, rfl⟩ ⟨Nat.le_of_ble_eq_true rfl, Nat.le_of_ble_eq_true rfl⟩ ⟨Nat.zero_le _, Nat.zero_le _⟩ hw 0 rfl rfl rfl hl rfl (Nat.le_of_ble_eq_true rfl) dX2_vote_58 (fun H locs hw => ?_)
      refine lv_eqi (y := nI 1) (zb_t (by decide)) ?_
      refine lv_if_eqN (tgt := 78) E.1 E.2.1 (by omega) dX2_vote_61 (by decide) (fun c61 => ?_) (fun c61 => ?_)
      · exact absurd c61 (by decide)
      · skip
        refine lv_aload_n E.1 E.2.1 dX2_vote_64 rfl (lv_at hl 0 rfl) ?_
        refine gX2_5 E hw mw_2_10 dX2_vote_65 ?_
        refine lv_iconst (v := nI 1) E.1 E.2.1 dX2_vote_68 (by decide) ?_
        refine lv_iload_n E.1 E.2.1 dX2_vote_69 rfl (lv_at hl 1 rfl) ?_
        refine lv_iload_n E.1 E.2.1 dX2_vote_70 rfl (lv_at hl 2 rfl) ?_
        refine lv_iconst (v := nI 4) E.1 E.2.1 dX2_vote_71 (by decide) ?_
        refine callVV E (c_X1_send l G a (un (un (N) (30 + 14 * d + (6 + c)) (1)) (30 + 14 * d + (10 + c)) (N 4)) 1 d c 4 (by omega) (by first | exact h6 | (rw [un_n (by omega), un_n (by omega)]; exact h6))) mw_7_7 YX1_send ⟨rfl, rfl⟩ ⟨Nat.le_of_ble_eq_true rfl, Nat.le_of_ble_eq_true rfl⟩ ⟨Nat.zero_le _, Nat.zero_le _⟩ hw 2 rfl rfl rfl hl rfl (Nat.le_of_ble_eq_true rfl) dX2_vote_72 (fun H locs hw => ?_)
        refine lv_goto (tgt := 99) E.1 E.2.1 dX2_vote_75 (by decide) ?_
        exact rV E hr hlk (HB.eq hw (by rw [mAsk, if_pos c7, if_pos (Classical.not_not.mp c18), un_comm (by omega)])) dX2_vote_99
    · skip
      refine lv_aload_n E.1 E.2.1 dX2_vote_21 rfl (lv_at hl 0 rfl) ?_
      refine lv_iload_n E.1 E.2.1 dX2_vote_22 rfl (lv_at hl 1 rfl) ?_
      refine lv_iload_n E.1 E.2.1 dX2_vote_23 rfl (lv_at hl 2 rfl) ?_
      refine lv_iconst (v := nI 0) E.1 E.2.1 dX2_vote_24 (by decide) ?_
      refine lv_iconst (v := nI 3) E.1 E.2.1 dX2_vote_25 (by decide) ?_
      refine callVV E (c_X2_move l G a (N) d c 0 3 (by omega) (by omega) (by omega) (by omega) (by omega) hb (by first | assumption | omega)) mw_9_21 YX2_move ⟨rfl, rfl⟩ ⟨Nat.le_of_ble_eq_true rfl, Nat.le_of_ble_eq_true rfl⟩ ⟨Nat.zero_le _, Nat.zero_le _⟩ hw 0 rfl rfl rfl hl rfl (Nat.le_of_ble_eq_true rfl) dX2_vote_26 (fun H locs hw => ?_)
      refine lv_goto (tgt := 54) E.1 E.2.1 dX2_vote_29 (by decide) ?_
      refine lv_aload_n E.1 E.2.1 dX2_vote_54 rfl (lv_at hl 0 rfl) ?_
      refine lv_iload_n E.1 E.2.1 dX2_vote_55 rfl (lv_at hl 1 rfl) ?_
      refine lv_iload_n E.1 E.2.1 dX2_vote_56 rfl (lv_at hl 2 rfl) ?_
      refine lv_iconst (v := nI 1) E.1 E.2.1 dX2_vote_57 (by decide) ?_
      refine callVI E (c_X2_stands l G a (un (N) (30 + 14 * d + (6 + c)) (3)) d c 1 (3) (by omega) (by omega) (by omega) (by first | exact hb | (rw [un_n (by omega)]; exact hb) | (rw [un_n (by omega), un_n (by omega)]; exact hb)) (by rw [un_s])) mw_9_13 YX2_stands ⟨rfl, rfl⟩ ⟨Nat.le_of_ble_eq_true rfl, Nat.le_of_ble_eq_true rfl⟩ ⟨Nat.zero_le _, Nat.zero_le _⟩ hw 0 rfl rfl rfl hl rfl (Nat.le_of_ble_eq_true rfl) dX2_vote_58 (fun H locs hw => ?_)
      refine lv_eqi (y := nI 0) (zb_f (by decide)) ?_
      refine lv_if_eqN (tgt := 78) E.1 E.2.1 (by omega) dX2_vote_61 (by decide) (fun c61 => ?_) (fun c61 => ?_)
      · skip
        refine lv_aload_n E.1 E.2.1 dX2_vote_78 rfl (lv_at hl 0 rfl) ?_
        refine lv_iload_n E.1 E.2.1 dX2_vote_79 rfl (lv_at hl 1 rfl) ?_
        refine lv_iload_n E.1 E.2.1 dX2_vote_80 rfl (lv_at hl 2 rfl) ?_
        refine lv_iconst (v := nI 3) E.1 E.2.1 dX2_vote_81 (by decide) ?_
        refine callVI E (c_X2_stands l G a (un (N) (30 + 14 * d + (6 + c)) (3)) d c 3 (3) (by omega) (by omega) (by omega) (by first | exact hb | (rw [un_n (by omega)]; exact hb) | (rw [un_n (by omega), un_n (by omega)]; exact hb)) (by rw [un_s])) mw_9_13 YX2_stands ⟨rfl, rfl⟩ ⟨Nat.le_of_ble_eq_true rfl, Nat.le_of_ble_eq_true rfl⟩ ⟨Nat.zero_le _, Nat.zero_le _⟩ hw 0 rfl rfl rfl hl rfl (Nat.le_of_ble_eq_true rfl) dX2_vote_82 (fun H locs hw => ?_)
        refine lv_eqi (y := nI 1) (zb_t (by decide)) ?_
        refine lv_if_eqN (tgt := 99) E.1 E.2.1 (by omega) dX2_vote_85 (by decide) (fun c85 => ?_) (fun c85 => ?_)
        · exact absurd c85 (by decide)
        · skip
          refine lv_aload_n E.1 E.2.1 dX2_vote_88 rfl (lv_at hl 0 rfl) ?_
          refine gX2_5 E hw mw_2_10 dX2_vote_89 ?_
          refine lv_iconst (v := nI 2) E.1 E.2.1 dX2_vote_92 (by decide) ?_
          refine lv_iload_n E.1 E.2.1 dX2_vote_93 rfl (lv_at hl 1 rfl) ?_
          refine lv_iload_n E.1 E.2.1 dX2_vote_94 rfl (lv_at hl 2 rfl) ?_
          refine lv_iconst (v := nI 4) E.1 E.2.1 dX2_vote_95 (by decide) ?_
          refine callVV E (c_X1_send l G a (un (N) (30 + 14 * d + (6 + c)) (3)) 2 d c 4 (by omega) (by first | exact h6 | (rw [un_n (by omega)]; exact h6))) mw_7_7 YX1_send ⟨rfl, rfl⟩ ⟨Nat.le_of_ble_eq_true rfl, Nat.le_of_ble_eq_true rfl⟩ ⟨Nat.zero_le _, Nat.zero_le _⟩ hw 2 rfl rfl rfl hl rfl (Nat.le_of_ble_eq_true rfl) dX2_vote_96 (fun H locs hw => ?_)
          exact rV E hr hlk (HB.eq hw (by rw [mAsk, if_pos c7, if_neg c18])) dX2_vote_99
      · exact absurd c61 (by decide)
theorem YX2_postFor : YV yX2_postFor RX2 cX2_postFor 3 none 2 := ⟨mw_10_14, mw_10_15, mw_1_15, mw_10_16, by decide +kernel⟩
set_option maxHeartbeats 4000000 in
set_option maxRecDepth 100000 in
theorem c_X2_postFor (l : Launch) (G : GP) (a : Nat → Nat) (N : NS) (d c : Nat) (hd : d < 8) (hc : c < 4) (hF : FI N) (hb : (N (30 + 14 * d + 0)).testBit c = true) : MV l yX2_postFor (.code yX2_postFor cX2_postFor 3 none :: GW) ({ frames := 2, cells := 0, slots := 0, locals := 45 }) [.ref (a 0), .int (nI (d)), .int (nI (c))] G ES (sN G a (N)) (sN G a (mPosts d c N)) := by
  refine MV.of (own := RX2) rfl rfl (Nat.le_of_ble_eq_true rfl) ?_
  intro pP eE sS mM below meth cC ls AA E hw hl hr hlk hE
  replace hl : lv_has ls 3 [(0, .ref (a 0)), (1, .int (nI (d))), (2, .int (nI (c)))] := hl
  have h6 := hF.1
  have h7 := hF.f6 hd hc
  have h8 := hF.wl hc
  refine lv_aload_n E.1 E.2.1 dX2_postFor_0 rfl (lv_at hl 0 rfl) ?_
  refine lv_iload_n E.1 E.2.1 dX2_postFor_1 rfl (lv_at hl 1 rfl) ?_
  refine lv_iload_n E.1 E.2.1 dX2_postFor_2 rfl (lv_at hl 2 rfl) ?_
  refine lv_iconst (v := nI 1) E.1 E.2.1 dX2_postFor_3 (by decide) ?_
  refine callVI E (c_X2_stands l G a (N) d c 1 (N (30 + 14 * d + (6 + c))) (by omega) (by omega) (by omega) hb (rfl)) mw_9_13 YX2_stands ⟨rfl, rfl⟩ ⟨Nat.le_of_ble_eq_true rfl, Nat.le_of_ble_eq_true rfl⟩ ⟨Nat.zero_le _, Nat.zero_le _⟩ hw 0 rfl rfl rfl hl rfl (Nat.le_of_ble_eq_true rfl) dX2_postFor_4 (fun H locs hw => ?_)
  refine lv_if_eqB (tgt := 18) E.1 E.2.1 dX2_postFor_7 (by decide) (fun c7 => ?_) (fun c7 => ?_)
  · skip
    refine lv_aload_n E.1 E.2.1 dX2_postFor_18 rfl (lv_at hl 0 rfl) ?_
    refine lv_iload_n E.1 E.2.1 dX2_postFor_19 rfl (lv_at hl 1 rfl) ?_
    refine lv_iload_n E.1 E.2.1 dX2_postFor_20 rfl (lv_at hl 2 rfl) ?_
    refine lv_iconst (v := nI 2) E.1 E.2.1 dX2_postFor_21 (by decide) ?_
    refine callVI E (c_X2_stands l G a (N) d c 2 (N (30 + 14 * d + (6 + c))) (by omega) (by omega) (by omega) hb (rfl)) mw_9_13 YX2_stands ⟨rfl, rfl⟩ ⟨Nat.le_of_ble_eq_true rfl, Nat.le_of_ble_eq_true rfl⟩ ⟨Nat.zero_le _, Nat.zero_le _⟩ hw 0 rfl rfl rfl hl rfl (Nat.le_of_ble_eq_true rfl) dX2_postFor_22 (fun H locs hw => ?_)
    refine lv_if_eqB (tgt := 39) E.1 E.2.1 dX2_postFor_25 (by decide) (fun c25 => ?_) (fun c25 => ?_)
    · skip
      exact rV E hr hlk (HB.eq hw (by rw [mPosts, if_neg c7, if_neg c25])) dX2_postFor_39
    · skip
      refine lv_aload_n E.1 E.2.1 dX2_postFor_28 rfl (lv_at hl 0 rfl) ?_
      refine gX2_5 E hw mw_2_10 dX2_postFor_29 ?_
      refine lv_iconst (v := nI 5) E.1 E.2.1 dX2_postFor_32 (by decide) ?_
      refine lv_iload_n E.1 E.2.1 dX2_postFor_33 rfl (lv_at hl 1 rfl) ?_
      refine lv_iload_n E.1 E.2.1 dX2_postFor_34 rfl (lv_at hl 2 rfl) ?_
      refine lv_iconst (v := nI 4) E.1 E.2.1 dX2_postFor_35 (by decide) ?_
      refine callVV E (c_X1_send l G a (N) 5 d c 4 (by omega) (by first | exact h6 | (rw [un_n (by omega)]; exact h6))) mw_7_7 YX1_send ⟨rfl, rfl⟩ ⟨Nat.le_of_ble_eq_true rfl, Nat.le_of_ble_eq_true rfl⟩ ⟨Nat.zero_le _, Nat.zero_le _⟩ hw 2 rfl rfl rfl hl rfl (Nat.le_of_ble_eq_true rfl) dX2_postFor_36 (fun H locs hw => ?_)
      exact rV E hr hlk (HB.eq hw (by rw [mPosts, if_neg c7, if_pos c25])) dX2_postFor_39
  · skip
    refine lv_aload_n E.1 E.2.1 dX2_postFor_10 rfl (lv_at hl 0 rfl) ?_
    refine lv_iload_n E.1 E.2.1 dX2_postFor_11 rfl (lv_at hl 1 rfl) ?_
    refine lv_iload_n E.1 E.2.1 dX2_postFor_12 rfl (lv_at hl 2 rfl) ?_
    refine lv_iconst (v := nI 1) E.1 E.2.1 dX2_postFor_13 (by decide) ?_
    refine lv_iconst (v := nI 2) E.1 E.2.1 dX2_postFor_14 (by decide) ?_
    refine callVV E (c_X2_move l G a (N) d c 1 2 (by omega) (by omega) (by omega) (by omega) (by omega) hb (by first | assumption | omega)) mw_9_21 YX2_move ⟨rfl, rfl⟩ ⟨Nat.le_of_ble_eq_true rfl, Nat.le_of_ble_eq_true rfl⟩ ⟨Nat.zero_le _, Nat.zero_le _⟩ hw 0 rfl rfl rfl hl rfl (Nat.le_of_ble_eq_true rfl) dX2_postFor_15 (fun H locs hw => ?_)
    refine lv_aload_n E.1 E.2.1 dX2_postFor_18 rfl (lv_at hl 0 rfl) ?_
    refine lv_iload_n E.1 E.2.1 dX2_postFor_19 rfl (lv_at hl 1 rfl) ?_
    refine lv_iload_n E.1 E.2.1 dX2_postFor_20 rfl (lv_at hl 2 rfl) ?_
    refine lv_iconst (v := nI 2) E.1 E.2.1 dX2_postFor_21 (by decide) ?_
    refine callVI E (c_X2_stands l G a (un (N) (30 + 14 * d + (6 + c)) (2)) d c 2 (2) (by omega) (by omega) (by omega) (by first | exact hb | (rw [un_n (by omega)]; exact hb) | (rw [un_n (by omega), un_n (by omega)]; exact hb)) (by rw [un_s])) mw_9_13 YX2_stands ⟨rfl, rfl⟩ ⟨Nat.le_of_ble_eq_true rfl, Nat.le_of_ble_eq_true rfl⟩ ⟨Nat.zero_le _, Nat.zero_le _⟩ hw 0 rfl rfl rfl hl rfl (Nat.le_of_ble_eq_true rfl) dX2_postFor_22 (fun H locs hw => ?_)
    refine lv_eqi (y := nI 1) (zb_t (by decide)) ?_
    refine lv_if_eqN (tgt := 39) E.1 E.2.1 (by omega) dX2_postFor_25 (by decide) (fun c25 => ?_) (fun c25 => ?_)
    · exact absurd c25 (by decide)
    · skip
      refine lv_aload_n E.1 E.2.1 dX2_postFor_28 rfl (lv_at hl 0 rfl) ?_
      refine gX2_5 E hw mw_2_10 dX2_postFor_29 ?_
      refine lv_iconst (v := nI 5) E.1 E.2.1 dX2_postFor_32 (by decide) ?_
      refine lv_iload_n E.1 E.2.1 dX2_postFor_33 rfl (lv_at hl 1 rfl) ?_
      refine lv_iload_n E.1 E.2.1 dX2_postFor_34 rfl (lv_at hl 2 rfl) ?_
      refine lv_iconst (v := nI 4) E.1 E.2.1 dX2_postFor_35 (by decide) ?_
      refine callVV E (c_X1_send l G a (un (N) (30 + 14 * d + (6 + c)) (2)) 5 d c 4 (by omega) (by first | exact h6 | (rw [un_n (by omega)]; exact h6))) mw_7_7 YX1_send ⟨rfl, rfl⟩ ⟨Nat.le_of_ble_eq_true rfl, Nat.le_of_ble_eq_true rfl⟩ ⟨Nat.zero_le _, Nat.zero_le _⟩ hw 2 rfl rfl rfl hl rfl (Nat.le_of_ble_eq_true rfl) dX2_postFor_36 (fun H locs hw => ?_)
      exact rV E hr hlk (HB.eq hw (by rw [mPosts, if_pos c7])) dX2_postFor_39
theorem YX2_tearFor : YV yX2_tearFor RX2 cX2_tearFor 3 none 2 := ⟨mw_10_18, mw_10_19, mw_1_15, mw_10_20, by decide +kernel⟩
set_option maxHeartbeats 4000000 in
set_option maxRecDepth 100000 in
theorem c_X2_tearFor (l : Launch) (G : GP) (a : Nat → Nat) (N : NS) (d c : Nat) (hd : d < 8) (hc : c < 4) (hF : FI N) (hb : (N (30 + 14 * d + 0)).testBit c = true) : MV l yX2_tearFor (.code yX2_tearFor cX2_tearFor 3 none :: GW) ({ frames := 2, cells := 0, slots := 0, locals := 45 }) [.ref (a 0), .int (nI (d)), .int (nI (c))] G ES (sN G a (N)) (sN G a (mTears d c N)) := by
  refine MV.of (own := RX2) rfl rfl (Nat.le_of_ble_eq_true rfl) ?_
  intro pP eE sS mM below meth cC ls AA E hw hl hr hlk hE
  replace hl : lv_has ls 3 [(0, .ref (a 0)), (1, .int (nI (d))), (2, .int (nI (c)))] := hl
  have h6 := hF.1
  have h7 := hF.f6 hd hc
  have h8 := hF.wl hc
  refine lv_aload_n E.1 E.2.1 dX2_tearFor_0 rfl (lv_at hl 0 rfl) ?_
  refine lv_iload_n E.1 E.2.1 dX2_tearFor_1 rfl (lv_at hl 1 rfl) ?_
  refine lv_iload_n E.1 E.2.1 dX2_tearFor_2 rfl (lv_at hl 2 rfl) ?_
  refine lv_iconst (v := nI 0) E.1 E.2.1 dX2_tearFor_3 (by decide) ?_
  refine callVI E (c_X2_stands l G a (N) d c 0 (N (30 + 14 * d + (6 + c))) (by omega) (by omega) (by omega) hb (rfl)) mw_9_13 YX2_stands ⟨rfl, rfl⟩ ⟨Nat.le_of_ble_eq_true rfl, Nat.le_of_ble_eq_true rfl⟩ ⟨Nat.zero_le _, Nat.zero_le _⟩ hw 0 rfl rfl rfl hl rfl (Nat.le_of_ble_eq_true rfl) dX2_tearFor_4 (fun H locs hw => ?_)
  refine lv_if_eqB (tgt := 21) E.1 E.2.1 dX2_tearFor_7 (by decide) (fun c7 => ?_) (fun c7 => ?_)
  · skip
    refine lv_aload_n E.1 E.2.1 dX2_tearFor_21 rfl (lv_at hl 0 rfl) ?_
    refine lv_iload_n E.1 E.2.1 dX2_tearFor_22 rfl (lv_at hl 1 rfl) ?_
    refine lv_iload_n E.1 E.2.1 dX2_tearFor_23 rfl (lv_at hl 2 rfl) ?_
    refine lv_iconst (v := nI 1) E.1 E.2.1 dX2_tearFor_24 (by decide) ?_
    refine callVI E (c_X2_stands l G a (N) d c 1 (N (30 + 14 * d + (6 + c))) (by omega) (by omega) (by omega) hb (rfl)) mw_9_13 YX2_stands ⟨rfl, rfl⟩ ⟨Nat.le_of_ble_eq_true rfl, Nat.le_of_ble_eq_true rfl⟩ ⟨Nat.zero_le _, Nat.zero_le _⟩ hw 0 rfl rfl rfl hl rfl (Nat.le_of_ble_eq_true rfl) dX2_tearFor_25 (fun H locs hw => ?_)
    refine lv_if_eqB (tgt := 39) E.1 E.2.1 dX2_tearFor_28 (by decide) (fun c28 => ?_) (fun c28 => ?_)
    · skip
      exact rV E hr hlk (HB.eq hw (by rw [mTears, if_neg (by omega)])) dX2_tearFor_39
    · skip
      refine lv_aload_n E.1 E.2.1 dX2_tearFor_31 rfl (lv_at hl 0 rfl) ?_
      refine lv_iload_n E.1 E.2.1 dX2_tearFor_32 rfl (lv_at hl 1 rfl) ?_
      refine lv_iload_n E.1 E.2.1 dX2_tearFor_33 rfl (lv_at hl 2 rfl) ?_
      refine lv_iconst (v := nI 1) E.1 E.2.1 dX2_tearFor_34 (by decide) ?_
      refine lv_iconst (v := nI 3) E.1 E.2.1 dX2_tearFor_35 (by decide) ?_
      refine callVV E (c_X2_move l G a (N) d c 1 3 (by omega) (by omega) (by omega) (by omega) (by omega) hb (by first | assumption | omega)) mw_9_21 YX2_move ⟨rfl, rfl⟩ ⟨Nat.le_of_ble_eq_true rfl, Nat.le_of_ble_eq_true rfl⟩ ⟨Nat.zero_le _, Nat.zero_le _⟩ hw 0 rfl rfl rfl hl rfl (Nat.le_of_ble_eq_true rfl) dX2_tearFor_36 (fun H locs hw => ?_)
      exact rV E hr hlk (HB.eq hw (by rw [mTears, if_pos (by omega)])) dX2_tearFor_39
  · skip
    refine lv_aload_n E.1 E.2.1 dX2_tearFor_10 rfl (lv_at hl 0 rfl) ?_
    refine lv_iload_n E.1 E.2.1 dX2_tearFor_11 rfl (lv_at hl 1 rfl) ?_
    refine lv_iload_n E.1 E.2.1 dX2_tearFor_12 rfl (lv_at hl 2 rfl) ?_
    refine lv_iconst (v := nI 0) E.1 E.2.1 dX2_tearFor_13 (by decide) ?_
    refine lv_iconst (v := nI 3) E.1 E.2.1 dX2_tearFor_14 (by decide) ?_
    refine callVV E (c_X2_move l G a (N) d c 0 3 (by omega) (by omega) (by omega) (by omega) (by omega) hb (by first | assumption | omega)) mw_9_21 YX2_move ⟨rfl, rfl⟩ ⟨Nat.le_of_ble_eq_true rfl, Nat.le_of_ble_eq_true rfl⟩ ⟨Nat.zero_le _, Nat.zero_le _⟩ hw 0 rfl rfl rfl hl rfl (Nat.le_of_ble_eq_true rfl) dX2_tearFor_15 (fun H locs hw => ?_)
    refine lv_goto (tgt := 39) E.1 E.2.1 dX2_tearFor_18 (by decide) ?_
    exact rV E hr hlk (HB.eq hw (by rw [mTears, if_pos (by omega)])) dX2_tearFor_39
theorem YX2_answerAsElder : YV yX2_answerAsElder RX2 cX2_answerAsElder 4 none 3 := ⟨mw_11_2, mw_11_3, mw_1_15, mw_11_4, by decide +kernel⟩
set_option maxHeartbeats 4000000 in
set_option maxRecDepth 100000 in
theorem c_X2_answerAsElder (l : Launch) (G : GP) (a : Nat → Nat) (N : NS) (d c f : Nat) (hd : d < 8) (hc : c < 4) (hf : f < 5) (hF : FI N) (hb : (N (30 + 14 * d + 0)).testBit c = true) : MV l yX2_answerAsElder (.code yX2_answerAsElder cX2_answerAsElder 4 none :: GW) ({ frames := 2, cells := 0, slots := 0, locals := 45 }) [.ref (a 0), .int (nI (d)), .int (nI (c)), .int (nI (f))] G ES (sN G a (N)) (sN G a (mWhatC d c f N)) := by
  refine MV.of (own := RX2) rfl rfl (Nat.le_of_ble_eq_true rfl) ?_
  intro pP eE sS mM below meth cC ls AA E hw hl hr hlk hE
  replace hl : lv_has ls 4 [(0, .ref (a 0)), (1, .int (nI (d))), (2, .int (nI (c))), (3, .int (nI (f)))] := hl
  have h6 := hF.1
  have h7 := hF.f6 hd hc
  have h8 := hF.wl hc
  refine lv_aload_n E.1 E.2.1 dX2_answerAsElder_0 rfl (lv_at hl 0 rfl) ?_
  refine lv_iload_n E.1 E.2.1 dX2_answerAsElder_1 rfl (lv_at hl 1 rfl) ?_
  refine lv_iload_n E.1 E.2.1 dX2_answerAsElder_2 rfl (lv_at hl 2 rfl) ?_
  refine lv_iconst (v := nI 0) E.1 E.2.1 dX2_answerAsElder_3 (by decide) ?_
  refine callVI E (c_X2_stands l G a (N) d c 0 (N (30 + 14 * d + (6 + c))) (by omega) (by omega) (by omega) hb (rfl)) mw_9_13 YX2_stands ⟨rfl, rfl⟩ ⟨Nat.le_of_ble_eq_true rfl, Nat.le_of_ble_eq_true rfl⟩ ⟨Nat.zero_le _, Nat.zero_le _⟩ hw 0 rfl rfl rfl hl rfl (Nat.le_of_ble_eq_true rfl) dX2_answerAsElder_4 (fun H locs hw => ?_)
  refine lv_if_eqB (tgt := 18) E.1 E.2.1 dX2_answerAsElder_7 (by decide) (fun c7 => ?_) (fun c7 => ?_)
  · skip
    refine lv_aload_n E.1 E.2.1 dX2_answerAsElder_18 rfl (lv_at hl 0 rfl) ?_
    refine lv_iload_n E.1 E.2.1 dX2_answerAsElder_19 rfl (lv_at hl 1 rfl) ?_
    refine lv_iload_n E.1 E.2.1 dX2_answerAsElder_20 rfl (lv_at hl 2 rfl) ?_
    refine lv_iconst (v := nI 2) E.1 E.2.1 dX2_answerAsElder_21 (by decide) ?_
    refine callVI E (c_X2_stands l G a (N) d c 2 (N (30 + 14 * d + (6 + c))) (by omega) (by omega) (by omega) hb (rfl)) mw_9_13 YX2_stands ⟨rfl, rfl⟩ ⟨Nat.le_of_ble_eq_true rfl, Nat.le_of_ble_eq_true rfl⟩ ⟨Nat.zero_le _, Nat.zero_le _⟩ hw 0 rfl rfl rfl hl rfl (Nat.le_of_ble_eq_true rfl) dX2_answerAsElder_22 (fun H locs hw => ?_)
    refine lv_if_eqB (tgt := 42) E.1 E.2.1 dX2_answerAsElder_25 (by decide) (fun c25 => ?_) (fun c25 => ?_)
    · skip
      refine lv_aload_n E.1 E.2.1 dX2_answerAsElder_42 rfl (lv_at hl 0 rfl) ?_
      refine lv_iload_n E.1 E.2.1 dX2_answerAsElder_43 rfl (lv_at hl 1 rfl) ?_
      refine lv_iload_n E.1 E.2.1 dX2_answerAsElder_44 rfl (lv_at hl 2 rfl) ?_
      refine lv_iconst (v := nI 3) E.1 E.2.1 dX2_answerAsElder_45 (by decide) ?_
      refine callVI E (c_X2_stands l G a (N) d c 3 (N (30 + 14 * d + (6 + c))) (by omega) (by omega) (by omega) hb (rfl)) mw_9_13 YX2_stands ⟨rfl, rfl⟩ ⟨Nat.le_of_ble_eq_true rfl, Nat.le_of_ble_eq_true rfl⟩ ⟨Nat.zero_le _, Nat.zero_le _⟩ hw 0 rfl rfl rfl hl rfl (Nat.le_of_ble_eq_true rfl) dX2_answerAsElder_46 (fun H locs hw => ?_)
      refine lv_if_eqB (tgt := 63) E.1 E.2.1 dX2_answerAsElder_49 (by decide) (fun c49 => ?_) (fun c49 => ?_)
      · skip
        exact rV E hr hlk (HB.eq hw (by rw [mWhatC, if_neg c7, if_neg c25, if_neg c49])) dX2_answerAsElder_63
      · skip
        refine lv_aload_n E.1 E.2.1 dX2_answerAsElder_52 rfl (lv_at hl 0 rfl) ?_
        refine gX2_5 E hw mw_2_10 dX2_answerAsElder_53 ?_
        refine lv_iconst (v := nI 4) E.1 E.2.1 dX2_answerAsElder_56 (by decide) ?_
        refine lv_iload_n E.1 E.2.1 dX2_answerAsElder_57 rfl (lv_at hl 1 rfl) ?_
        refine lv_iload_n E.1 E.2.1 dX2_answerAsElder_58 rfl (lv_at hl 2 rfl) ?_
        refine lv_iload_n E.1 E.2.1 dX2_answerAsElder_59 rfl (lv_at hl 3 rfl) ?_
        refine callVV E (c_X1_send l G a (N) 4 d c f (by omega) (by first | exact h6 | (rw [un_n (by omega)]; exact h6))) mw_7_7 YX1_send ⟨rfl, rfl⟩ ⟨Nat.le_of_ble_eq_true rfl, Nat.le_of_ble_eq_true rfl⟩ ⟨Nat.zero_le _, Nat.zero_le _⟩ hw 2 rfl rfl rfl hl rfl (Nat.le_of_ble_eq_true rfl) dX2_answerAsElder_60 (fun H locs hw => ?_)
        exact rV E hr hlk (HB.eq hw (by rw [mWhatC, if_neg c7, if_neg c25, if_pos c49])) dX2_answerAsElder_63
    · skip
      refine lv_aload_n E.1 E.2.1 dX2_answerAsElder_28 rfl (lv_at hl 0 rfl) ?_
      refine gX2_5 E hw mw_2_10 dX2_answerAsElder_29 ?_
      refine lv_iconst (v := nI 3) E.1 E.2.1 dX2_answerAsElder_32 (by decide) ?_
      refine lv_iload_n E.1 E.2.1 dX2_answerAsElder_33 rfl (lv_at hl 1 rfl) ?_
      refine lv_iload_n E.1 E.2.1 dX2_answerAsElder_34 rfl (lv_at hl 2 rfl) ?_
      refine lv_iload_n E.1 E.2.1 dX2_answerAsElder_35 rfl (lv_at hl 3 rfl) ?_
      refine callVV E (c_X1_send l G a (N) 3 d c f (by omega) (by omega)) mw_7_7 YX1_send ⟨rfl, rfl⟩ ⟨Nat.le_of_ble_eq_true rfl, Nat.le_of_ble_eq_true rfl⟩ ⟨Nat.zero_le _, Nat.zero_le _⟩ hw 2 rfl rfl rfl hl rfl (Nat.le_of_ble_eq_true rfl) dX2_answerAsElder_36 (fun H locs hw => ?_)
      refine lv_goto (tgt := 63) E.1 E.2.1 dX2_answerAsElder_39 (by decide) ?_
      exact rV E hr hlk (HB.eq hw (by rw [mWhatC, if_neg c7, if_pos c25])) dX2_answerAsElder_63
  · skip
    refine lv_aload_n E.1 E.2.1 dX2_answerAsElder_10 rfl (lv_at hl 0 rfl) ?_
    refine lv_iload_n E.1 E.2.1 dX2_answerAsElder_11 rfl (lv_at hl 1 rfl) ?_
    refine lv_iload_n E.1 E.2.1 dX2_answerAsElder_12 rfl (lv_at hl 2 rfl) ?_
    refine lv_iconst (v := nI 0) E.1 E.2.1 dX2_answerAsElder_13 (by decide) ?_
    refine lv_iconst (v := nI 3) E.1 E.2.1 dX2_answerAsElder_14 (by decide) ?_
    refine callVV E (c_X2_move l G a (N) d c 0 3 (by omega) (by omega) (by omega) (by omega) (by omega) hb (by first | assumption | omega)) mw_9_21 YX2_move ⟨rfl, rfl⟩ ⟨Nat.le_of_ble_eq_true rfl, Nat.le_of_ble_eq_true rfl⟩ ⟨Nat.zero_le _, Nat.zero_le _⟩ hw 0 rfl rfl rfl hl rfl (Nat.le_of_ble_eq_true rfl) dX2_answerAsElder_15 (fun H locs hw => ?_)
    refine lv_aload_n E.1 E.2.1 dX2_answerAsElder_18 rfl (lv_at hl 0 rfl) ?_
    refine lv_iload_n E.1 E.2.1 dX2_answerAsElder_19 rfl (lv_at hl 1 rfl) ?_
    refine lv_iload_n E.1 E.2.1 dX2_answerAsElder_20 rfl (lv_at hl 2 rfl) ?_
    refine lv_iconst (v := nI 2) E.1 E.2.1 dX2_answerAsElder_21 (by decide) ?_
    refine callVI E (c_X2_stands l G a (un (N) (30 + 14 * d + (6 + c)) (3)) d c 2 (3) (by omega) (by omega) (by omega) (by first | exact hb | (rw [un_n (by omega)]; exact hb) | (rw [un_n (by omega), un_n (by omega)]; exact hb)) (by rw [un_s])) mw_9_13 YX2_stands ⟨rfl, rfl⟩ ⟨Nat.le_of_ble_eq_true rfl, Nat.le_of_ble_eq_true rfl⟩ ⟨Nat.zero_le _, Nat.zero_le _⟩ hw 0 rfl rfl rfl hl rfl (Nat.le_of_ble_eq_true rfl) dX2_answerAsElder_22 (fun H locs hw => ?_)
    refine lv_eqi (y := nI 0) (zb_f (by decide)) ?_
    refine lv_if_eqN (tgt := 42) E.1 E.2.1 (by omega) dX2_answerAsElder_25 (by decide) (fun c25 => ?_) (fun c25 => ?_)
    · skip
      refine lv_aload_n E.1 E.2.1 dX2_answerAsElder_42 rfl (lv_at hl 0 rfl) ?_
      refine lv_iload_n E.1 E.2.1 dX2_answerAsElder_43 rfl (lv_at hl 1 rfl) ?_
      refine lv_iload_n E.1 E.2.1 dX2_answerAsElder_44 rfl (lv_at hl 2 rfl) ?_
      refine lv_iconst (v := nI 3) E.1 E.2.1 dX2_answerAsElder_45 (by decide) ?_
      refine callVI E (c_X2_stands l G a (un (N) (30 + 14 * d + (6 + c)) (3)) d c 3 (3) (by omega) (by omega) (by omega) (by first | exact hb | (rw [un_n (by omega)]; exact hb) | (rw [un_n (by omega), un_n (by omega)]; exact hb)) (by rw [un_s])) mw_9_13 YX2_stands ⟨rfl, rfl⟩ ⟨Nat.le_of_ble_eq_true rfl, Nat.le_of_ble_eq_true rfl⟩ ⟨Nat.zero_le _, Nat.zero_le _⟩ hw 0 rfl rfl rfl hl rfl (Nat.le_of_ble_eq_true rfl) dX2_answerAsElder_46 (fun H locs hw => ?_)
      refine lv_eqi (y := nI 1) (zb_t (by decide)) ?_
      refine lv_if_eqN (tgt := 63) E.1 E.2.1 (by omega) dX2_answerAsElder_49 (by decide) (fun c49 => ?_) (fun c49 => ?_)
      · exact absurd c49 (by decide)
      · skip
        refine lv_aload_n E.1 E.2.1 dX2_answerAsElder_52 rfl (lv_at hl 0 rfl) ?_
        refine gX2_5 E hw mw_2_10 dX2_answerAsElder_53 ?_
        refine lv_iconst (v := nI 4) E.1 E.2.1 dX2_answerAsElder_56 (by decide) ?_
        refine lv_iload_n E.1 E.2.1 dX2_answerAsElder_57 rfl (lv_at hl 1 rfl) ?_
        refine lv_iload_n E.1 E.2.1 dX2_answerAsElder_58 rfl (lv_at hl 2 rfl) ?_
        refine lv_iload_n E.1 E.2.1 dX2_answerAsElder_59 rfl (lv_at hl 3 rfl) ?_
        refine callVV E (c_X1_send l G a (un (N) (30 + 14 * d + (6 + c)) (3)) 4 d c f (by omega) (by first | exact h6 | (rw [un_n (by omega)]; exact h6))) mw_7_7 YX1_send ⟨rfl, rfl⟩ ⟨Nat.le_of_ble_eq_true rfl, Nat.le_of_ble_eq_true rfl⟩ ⟨Nat.zero_le _, Nat.zero_le _⟩ hw 2 rfl rfl rfl hl rfl (Nat.le_of_ble_eq_true rfl) dX2_answerAsElder_60 (fun H locs hw => ?_)
        exact rV E hr hlk (HB.eq hw (by rw [mWhatC, if_pos c7])) dX2_answerAsElder_63
    · exact absurd c25 (by decide)
theorem YX2_takeYes : YV yX2_takeYes RX2 cX2_takeYes 3 none 2 := ⟨mw_10_2, mw_10_3, mw_1_15, mw_10_4, by decide +kernel⟩
set_option maxHeartbeats 4000000 in
set_option maxRecDepth 100000 in
theorem c_X2_takeYes (l : Launch) (G : GP) (a : Nat → Nat) (N : NS) (d c : Nat) (hd : d < 8) (hc : c < 4) (hF : FI N)  : MV l yX2_takeYes (.code yX2_takeYes cX2_takeYes 3 none :: GW) ({ frames := 2, cells := 0, slots := 0, locals := 50 }) [.ref (a 0), .int (nI (d)), .int (nI (c))] G ES (sN G a (N)) (sN G a (mYes d c N)) := by
  refine MV.of (own := RX2) rfl rfl (Nat.le_of_ble_eq_true rfl) ?_
  intro pP eE sS mM below meth cC ls AA E hw hl hr hlk hE
  replace hl : lv_has ls 3 [(0, .ref (a 0)), (1, .int (nI (d))), (2, .int (nI (c)))] := hl
  have h6 := hF.1
  have h1 := hF.f1 hd
  have h0 := hF.f0 hd
  have h4 := hF.f4 hd
  have h5x := hF.f5 hd
  have hV := or_lt16 _ h4 c hc
  refine lv_aload_n E.1 E.2.1 dX2_takeYes_0 rfl (lv_at hl 0 rfl) ?_
  refine gX2_7 E hw mw_2_12 dX2_takeYes_1 ?_
  refine lv_iload_n E.1 E.2.1 dX2_takeYes_4 rfl (lv_at hl 1 rfl) ?_
  refine lN2_5 E hw (v := N (30 + 14 * d + 1)) (by omega) (rfl) dX2_takeYes_5 ?_
  refine lv_if_eqN (tgt := 16) E.1 E.2.1 (by omega) dX2_takeYes_6 (by decide) (fun c6 => ?_) (fun c6 => ?_)
  · skip
    refine lv_aload_n E.1 E.2.1 dX2_takeYes_16 rfl (lv_at hl 0 rfl) ?_
    refine gX2_10 E hw mw_2_15 dX2_takeYes_17 ?_
    refine lv_iload_n E.1 E.2.1 dX2_takeYes_20 rfl (lv_at hl 1 rfl) ?_
    refine lv_dup2_11 E.1 E.2.1 dX2_takeYes_21 rfl rfl ?_
    refine lN2_8 E hw (v := N (30 + 14 * d + 4)) (by omega) (rfl) dX2_takeYes_22 ?_
    refine lv_iconst (v := nI 1) E.1 E.2.1 dX2_takeYes_23 (by decide) ?_
    refine lv_iload_n E.1 E.2.1 dX2_takeYes_24 rfl (lv_at hl 2 rfl) ?_
    refine lv_ishl E.1 E.2.1 dX2_takeYes_25 (lv_eqi (y := nI (2 ^ c)) (shl_1 _ (by omega)) ?_)
    refine lv_ior E.1 E.2.1 dX2_takeYes_26 (lv_eqi (y := nI (N (30 + 14 * d + 4) ||| 2 ^ c)) (or_nI _ _) ?_)
    refine sN2_8 E hw (by omega) dX2_takeYes_27 (fun H locs hw => ?_)
    refine lv_aload_n E.1 E.2.1 dX2_takeYes_28 rfl (lv_at hl 0 rfl) ?_
    refine gX2_10 E hw mw_2_15 dX2_takeYes_29 ?_
    refine lv_iload_n E.1 E.2.1 dX2_takeYes_32 rfl (lv_at hl 1 rfl) ?_
    refine lN2_8 E hw (v := N (30 + 14 * d + 4) ||| 2 ^ c) (by omega) (by rw [un_s]) dX2_takeYes_33 ?_
    refine lv_aload_n E.1 E.2.1 dX2_takeYes_34 rfl (lv_at hl 0 rfl) ?_
    refine gX2_6 E hw mw_2_11 dX2_takeYes_35 ?_
    refine lv_iload_n E.1 E.2.1 dX2_takeYes_38 rfl (lv_at hl 1 rfl) ?_
    refine lN2_4 E hw (v := N (30 + 14 * d + 0)) (by omega) (by rw [un_n (by omega)]) dX2_takeYes_39 ?_
    refine lv_icmp_neN (tgt := 73) E.1 E.2.1 (by omega) (by omega) dX2_takeYes_40 (by decide) (fun c40 => ?_) (fun c40 => ?_)
    · skip
      exact rV E hr hlk (HB.eq hw (by rw [mYes, if_pos c6, if_neg c40])) dX2_takeYes_73
    · skip
      refine lv_aload_n E.1 E.2.1 dX2_takeYes_43 rfl (lv_at hl 0 rfl) ?_
      refine gX2_7 E hw mw_2_12 dX2_takeYes_44 ?_
      refine lv_iload_n E.1 E.2.1 dX2_takeYes_47 rfl (lv_at hl 1 rfl) ?_
      refine lv_iconst (v := nI 1) E.1 E.2.1 dX2_takeYes_48 (by decide) ?_
      refine sN2_5 E hw (by omega) dX2_takeYes_49 (fun H locs hw => ?_)
      refine lv_aload_n E.1 E.2.1 dX2_takeYes_50 rfl (lv_at hl 0 rfl) ?_
      refine gX2_9 E hw mw_2_14 dX2_takeYes_51 ?_
      refine lv_iload_n E.1 E.2.1 dX2_takeYes_54 rfl (lv_at hl 1 rfl) ?_
      refine lv_aload_n E.1 E.2.1 dX2_takeYes_55 rfl (lv_at hl 0 rfl) ?_
      refine gX2_0 E hw mw_4_5 dX2_takeYes_56 ?_
      refine lv_eqi (y := nI (N 4)) (congrArg nI (show (un (un (N) (30 + 14 * d + 4) (N (30 + 14 * d + 4) ||| 2 ^ c)) (30 + 14 * d + 1) (1)) 4 = N 4 from by rw [un_n (by omega), un_n (by omega)])) ?_
      refine sN2_7 E hw (by omega) dX2_takeYes_59 (fun H locs hw => ?_)
      refine lv_aload_n E.1 E.2.1 dX2_takeYes_60 rfl (lv_at hl 0 rfl) ?_
      refine lv_iconst (v := nI 3) E.1 E.2.1 dX2_takeYes_61 (by decide) ?_
      refine lv_iload_n E.1 E.2.1 dX2_takeYes_62 rfl (lv_at hl 1 rfl) ?_
      refine lv_iconst (v := nI 4) E.1 E.2.1 dX2_takeYes_63 (by decide) ?_
      refine lv_aload_n E.1 E.2.1 dX2_takeYes_64 rfl (lv_at hl 0 rfl) ?_
      refine gX2_6 E hw mw_2_11 dX2_takeYes_65 ?_
      refine lv_iload_n E.1 E.2.1 dX2_takeYes_68 rfl (lv_at hl 1 rfl) ?_
      refine lN2_4 E hw (v := N (30 + 14 * d + 0)) (by omega) (by rw [un_n (by omega), un_n (by omega), un_n (by omega)]) dX2_takeYes_69 ?_
      refine callVV E (c_X2_sendToClerks l G a (un (un (un (N) (30 + 14 * d + 4) (N (30 + 14 * d + 4) ||| 2 ^ c)) (30 + 14 * d + 1) (1)) (30 + 14 * d + 3) (N 4)) 3 d 4 (N (30 + 14 * d + 0)) (by omega) (by omega) (by rw [un_n (by omega), un_n (by omega), un_n (by omega)]; exact h6)) mw_7_3 YX2_sendToClerks ⟨rfl, rfl⟩ ⟨Nat.le_of_ble_eq_true rfl, Nat.le_of_ble_eq_true rfl⟩ ⟨Nat.zero_le _, Nat.zero_le _⟩ hw 0 rfl rfl rfl hl rfl (Nat.le_of_ble_eq_true rfl) dX2_takeYes_70 (fun H locs hw => ?_)
      exact rV E hr hlk (HB.eq hw (by rw [mYes, if_pos c6, if_pos c40])) dX2_takeYes_73
  · skip
    refine lv_aload_n E.1 E.2.1 dX2_takeYes_9 rfl (lv_at hl 0 rfl) ?_
    refine lv_iload_n E.1 E.2.1 dX2_takeYes_10 rfl (lv_at hl 1 rfl) ?_
    refine lv_iload_n E.1 E.2.1 dX2_takeYes_11 rfl (lv_at hl 2 rfl) ?_
    refine callVV E (c_X2_answerAsBetween l G a (N) d c (by omega) (hF)) mw_10_5 YX2_answerAsBetween ⟨rfl, rfl⟩ ⟨Nat.le_of_ble_eq_true rfl, Nat.le_of_ble_eq_true rfl⟩ ⟨Nat.zero_le _, Nat.zero_le _⟩ hw 0 rfl rfl rfl hl rfl (Nat.le_of_ble_eq_true rfl) dX2_takeYes_12 (fun H locs hw => ?_)
    exact rV E hr hlk (HB.eq hw (by rw [mYes, if_neg c6])) dX2_takeYes_15
theorem YX2_takeNo : YV yX2_takeNo RX2 cX2_takeNo 3 none 2 := ⟨mw_10_10, mw_10_11, mw_1_15, mw_10_12, by decide +kernel⟩
set_option maxHeartbeats 4000000 in
set_option maxRecDepth 100000 in
theorem c_X2_takeNo (l : Launch) (G : GP) (a : Nat → Nat) (N : NS) (d c : Nat) (hd : d < 8) (hc : c < 4) (hF : FI N)  : MV l yX2_takeNo (.code yX2_takeNo cX2_takeNo 3 none :: GW) ({ frames := 2, cells := 0, slots := 0, locals := 50 }) [.ref (a 0), .int (nI (d)), .int (nI (c))] G ES (sN G a (N)) (sN G a (mNo d c N)) := by
  refine MV.of (own := RX2) rfl rfl (Nat.le_of_ble_eq_true rfl) ?_
  intro pP eE sS mM below meth cC ls AA E hw hl hr hlk hE
  replace hl : lv_has ls 3 [(0, .ref (a 0)), (1, .int (nI (d))), (2, .int (nI (c)))] := hl
  have h6 := hF.1
  have h1 := hF.f1 hd
  have h0 := hF.f0 hd
  have h4 := hF.f4 hd
  have h5x := hF.f5 hd
  refine lv_aload_n E.1 E.2.1 dX2_takeNo_0 rfl (lv_at hl 0 rfl) ?_
  refine gX2_7 E hw mw_2_12 dX2_takeNo_1 ?_
  refine lv_iload_n E.1 E.2.1 dX2_takeNo_4 rfl (lv_at hl 1 rfl) ?_
  refine lN2_5 E hw (v := N (30 + 14 * d + 1)) (by omega) (rfl) dX2_takeNo_5 ?_
  refine lv_if_neN (tgt := 35) E.1 E.2.1 (by omega) dX2_takeNo_6 (by decide) (fun c6 => ?_) (fun c6 => ?_)
  · skip
    exact rV E hr hlk (HB.eq hw (by rw [mNo, if_neg c6])) dX2_takeNo_35
  · skip
    refine lv_aload_n E.1 E.2.1 dX2_takeNo_9 rfl (lv_at hl 0 rfl) ?_
    refine gX2_7 E hw mw_2_12 dX2_takeNo_10 ?_
    refine lv_iload_n E.1 E.2.1 dX2_takeNo_13 rfl (lv_at hl 1 rfl) ?_
    refine lv_iconst (v := nI 2) E.1 E.2.1 dX2_takeNo_14 (by decide) ?_
    refine sN2_5 E hw (by omega) dX2_takeNo_15 (fun H locs hw => ?_)
    refine lv_aload_n E.1 E.2.1 dX2_takeNo_16 rfl (lv_at hl 0 rfl) ?_
    refine lv_iconst (v := nI 4) E.1 E.2.1 dX2_takeNo_17 (by decide) ?_
    refine lv_iload_n E.1 E.2.1 dX2_takeNo_18 rfl (lv_at hl 1 rfl) ?_
    refine lv_iconst (v := nI 4) E.1 E.2.1 dX2_takeNo_19 (by decide) ?_
    refine lv_aload_n E.1 E.2.1 dX2_takeNo_20 rfl (lv_at hl 0 rfl) ?_
    refine gX2_6 E hw mw_2_11 dX2_takeNo_21 ?_
    refine lv_iload_n E.1 E.2.1 dX2_takeNo_24 rfl (lv_at hl 1 rfl) ?_
    refine lN2_4 E hw (v := N (30 + 14 * d + 0)) (by omega) (by rw [un_n (by omega)]) dX2_takeNo_25 ?_
    refine lv_iconst (v := nI 1) E.1 E.2.1 dX2_takeNo_26 (by decide) ?_
    refine lv_iload_n E.1 E.2.1 dX2_takeNo_27 rfl (lv_at hl 2 rfl) ?_
    refine lv_ishl E.1 E.2.1 dX2_takeNo_28 (lv_eqi (y := nI (2 ^ c)) (shl_1 _ (by omega)) ?_)
    refine lv_iconst (v := -1) E.1 E.2.1 dX2_takeNo_29 (by decide) ?_
    refine lv_ixor E.1 E.2.1 dX2_takeNo_30 ?_
    refine lv_iand E.1 E.2.1 dX2_takeNo_31 (lv_eqi (y := nI (N (30 + 14 * d + 0) &&& (15 ^^^ 2 ^ c))) (andn_nI _ (by omega) _ (pow_lt16 _ (by omega))) ?_)
    refine callVV E (c_X2_sendToClerks l G a (un (N) (30 + 14 * d + 1) (2)) 4 d 4 (N (30 + 14 * d + 0) &&& (15 ^^^ 2 ^ c)) (by omega) (and_lt16 (by omega)) (by rw [un_n (by omega)]; exact h6)) mw_7_3 YX2_sendToClerks ⟨rfl, rfl⟩ ⟨Nat.le_of_ble_eq_true rfl, Nat.le_of_ble_eq_true rfl⟩ ⟨Nat.zero_le _, Nat.zero_le _⟩ hw 0 rfl rfl rfl hl rfl (Nat.le_of_ble_eq_true rfl) dX2_takeNo_32 (fun H locs hw => ?_)
    exact rV E hr hlk (HB.eq hw (by rw [mNo, if_pos c6]; rfl)) dX2_takeNo_35
theorem YX2_takeReceipt : YV yX2_takeReceipt RX2 cX2_takeReceipt 3 none 2 := ⟨mw_10_22, mw_10_23, mw_1_15, mw_11_0, by decide +kernel⟩
set_option maxHeartbeats 4000000 in
set_option maxRecDepth 100000 in
theorem c_X2_takeReceipt (l : Launch) (G : GP) (a : Nat → Nat) (N : NS) (d c : Nat) (hd : d < 8) (hc : c < 4) (hF : FI N)  : MV l yX2_takeReceipt (.code yX2_takeReceipt cX2_takeReceipt 3 none :: GW) ({ frames := 0, cells := 0, slots := 0, locals := 0 }) [.ref (a 0), .int (nI (d)), .int (nI (c))] G ES (sN G a (N)) (sN G a (mGot d c N)) := by
  refine MV.of (own := RX2) rfl rfl (Nat.le_of_ble_eq_true rfl) ?_
  intro pP eE sS mM below meth cC ls AA E hw hl hr hlk hE
  replace hl : lv_has ls 3 [(0, .ref (a 0)), (1, .int (nI (d))), (2, .int (nI (c)))] := hl
  have h6 := hF.1
  have h1 := hF.f1 hd
  have h0 := hF.f0 hd
  have h4 := hF.f4 hd
  have h5x := hF.f5 hd
  have hV := or_lt16 _ h5x c hc
  refine lv_aload_n E.1 E.2.1 dX2_takeReceipt_0 rfl (lv_at hl 0 rfl) ?_
  refine gX2_7 E hw mw_2_12 dX2_takeReceipt_1 ?_
  refine lv_iload_n E.1 E.2.1 dX2_takeReceipt_4 rfl (lv_at hl 1 rfl) ?_
  refine lN2_5 E hw (v := N (30 + 14 * d + 1)) (by omega) (rfl) dX2_takeReceipt_5 ?_
  refine lv_iconst (v := nI 1) E.1 E.2.1 dX2_takeReceipt_6 (by decide) ?_
  refine lv_icmp_eqN (tgt := 11) E.1 E.2.1 (by omega) (by omega) dX2_takeReceipt_7 (by decide) (fun c7 => ?_) (fun c7 => ?_)
  · skip
    refine lv_aload_n E.1 E.2.1 dX2_takeReceipt_11 rfl (lv_at hl 0 rfl) ?_
    refine gX2_11 E hw mw_2_16 dX2_takeReceipt_12 ?_
    refine lv_iload_n E.1 E.2.1 dX2_takeReceipt_15 rfl (lv_at hl 1 rfl) ?_
    refine lv_dup2_11 E.1 E.2.1 dX2_takeReceipt_16 rfl rfl ?_
    refine lN2_9 E hw (v := N (30 + 14 * d + 5)) (by omega) (rfl) dX2_takeReceipt_17 ?_
    refine lv_iconst (v := nI 1) E.1 E.2.1 dX2_takeReceipt_18 (by decide) ?_
    refine lv_iload_n E.1 E.2.1 dX2_takeReceipt_19 rfl (lv_at hl 2 rfl) ?_
    refine lv_ishl E.1 E.2.1 dX2_takeReceipt_20 (lv_eqi (y := nI (2 ^ c)) (shl_1 _ (by omega)) ?_)
    refine lv_ior E.1 E.2.1 dX2_takeReceipt_21 (lv_eqi (y := nI (N (30 + 14 * d + 5) ||| 2 ^ c)) (or_nI _ _) ?_)
    refine sN2_9 E hw (by omega) dX2_takeReceipt_22 (fun H locs hw => ?_)
    refine lv_aload_n E.1 E.2.1 dX2_takeReceipt_23 rfl (lv_at hl 0 rfl) ?_
    refine gX2_11 E hw mw_2_16 dX2_takeReceipt_24 ?_
    refine lv_iload_n E.1 E.2.1 dX2_takeReceipt_27 rfl (lv_at hl 1 rfl) ?_
    refine lN2_9 E hw (v := N (30 + 14 * d + 5) ||| 2 ^ c) (by omega) (by rw [un_s]) dX2_takeReceipt_28 ?_
    refine lv_aload_n E.1 E.2.1 dX2_takeReceipt_29 rfl (lv_at hl 0 rfl) ?_
    refine gX2_6 E hw mw_2_11 dX2_takeReceipt_30 ?_
    refine lv_iload_n E.1 E.2.1 dX2_takeReceipt_33 rfl (lv_at hl 1 rfl) ?_
    refine lN2_4 E hw (v := N (30 + 14 * d + 0)) (by omega) (by rw [un_n (by omega)]) dX2_takeReceipt_34 ?_
    refine lv_icmp_neN (tgt := 45) E.1 E.2.1 (by omega) (by omega) dX2_takeReceipt_35 (by decide) (fun c35 => ?_) (fun c35 => ?_)
    · skip
      exact rV E hr hlk (HB.eq hw (by rw [mGot, if_pos c7, if_neg c35, un_same (N := un N (30 + 14 * d + 5) (N (30 + 14 * d + 5) ||| 2 ^ c)) (k := 30 + 14 * d + 1) (by rw [un_n (by omega)]; exact c7)])) dX2_takeReceipt_45
    · skip
      refine lv_aload_n E.1 E.2.1 dX2_takeReceipt_38 rfl (lv_at hl 0 rfl) ?_
      refine gX2_7 E hw mw_2_12 dX2_takeReceipt_39 ?_
      refine lv_iload_n E.1 E.2.1 dX2_takeReceipt_42 rfl (lv_at hl 1 rfl) ?_
      refine lv_iconst (v := nI 3) E.1 E.2.1 dX2_takeReceipt_43 (by decide) ?_
      refine sN2_5 E hw (by omega) dX2_takeReceipt_44 (fun H locs hw => ?_)
      exact rV E hr hlk (HB.eq hw (by rw [mGot, if_pos c7, if_pos c35])) dX2_takeReceipt_45
  · skip
    exact rV E hr hlk (HB.eq hw (by rw [mGot, if_neg c7])) dX2_takeReceipt_10
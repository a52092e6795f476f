def dvI (N : NS) : Nat → Nat
  | 0 => 0
  | w + 1 => dvI N w + N (20 + w)
theorem lt4_le3 {w : Int32} (h : w < nI 4) : w ≤ nI 3 := by
  rw [Int32.lt_iff_toInt_lt] at h
  rw [Int32.le_iff_toInt_le]
  have h4 : (nI 4).toInt = 4 := by decide
  have h3 : (nI 3).toInt = 3 := by decide
  omega
theorem YX3_isIn : YS yX3_isIn RX3 cX3_isIn 2 (some .boolean) 2 := ⟨mw_6_9, mw_1_2, mw_6_10, by decide +kernel⟩
set_option maxHeartbeats 4000000 in
set_option maxRecDepth 100000 in
theorem c_X3_isIn (l : Launch) (G : GP) (S k : Nat) (hS : S < 2 ^ 31) (hk : k < 31) : MI l yX3_isIn (.code yX3_isIn cX3_isIn 2 (some .boolean) :: GW) ({ frames := 0, cells := 0, slots := 0, locals := 0 }) [.int (nI (S)), .int (nI (k))] G ES ([]) ([]) (zb (S.testBit k = true)) := by
  refine MI.of (own := RX3) rfl rfl (Nat.le_of_ble_eq_true rfl) ?_
  intro pP eE sS mM below meth cC ls AA E hw hl hr hlk hE
  replace hl : lv_has ls 2 [(0, .int (nI (S))), (1, .int (nI (k)))] := hl
  refine lv_iload_n E.1 E.2.1 dX3_isIn_0 rfl (lv_at hl 0 rfl) ?_
  refine lv_iload_n E.1 E.2.1 dX3_isIn_1 rfl (lv_at hl 1 rfl) ?_
  refine lv_ishr E.1 E.2.1 dX3_isIn_2 ?_
  refine lv_iconst (v := nI 1) E.1 E.2.1 dX3_isIn_3 (by decide) ?_
  refine lv_iand E.1 E.2.1 dX3_isIn_4 ?_
  refine lv_eqi (y := nI (if S.testBit k then 1 else 0)) (sh_bit hS hk) ?_
  refine lv_iconst (v := nI 1) E.1 E.2.1 dX3_isIn_5 (by decide) ?_
  refine lv_icmp_ne (tgt := 13) E.1 E.2.1 dX3_isIn_6 (by decide) (fun c6 => ?_) (fun c6 => ?_)
  · skip
    refine lv_iconst (v := nI 0) E.1 E.2.1 dX3_isIn_13 (by decide) ?_
    exact rZ E hr hlk (HB.eq hw (rfl)) ((zb_f (fun z => c6 (by rw [if_pos z]))).symm) rfl dX3_isIn_14
  · skip
    refine lv_iconst (v := nI 1) E.1 E.2.1 dX3_isIn_9 (by decide) ?_
    refine lv_goto (tgt := 14) E.1 E.2.1 dX3_isIn_10 (by decide) ?_
    exact rZ E hr hlk (HB.eq hw (rfl)) ((zb_t (by by_cases z : S.testBit k = true; exact z; rw [if_neg z] at c6; exact absurd c6 (by decide))).symm) rfl dX3_isIn_14
theorem YX2_isClerk : YS yX2_isClerk RX2 cX2_isClerk 1 (some .boolean) 1 := ⟨mw_6_7, mw_1_15, mw_6_8, by decide +kernel⟩
set_option maxHeartbeats 4000000 in
set_option maxRecDepth 100000 in
theorem c_X2_isClerk (l : Launch) (G : GP) (v : Int32) : MI l yX2_isClerk (.code yX2_isClerk cX2_isClerk 1 (some .boolean) :: GW) ({ frames := 0, cells := 0, slots := 0, locals := 0 }) [.int (v)] G ES ([]) ([]) (zb (0 ≤ v ∧ v < nI 4)) := by
  refine MI.of (own := RX2) rfl rfl (Nat.le_of_ble_eq_true rfl) ?_
  intro pP eE sS mM below meth cC ls AA E hw hl hr hlk hE
  replace hl : lv_has ls 1 [(0, .int (v))] := hl
  refine lv_iload_n E.1 E.2.1 dX2_isClerk_0 rfl (lv_at hl 0 rfl) ?_
  refine lv_if_lt (tgt := 13) E.1 E.2.1 dX2_isClerk_1 (by decide) (fun c1 => ?_) (fun c1 => ?_)
  · skip
    refine lv_iconst (v := nI 0) E.1 E.2.1 dX2_isClerk_13 (by decide) ?_
    exact rZ E hr hlk (HB.eq hw (rfl)) ((zb_f (fun z => Int32.not_lt.mpr z.1 c1)).symm) rfl dX2_isClerk_14
  · skip
    refine lv_iload_n E.1 E.2.1 dX2_isClerk_4 rfl (lv_at hl 0 rfl) ?_
    refine lv_iconst (v := nI 4) E.1 E.2.1 dX2_isClerk_5 (by decide) ?_
    refine lv_icmp_ge (tgt := 13) E.1 E.2.1 dX2_isClerk_6 (by decide) (fun c6 => ?_) (fun c6 => ?_)
    · skip
      refine lv_iconst (v := nI 0) E.1 E.2.1 dX2_isClerk_13 (by decide) ?_
      exact rZ E hr hlk (HB.eq hw (rfl)) ((zb_f (fun z => Int32.not_le.mpr z.2 c6)).symm) rfl dX2_isClerk_14
    · skip
      refine lv_iconst (v := nI 1) E.1 E.2.1 dX2_isClerk_9 (by decide) ?_
      refine lv_goto (tgt := 14) E.1 E.2.1 dX2_isClerk_10 (by decide) ?_
      exact rZ E hr hlk (HB.eq hw (rfl)) ((zb_t ⟨Int32.not_lt.mp c1, Int32.not_le.mp c6⟩).symm) rfl dX2_isClerk_14
theorem YX2_isSomebody : YS yX2_isSomebody RX2 cX2_isSomebody 1 (some .boolean) 1 := ⟨mw_14_14, mw_1_15, mw_14_15, by decide +kernel⟩
set_option maxHeartbeats 4000000 in
set_option maxRecDepth 100000 in
theorem c_X2_isSomebody (l : Launch) (G : GP) (v : Int32) : MI l yX2_isSomebody (.code yX2_isSomebody cX2_isSomebody 1 (some .boolean) :: GW) ({ frames := 0, cells := 0, slots := 0, locals := 0 }) [.int (v)] G ES ([]) ([]) (zb (0 ≤ v ∧ v < nI 5)) := by
  refine MI.of (own := RX2) rfl rfl (Nat.le_of_ble_eq_true rfl) ?_
  intro pP eE sS mM below meth cC ls AA E hw hl hr hlk hE
  replace hl : lv_has ls 1 [(0, .int (v))] := hl
  refine lv_iload_n E.1 E.2.1 dX2_isSomebody_0 rfl (lv_at hl 0 rfl) ?_
  refine lv_if_lt (tgt := 13) E.1 E.2.1 dX2_isSomebody_1 (by decide) (fun c1 => ?_) (fun c1 => ?_)
  · skip
    refine lv_iconst (v := nI 0) E.1 E.2.1 dX2_isSomebody_13 (by decide) ?_
    exact rZ E hr hlk (HB.eq hw (rfl)) ((zb_f (fun z => Int32.not_lt.mpr z.1 c1)).symm) rfl dX2_isSomebody_14
  · skip
    refine lv_iload_n E.1 E.2.1 dX2_isSomebody_4 rfl (lv_at hl 0 rfl) ?_
    refine lv_iconst (v := nI 5) E.1 E.2.1 dX2_isSomebody_5 (by decide) ?_
    refine lv_icmp_ge (tgt := 13) E.1 E.2.1 dX2_isSomebody_6 (by decide) (fun c6 => ?_) (fun c6 => ?_)
    · skip
      refine lv_iconst (v := nI 0) E.1 E.2.1 dX2_isSomebody_13 (by decide) ?_
      exact rZ E hr hlk (HB.eq hw (rfl)) ((zb_f (fun z => Int32.not_le.mpr z.2 c6)).symm) rfl dX2_isSomebody_14
    · skip
      refine lv_iconst (v := nI 1) E.1 E.2.1 dX2_isSomebody_9 (by decide) ?_
      refine lv_goto (tgt := 14) E.1 E.2.1 dX2_isSomebody_10 (by decide) ?_
      exact rZ E hr hlk (HB.eq hw (rfl)) ((zb_t ⟨Int32.not_lt.mp c1, Int32.not_le.mp c6⟩).symm) rfl dX2_isSomebody_14
theorem YJ6_bitCount_0f7a4 : YS yJ6_bitCount_0f7a4 RJ6 cJ6_bitCount_0f7a4 1 (some .int) 1 := ⟨mw_14_21, mw_14_22, mw_14_23, by decide +kernel⟩
theorem YX1_has : YV yX1_has RX1 cX1_has 2 (some .boolean) 1 := ⟨mw_8_22, mw_8_23, mw_2_9, mw_9_0, by decide +kernel⟩
set_option maxHeartbeats 4000000 in
set_option maxRecDepth 100000 in
theorem c_X1_has (l : Launch) (G : GP) (a : Nat → Nat) (N : NS) (p : Int32) : MI l yX1_has (.code yX1_has cX1_has 2 (some .boolean) :: GW) ({ frames := 0, cells := 0, slots := 0, locals := 0 }) [.ref (a 2), .int (p)] G ES (sN G a (N)) (sN G a (N)) (zb (0 ≤ p ∧ p < nI (N 6))) := by
  refine MI.of (own := RX1) rfl rfl (Nat.le_of_ble_eq_true rfl) ?_
  intro pP eE sS mM below meth cC ls AA E hw hl hr hlk hE
  replace hl : lv_has ls 2 [(0, .ref (a 2)), (1, .int (p))] := hl
  refine lv_iload_n E.1 E.2.1 dX1_has_0 rfl (lv_at hl 1 rfl) ?_
  refine lv_if_lt (tgt := 16) E.1 E.2.1 dX1_has_1 (by decide) (fun c1 => ?_) (fun c1 => ?_)
  · skip
    refine lv_iconst (v := nI 0) E.1 E.2.1 dX1_has_16 (by decide) ?_
    exact rZ E hr hlk (HB.eq hw (rfl)) ((zb_f (fun z => Int32.not_lt.mpr z.1 c1)).symm) rfl dX1_has_17
  · skip
    refine lv_iload_n E.1 E.2.1 dX1_has_4 rfl (lv_at hl 1 rfl) ?_
    refine lv_aload_n E.1 E.2.1 dX1_has_5 rfl (lv_at hl 0 rfl) ?_
    refine gX1_0 E hw mw_4_17 dX1_has_6 ?_
    refine lv_eqi (y := nI (N 6)) (rfl) ?_
    refine lv_icmp_ge (tgt := 16) E.1 E.2.1 dX1_has_9 (by decide) (fun c9 => ?_) (fun c9 => ?_)
    · skip
      refine lv_iconst (v := nI 0) E.1 E.2.1 dX1_has_16 (by decide) ?_
      exact rZ E hr hlk (HB.eq hw (rfl)) ((zb_f (fun z => Int32.not_le.mpr z.2 c9)).symm) rfl dX1_has_17
    · skip
      refine lv_iconst (v := nI 1) E.1 E.2.1 dX1_has_12 (by decide) ?_
      refine lv_goto (tgt := 17) E.1 E.2.1 dX1_has_13 (by decide) ?_
      exact rZ E hr hlk (HB.eq hw (rfl)) ((zb_t ⟨Int32.not_lt.mp c1, Int32.not_le.mp c9⟩).symm) rfl dX1_has_17
theorem YX1_part : YV yX1_part RX1 cX1_part 3 (some .int) 2 := ⟨mw_9_2, mw_9_3, mw_2_9, mw_9_4, by decide +kernel⟩
set_option maxHeartbeats 4000000 in
set_option maxRecDepth 100000 in
theorem c_X1_part (l : Launch) (G : GP) (a : Nat → Nat) (N : NS) (p k v : Nat) (h : 4 * p + k < 240) (hv : N (150 + 4 * p + k) = v) : MI l yX1_part (.code yX1_part cX1_part 3 (some .int) :: GW) ({ frames := 0, cells := 0, slots := 0, locals := 0 }) [.ref (a 2), .int (nI (p)), .int (nI (k))] G ES (sN G a (N)) (sN G a (N)) (nI v) := by
  refine MI.of (own := RX1) rfl rfl (Nat.le_of_ble_eq_true rfl) ?_
  intro pP eE sS mM below meth cC ls AA E hw hl hr hlk hE
  replace hl : lv_has ls 3 [(0, .ref (a 2)), (1, .int (nI (p))), (2, .int (nI (k)))] := hl
  refine lv_aload_n E.1 E.2.1 dX1_part_0 rfl (lv_at hl 0 rfl) ?_
  refine gX1_2 E hw mw_2_22 dX1_part_1 ?_
  refine lv_iload_n E.1 E.2.1 dX1_part_4 rfl (lv_at hl 1 rfl) ?_
  refine lv_iconst (v := nI 4) E.1 E.2.1 dX1_part_5 (by decide) ?_
  refine lv_mulN E.1 E.2.1 dX1_part_6 ?_
  refine lv_iload_n E.1 E.2.1 dX1_part_7 rfl (lv_at hl 2 rfl) ?_
  refine lv_addN E.1 E.2.1 dX1_part_8 ?_
  refine lN2_1 E hw (v := v) (by omega) ((congrArg N (by omega)).trans hv) dX1_part_9 ?_
  exact rI E hr hlk (HB.eq hw (rfl)) (rfl) dX1_part_10
theorem YX1_numberOfMessage : YV yX1_numberOfMessage RX1 cX1_numberOfMessage 3 (some .int) 2 := ⟨mw_19_16, mw_19_17, mw_2_9, mw_19_18, by decide +kernel⟩
set_option maxHeartbeats 4000000 in
set_option maxRecDepth 100000 in
theorem c_X1_numberOfMessage_bad1 (l : Launch) (G : GP) (a : Nat → Nat) (N : NS) (p w : Int32) (h : ¬ (0 ≤ p ∧ p < nI (N 6))) : MI l yX1_numberOfMessage (.code yX1_numberOfMessage cX1_numberOfMessage 3 (some .int) :: GW) ({ frames := 1, cells := 0, slots := 0, locals := 21 }) [.ref (a 2), .int (p), .int (w)] G ES (sN G a (N)) (sN G a (N)) (-1) := by
  refine MI.of (own := RX1) rfl rfl (Nat.le_of_ble_eq_true rfl) ?_
  intro pP eE sS mM below meth cC ls AA E hw hl hr hlk hE
  replace hl : lv_has ls 3 [(0, .ref (a 2)), (1, .int (p)), (2, .int (w))] := hl
  refine lv_aload_n E.1 E.2.1 dX1_numberOfMessage_0 rfl (lv_at hl 0 rfl) ?_
  refine lv_iload_n E.1 E.2.1 dX1_numberOfMessage_1 rfl (lv_at hl 1 rfl) ?_
  refine callVI E (c_X1_has l G a (N) (p)) mw_19_19 YX1_has ⟨rfl, rfl⟩ ⟨Nat.le_of_ble_eq_true rfl, Nat.le_of_ble_eq_true rfl⟩ ⟨Nat.zero_le _, Nat.zero_le _⟩ hw 2 rfl rfl rfl hl rfl (Nat.le_of_ble_eq_true rfl) dX1_numberOfMessage_2 (fun H locs hw => ?_)
  refine lv_if_neB (tgt := 10) E.1 E.2.1 dX1_numberOfMessage_5 (by decide) (fun c5 => ?_) (fun c5 => ?_)
  · exact absurd c5 h
  · skip
    refine lv_iconst (v := -1) E.1 E.2.1 dX1_numberOfMessage_8 (by decide) ?_
    exact rI E hr hlk (HB.eq hw (rfl)) (rfl) dX1_numberOfMessage_9
set_option maxHeartbeats 4000000 in
set_option maxRecDepth 100000 in
theorem c_X1_numberOfMessage_bad2 (l : Launch) (G : GP) (a : Nat → Nat) (N : NS) (p : Nat) (w : Int32) (hp : p < N 6) (h6 : N 6 ≤ 60) (h : ¬ (nI 0 ≤ w ∧ w ≤ nI 3)) : MI l yX1_numberOfMessage (.code yX1_numberOfMessage cX1_numberOfMessage 3 (some .int) :: GW) ({ frames := 1, cells := 0, slots := 0, locals := 21 }) [.ref (a 2), .int (nI (p)), .int (w)] G ES (sN G a (N)) (sN G a (N)) (-2) := by
  refine MI.of (own := RX1) rfl rfl (Nat.le_of_ble_eq_true rfl) ?_
  intro pP eE sS mM below meth cC ls AA E hw hl hr hlk hE
  replace hl : lv_has ls 3 [(0, .ref (a 2)), (1, .int (nI (p))), (2, .int (w))] := hl
  refine lv_aload_n E.1 E.2.1 dX1_numberOfMessage_0 rfl (lv_at hl 0 rfl) ?_
  refine lv_iload_n E.1 E.2.1 dX1_numberOfMessage_1 rfl (lv_at hl 1 rfl) ?_
  refine callVI E (c_X1_has l G a (N) (nI (p))) mw_19_19 YX1_has ⟨rfl, rfl⟩ ⟨Nat.le_of_ble_eq_true rfl, Nat.le_of_ble_eq_true rfl⟩ ⟨Nat.zero_le _, Nat.zero_le _⟩ hw 2 rfl rfl rfl hl rfl (Nat.le_of_ble_eq_true rfl) dX1_numberOfMessage_2 (fun H locs hw => ?_)
  refine lv_if_neB (tgt := 10) E.1 E.2.1 dX1_numberOfMessage_5 (by decide) (fun c5 => ?_) (fun c5 => ?_)
  · skip
    refine lv_iload_n E.1 E.2.1 dX1_numberOfMessage_10 rfl (lv_at hl 2 rfl) ?_
    refine lv_if_lt (tgt := 19) E.1 E.2.1 dX1_numberOfMessage_11 (by decide) (fun c11 => ?_) (fun c11 => ?_)
    · skip
      refine lv_bipush (v := -2) E.1 E.2.1 dX1_numberOfMessage_19 (by decide) ?_
      exact rI E hr hlk (HB.eq hw (rfl)) (rfl) dX1_numberOfMessage_21
    · skip
      refine lv_iload_n E.1 E.2.1 dX1_numberOfMessage_14 rfl (lv_at hl 2 rfl) ?_
      refine lv_iconst (v := nI 4) E.1 E.2.1 dX1_numberOfMessage_15 (by decide) ?_
      refine lv_icmp_lt (tgt := 22) E.1 E.2.1 dX1_numberOfMessage_16 (by decide) (fun c16 => ?_) (fun c16 => ?_)
      · exact absurd ⟨Int32.not_lt.mp c11, lt4_le3 c16⟩ h
      · skip
        refine lv_bipush (v := -2) E.1 E.2.1 dX1_numberOfMessage_19 (by decide) ?_
        exact rI E hr hlk (HB.eq hw (rfl)) (rfl) dX1_numberOfMessage_21
  · exact absurd (in0 (by omega) (by omega)) c5
set_option maxHeartbeats 4000000 in
set_option maxRecDepth 100000 in
theorem c_X1_numberOfMessage_ok (l : Launch) (G : GP) (a : Nat → Nat) (N : NS) (p k : Nat) (hp : p < N 6) (h6 : N 6 ≤ 60) (hk : k < 4) : MI l yX1_numberOfMessage (.code yX1_numberOfMessage cX1_numberOfMessage 3 (some .int) :: GW) ({ frames := 1, cells := 0, slots := 0, locals := 22 }) [.ref (a 2), .int (nI (p)), .int (nI (k))] G ES (sN G a (N)) (sN G a (N)) (nI (N (150 + 4 * p + k))) := by
  refine MI.of (own := RX1) rfl rfl (Nat.le_of_ble_eq_true rfl) ?_
  intro pP eE sS mM below meth cC ls AA E hw hl hr hlk hE
  replace hl : lv_has ls 3 [(0, .ref (a 2)), (1, .int (nI (p))), (2, .int (nI (k)))] := hl
  refine lv_aload_n E.1 E.2.1 dX1_numberOfMessage_0 rfl (lv_at hl 0 rfl) ?_
  refine lv_iload_n E.1 E.2.1 dX1_numberOfMessage_1 rfl (lv_at hl 1 rfl) ?_
  refine callVI E (c_X1_has l G a (N) (nI (p))) mw_19_19 YX1_has ⟨rfl, rfl⟩ ⟨Nat.le_of_ble_eq_true rfl, Nat.le_of_ble_eq_true rfl⟩ ⟨Nat.zero_le _, Nat.zero_le _⟩ hw 2 rfl rfl rfl hl rfl (Nat.le_of_ble_eq_true rfl) dX1_numberOfMessage_2 (fun H locs hw => ?_)
  refine lv_if_neB (tgt := 10) E.1 E.2.1 dX1_numberOfMessage_5 (by decide) (fun c5 => ?_) (fun c5 => ?_)
  · skip
    refine lv_iload_n E.1 E.2.1 dX1_numberOfMessage_10 rfl (lv_at hl 2 rfl) ?_
    refine lv_if_ltN (tgt := 19) E.1 E.2.1 (by omega) dX1_numberOfMessage_11 (by decide) (fun c11 => ?_) (fun c11 => ?_)
    · omega
    · skip
      refine lv_iload_n E.1 E.2.1 dX1_numberOfMessage_14 rfl (lv_at hl 2 rfl) ?_
      refine lv_iconst (v := nI 4) E.1 E.2.1 dX1_numberOfMessage_15 (by decide) ?_
      refine lv_icmp_ltN (tgt := 22) E.1 E.2.1 (by omega) (by omega) dX1_numberOfMessage_16 (by decide) (fun c16 => ?_) (fun c16 => ?_)
      · skip
        refine lv_aload_n E.1 E.2.1 dX1_numberOfMessage_22 rfl (lv_at hl 0 rfl) ?_
        refine lv_iload_n E.1 E.2.1 dX1_numberOfMessage_23 rfl (lv_at hl 1 rfl) ?_
        refine lv_iload_n E.1 E.2.1 dX1_numberOfMessage_24 rfl (lv_at hl 2 rfl) ?_
        refine callVI E (c_X1_part l G a (N) p k (N (150 + 4 * p + k)) (by omega) (rfl)) mw_19_20 YX1_part ⟨rfl, rfl⟩ ⟨Nat.le_of_ble_eq_true rfl, Nat.le_of_ble_eq_true rfl⟩ ⟨Nat.zero_le _, Nat.zero_le _⟩ hw 2 rfl rfl rfl hl rfl (Nat.le_of_ble_eq_true rfl) dX1_numberOfMessage_25 (fun H locs hw => ?_)
        exact rI E hr hlk (HB.eq hw (rfl)) (rfl) dX1_numberOfMessage_28
      · omega
  · exact absurd (in0 (by omega) (by omega)) c5
theorem YX1_onTheirWayTo : YV yX1_onTheirWayTo RX1 cX1_onTheirWayTo 4 (some .int) 1 := ⟨mw_20_11, mw_20_12, mw_2_9, mw_20_13, by decide +kernel⟩
set_option maxHeartbeats 4000000 in
set_option maxRecDepth 100000 in
theorem c_X1_onTheirWayTo (l : Launch) (G : GP) (a : Nat → Nat) (N : NS) (w : Nat) (hw : w < 5) (h6 : N 6 ≤ 60) (hm : ∀ p, p < N 6 → N (150 + 4 * p + 3) < 2 ^ 31) : MI l yX1_onTheirWayTo (.code yX1_onTheirWayTo cX1_onTheirWayTo 4 (some .int) :: GW) ({ frames := 1, cells := 0, slots := 0, locals := 22 }) [.ref (a 2), .int (nI (w))] G ES (sN G a (N)) (sN G a (N)) (nI (utI w N (N 6))) := by
  refine MI.of (own := RX1) rfl rfl (Nat.le_of_ble_eq_true rfl) ?_
  intro pP eE sS mM below meth cC ls AA E hw hl hr hlk hE
  replace hl : lv_has ls 4 [(0, .ref (a 2)), (1, .int (nI (w)))] := hl
  refine lv_iconst (v := nI 0) E.1 E.2.1 dX1_onTheirWayTo_0 (by decide) ?_
  refine lv_istore_n (lv' := [(2, .int (nI (0))), (0, .ref (a 2)), (1, .int (nI (w)))]) E.1 E.2.1 dX1_onTheirWayTo_1 rfl hl (by decide) rfl (fun ls hl => ?_)
  refine lv_iconst (v := nI 0) E.1 E.2.1 dX1_onTheirWayTo_2 (by decide) ?_
  refine lv_istore_n (lv' := [(3, .int (nI (0))), (2, .int (nI (0))), (0, .ref (a 2)), (1, .int (nI (w)))]) E.1 E.2.1 dX1_onTheirWayTo_3 rfl hl (by decide) rfl (fun ls hl => ?_)
  refine W_ind1 (nL := 4) (P := fun pp => pp ≤ N 6) (μ := fun pp => N 6 - pp) (I := fun pp => sN G a (N)) (L := fun pp => [(0, .ref (a 2)), (1, .int (nI (w))), (2, .int (nI (utI w N pp))), (3, .int (nI (pp)))]) ?_ (0) (Nat.zero_le _) (HB.eq hw (rfl)) (lvh_eq (l := [(0, .ref (a 2)), (1, .int (nI (w))), (2, .int (nI (0))), (3, .int (nI (0)))]) (lv_sub hl [2, 3, 1, 0] rfl) (rfl))
  intro pp hP ih H locs ls hw hl
  replace hw : HB G AA sS.heap (sN G a (N)) H locs := hw
  replace hl : lv_has ls 4 [(0, .ref (a 2)), (1, .int (nI (w))), (2, .int (nI (utI w N pp))), (3, .int (nI (pp)))] := hl
  refine lv_iload_n E.1 E.2.1 dX1_onTheirWayTo_4 rfl (lv_at hl 3 rfl) ?_
  refine lv_aload_n E.1 E.2.1 dX1_onTheirWayTo_5 rfl (lv_at hl 0 rfl) ?_
  refine gX1_0 E hw mw_4_17 dX1_onTheirWayTo_6 ?_
  refine lv_eqi (y := nI (N 6)) (rfl) ?_
  refine lv_icmp_geN (tgt := 31) E.1 E.2.1 (by omega) (by omega) dX1_onTheirWayTo_9 (by decide) (fun c9 => ?_) (fun c9 => ?_)
  · skip
    refine lv_iload_n E.1 E.2.1 dX1_onTheirWayTo_31 rfl (lv_at hl 2 rfl) ?_
    exact rI E hr hlk (HB.eq hw (rfl)) (by rw [show pp = N 6 by omega]) dX1_onTheirWayTo_32
  · skip
    have hmp := hm pp (by omega)
    refine lv_aload_n E.1 E.2.1 dX1_onTheirWayTo_12 rfl (lv_at hl 0 rfl) ?_
    refine lv_iload_n E.1 E.2.1 dX1_onTheirWayTo_13 rfl (lv_at hl 3 rfl) ?_
    refine lv_iconst (v := nI 3) E.1 E.2.1 dX1_onTheirWayTo_14 (by decide) ?_
    refine callVI E (c_X1_part l G a (N) pp 3 (N (150 + 4 * pp + 3)) (by omega) (rfl)) mw_19_20 YX1_part ⟨rfl, rfl⟩ ⟨Nat.le_of_ble_eq_true rfl, Nat.le_of_ble_eq_true rfl⟩ ⟨Nat.zero_le _, Nat.zero_le _⟩ hw 2 rfl rfl rfl hl rfl (Nat.le_of_ble_eq_true rfl) dX1_onTheirWayTo_15 (fun H locs hw => ?_)
    refine lv_iload_n E.1 E.2.1 dX1_onTheirWayTo_18 rfl (lv_at hl 1 rfl) ?_
    refine lv_icmp_neN (tgt := 25) E.1 E.2.1 (by omega) (by omega) dX1_onTheirWayTo_19 (by decide) (fun c19 => ?_) (fun c19 => ?_)
    · skip
      refine lv_iincN (k := 3) (lv' := [(3, .int (nI (pp + 1))), (0, .ref (a 2)), (1, .int (nI (w))), (2, .int (nI (utI w N pp)))]) E.1 E.2.1 dX1_onTheirWayTo_25 hl rfl (by decide) rfl (fun ls hl => ?_)
      refine lv_goto (tgt := 4) E.1 E.2.1 dX1_onTheirWayTo_28 (by decide) ?_
      exact ih (pp + 1) (by omega) (by omega) _ _ _ (HB.eq hw (rfl)) (lvh_eq (l := [(0, .ref (a 2)), (1, .int (nI (w))), (2, .int (nI (utI w N pp))), (3, .int (nI (pp + 1)))]) (lv_sub hl [1, 2, 3, 0] rfl) (by rw [utI, if_neg c19]; rfl))
    · skip
      refine lv_iincN (k := 2) (lv' := [(2, .int (nI (utI w N pp + 1))), (0, .ref (a 2)), (1, .int (nI (w))), (3, .int (nI (pp)))]) E.1 E.2.1 dX1_onTheirWayTo_22 hl rfl (by decide) rfl (fun ls hl => ?_)
      refine lv_iincN (k := 3) (lv' := [(3, .int (nI (pp + 1))), (2, .int (nI (utI w N pp + 1))), (0, .ref (a 2)), (1, .int (nI (w)))]) E.1 E.2.1 dX1_onTheirWayTo_25 hl rfl (by decide) rfl (fun ls hl => ?_)
      refine lv_goto (tgt := 4) E.1 E.2.1 dX1_onTheirWayTo_28 (by decide) ?_
      exact ih (pp + 1) (by omega) (by omega) _ _ _ (HB.eq hw (rfl)) (lvh_eq (l := [(0, .ref (a 2)), (1, .int (nI (w))), (2, .int (nI (utI w N pp + 1))), (3, .int (nI (pp + 1)))]) (lv_sub hl [2, 3, 1, 0] rfl) (by rw [utI, if_pos c19]))
theorem YX1_delivered : YV yX1_delivered RX1 cX1_delivered 3 (some .int) 0 := ⟨mw_21_8, mw_21_9, mw_2_9, mw_21_10, by decide +kernel⟩
set_option maxHeartbeats 4000000 in
set_option maxRecDepth 100000 in
theorem c_X1_delivered (l : Launch) (G : GP) (a : Nat → Nat) (N : NS)  : MI l yX1_delivered (.code yX1_delivered cX1_delivered 3 (some .int) :: GW) ({ frames := 0, cells := 0, slots := 0, locals := 0 }) [.ref (a 2)] G ES (sN G a (N)) (sN G a (N)) (nI (dvI N 5)) := by
  refine MI.of (own := RX1) rfl rfl (Nat.le_of_ble_eq_true rfl) ?_
  intro pP eE sS mM below meth cC ls AA E hw hl hr hlk hE
  replace hl : lv_has ls 3 [(0, .ref (a 2))] := hl
  refine lv_iconst (v := nI 0) E.1 E.2.1 dX1_delivered_0 (by decide) ?_
  refine lv_istore_n (lv' := [(1, .int (nI (0))), (0, .ref (a 2))]) E.1 E.2.1 dX1_delivered_1 rfl hl (by decide) rfl (fun ls hl => ?_)
  refine lv_iconst (v := nI 0) E.1 E.2.1 dX1_delivered_2 (by decide) ?_
  refine lv_istore_n (lv' := [(2, .int (nI (0))), (1, .int (nI (0))), (0, .ref (a 2))]) E.1 E.2.1 dX1_delivered_3 rfl hl (by decide) rfl (fun ls hl => ?_)
  refine W_ind1 (nL := 3) (P := fun w => w ≤ 5) (μ := fun w => 5 - w) (I := fun w => sN G a (N)) (L := fun w => [(0, .ref (a 2)), (1, .int (nI (dvI N w))), (2, .int (nI (w)))]) ?_ (0) (Nat.zero_le _) (HB.eq hw (rfl)) (lvh_eq (l := [(0, .ref (a 2)), (1, .int (nI (0))), (2, .int (nI (0)))]) (lv_sub hl [2, 1, 0] rfl) (rfl))
  intro w hP ih H locs ls hw hl
  replace hw : HB G AA sS.heap (sN G a (N)) H locs := hw
  replace hl : lv_has ls 3 [(0, .ref (a 2)), (1, .int (nI (dvI N w))), (2, .int (nI (w)))] := hl
  refine lv_iload_n E.1 E.2.1 dX1_delivered_4 rfl (lv_at hl 2 rfl) ?_
  refine lv_iconst (v := nI 5) E.1 E.2.1 dX1_delivered_5 (by decide) ?_
  refine lv_icmp_geN (tgt := 24) E.1 E.2.1 (by omega) (by omega) dX1_delivered_6 (by decide) (fun c6 => ?_) (fun c6 => ?_)
  · skip
    refine lv_iload_n E.1 E.2.1 dX1_delivered_24 rfl (lv_at hl 1 rfl) ?_
    exact rI E hr hlk (HB.eq hw (rfl)) (by rw [show w = 5 by omega]) dX1_delivered_25
  · skip
    refine lv_iload_n E.1 E.2.1 dX1_delivered_9 rfl (lv_at hl 1 rfl) ?_
    refine lv_aload_n E.1 E.2.1 dX1_delivered_10 rfl (lv_at hl 0 rfl) ?_
    refine gX1_3 E hw mw_2_23 dX1_delivered_11 ?_
    refine lv_iload_n E.1 E.2.1 dX1_delivered_14 rfl (lv_at hl 2 rfl) ?_
    refine lN2_2 E hw (v := N (20 + w)) (by omega) (rfl) dX1_delivered_15 ?_
    refine lv_addN E.1 E.2.1 dX1_delivered_16 ?_
    refine lv_istore_n (lv' := [(1, .int (nI (dvI N w + (N (20 + w))))), (0, .ref (a 2)), (2, .int (nI (w)))]) E.1 E.2.1 dX1_delivered_17 rfl hl (by decide) rfl (fun ls hl => ?_)
    refine lv_iincN (k := 2) (lv' := [(2, .int (nI (w + 1))), (1, .int (nI (dvI N w + (N (20 + w))))), (0, .ref (a 2))]) E.1 E.2.1 dX1_delivered_18 hl rfl (by decide) rfl (fun ls hl => ?_)
    refine lv_goto (tgt := 4) E.1 E.2.1 dX1_delivered_21 (by decide) ?_
    exact ih (w + 1) (by omega) (by omega) _ _ _ (HB.eq hw (rfl)) (lvh_eq (l := [(0, .ref (a 2)), (1, .int (nI (dvI N w + (N (20 + w))))), (2, .int (nI (w + 1)))]) (lv_sub hl [2, 1, 0] rfl) (rfl))
theorem YX1_send : YV yX1_send RX1 cX1_send 6 none 4 := ⟨mw_7_8, mw_7_9, mw_2_9, mw_7_10, by decide +kernel⟩
set_option maxHeartbeats 4000000 in
set_option maxRecDepth 100000 in
theorem c_X1_send (l : Launch) (G : GP) (a : Nat → Nat) (N : NS) (k d f t : Nat) (hf : f < 5) (h6 : N 6 ≤ 60) : MV l yX1_send (.code yX1_send cX1_send 6 none :: GW) ({ frames := 0, cells := 0, slots := 0, locals := 0 }) [.ref (a 2), .int (nI (k)), .int (nI (d)), .int (nI (f)), .int (nI (t))] G ES (sN G a (N)) (sN G a (mSend k d f t N)) := by
  refine MV.of (own := RX1) rfl rfl (Nat.le_of_ble_eq_true rfl) ?_
  intro pP eE sS mM below meth cC ls AA E hw hl hr hlk hE
  replace hl : lv_has ls 6 [(0, .ref (a 2)), (1, .int (nI (k))), (2, .int (nI (d))), (3, .int (nI (f))), (4, .int (nI (t)))] := hl
  refine lv_aload_n E.1 E.2.1 dX1_send_0 rfl (lv_at hl 0 rfl) ?_
  refine gX1_4 E hw mw_3_0 dX1_send_1 ?_
  refine lv_iload_n E.1 E.2.1 dX1_send_4 rfl (lv_at hl 3 rfl) ?_
  refine lv_dup2_11 E.1 E.2.1 dX1_send_5 rfl rfl ?_
  refine lN2_3 E hw (v := N (25 + f)) (by omega) (rfl) dX1_send_6 ?_
  refine lv_iconst (v := nI 1) E.1 E.2.1 dX1_send_7 (by decide) ?_
  refine lv_addN E.1 E.2.1 dX1_send_8 ?_
  refine sN2_3 E hw (by omega) dX1_send_9 (fun H locs hw => ?_)
  refine lv_aload_n E.1 E.2.1 dX1_send_10 rfl (lv_at hl 0 rfl) ?_
  refine gX1_0 E hw mw_4_17 dX1_send_11 ?_
  refine lv_eqi (y := nI (N 6)) (congrArg nI (show (un (N) (25 + f) (N (25 + f) + 1)) 6 = N 6 from by rw [un_n (by omega)])) ?_
  refine lv_bipush (v := nI 60) E.1 E.2.1 dX1_send_14 (by decide) ?_
  refine lv_icmp_ltN (tgt := 30) E.1 E.2.1 (by omega) (by omega) dX1_send_16 (by decide) (fun c16 => ?_) (fun c16 => ?_)
  · skip
    refine lv_aload_n E.1 E.2.1 dX1_send_30 rfl (lv_at hl 0 rfl) ?_
    refine gX1_0 E hw mw_4_17 dX1_send_31 ?_
    refine lv_eqi (y := nI (N 6)) (congrArg nI (show (un (N) (25 + f) (N (25 + f) + 1)) 6 = N 6 from by rw [un_n (by omega)])) ?_
    refine lv_iconst (v := nI 4) E.1 E.2.1 dX1_send_34 (by decide) ?_
    refine lv_mulN E.1 E.2.1 dX1_send_35 ?_
    refine lv_istore (lv' := [(5, .int (nI ((N 6) * 4))), (0, .ref (a 2)), (1, .int (nI (k))), (2, .int (nI (d))), (3, .int (nI (f))), (4, .int (nI (t)))]) E.1 E.2.1 dX1_send_36 hl (by decide) rfl (fun ls hl => ?_)
    refine lv_aload_n E.1 E.2.1 dX1_send_38 rfl (lv_at hl 1 rfl) ?_
    refine gX1_2 E hw mw_2_22 dX1_send_39 ?_
    refine lv_iload E.1 E.2.1 dX1_send_42 (lv_at hl 0 rfl) ?_
    refine lv_iconst (v := nI 0) E.1 E.2.1 dX1_send_44 (by decide) ?_
    refine lv_addN E.1 E.2.1 dX1_send_45 ?_
    refine lv_iload_n E.1 E.2.1 dX1_send_46 rfl (lv_at hl 2 rfl) ?_
    refine sN2_1 E hw (by omega) dX1_send_47 (fun H locs hw => ?_)
    replace hw : HB G AA sS.heap (sN G a (un (un (N) (25 + f) (N (25 + f) + 1)) (150 + 4 * N 6) (k))) H locs := HB.eq hw (by rw [show 150 + ((N 6) * 4 + 0) = 150 + 4 * N 6 by omega])
    refine lv_aload_n E.1 E.2.1 dX1_send_48 rfl (lv_at hl 1 rfl) ?_
    refine gX1_2 E hw mw_2_22 dX1_send_49 ?_
    refine lv_iload E.1 E.2.1 dX1_send_52 (lv_at hl 0 rfl) ?_
    refine lv_iconst (v := nI 1) E.1 E.2.1 dX1_send_54 (by decide) ?_
    refine lv_addN E.1 E.2.1 dX1_send_55 ?_
    refine lv_iload_n E.1 E.2.1 dX1_send_56 rfl (lv_at hl 3 rfl) ?_
    refine sN2_1 E hw (by omega) dX1_send_57 (fun H locs hw => ?_)
    replace hw : HB G AA sS.heap (sN G a (un (un (un (N) (25 + f) (N (25 + f) + 1)) (150 + 4 * N 6) (k)) (150 + 4 * N 6 + 1) (d))) H locs := HB.eq hw (by rw [show 150 + ((N 6) * 4 + 1) = 150 + 4 * N 6 + 1 by omega])
    refine lv_aload_n E.1 E.2.1 dX1_send_58 rfl (lv_at hl 1 rfl) ?_
    refine gX1_2 E hw mw_2_22 dX1_send_59 ?_
    refine lv_iload E.1 E.2.1 dX1_send_62 (lv_at hl 0 rfl) ?_
    refine lv_iconst (v := nI 2) E.1 E.2.1 dX1_send_64 (by decide) ?_
    refine lv_addN E.1 E.2.1 dX1_send_65 ?_
    refine lv_iload_n E.1 E.2.1 dX1_send_66 rfl (lv_at hl 4 rfl) ?_
    refine sN2_1 E hw (by omega) dX1_send_67 (fun H locs hw => ?_)
    replace hw : HB G AA sS.heap (sN G a (un (un (un (un (N) (25 + f) (N (25 + f) + 1)) (150 + 4 * N 6) (k)) (150 + 4 * N 6 + 1) (d)) (150 + 4 * N 6 + 2) (f))) H locs := HB.eq hw (by rw [show 150 + ((N 6) * 4 + 2) = 150 + 4 * N 6 + 2 by omega])
    refine lv_aload_n E.1 E.2.1 dX1_send_68 rfl (lv_at hl 1 rfl) ?_
    refine gX1_2 E hw mw_2_22 dX1_send_69 ?_
    refine lv_iload E.1 E.2.1 dX1_send_72 (lv_at hl 0 rfl) ?_
    refine lv_iconst (v := nI 3) E.1 E.2.1 dX1_send_74 (by decide) ?_
    refine lv_addN E.1 E.2.1 dX1_send_75 ?_
    refine lv_iload E.1 E.2.1 dX1_send_76 (lv_at hl 5 rfl) ?_
    refine sN2_1 E hw (by omega) dX1_send_78 (fun H locs hw => ?_)
    replace hw : HB G AA sS.heap (sN G a (un (un (un (un (un (N) (25 + f) (N (25 + f) + 1)) (150 + 4 * N 6) (k)) (150 + 4 * N 6 + 1) (d)) (150 + 4 * N 6 + 2) (f)) (150 + 4 * N 6 + 3) (t))) H locs := HB.eq hw (by rw [show 150 + ((N 6) * 4 + 3) = 150 + 4 * N 6 + 3 by omega])
    refine lv_aload_n E.1 E.2.1 dX1_send_79 rfl (lv_at hl 1 rfl) ?_
    refine lv_dup E.1 E.2.1 dX1_send_80 rfl ?_
    refine gX1_0 E hw mw_4_17 dX1_send_81 ?_
    refine lv_eqi (y := nI (N 6)) (congrArg nI (show (un (un (un (un (un (N) (25 + f) (N (25 + f) + 1)) (150 + 4 * N 6) (k)) (150 + 4 * N 6 + 1) (d)) (150 + 4 * N 6 + 2) (f)) (150 + 4 * N 6 + 3) (t)) 6 = N 6 from by rw [un_n (by omega), un_n (by omega), un_n (by omega), un_n (by omega), un_n (by omega)])) ?_
    refine lv_iconst (v := nI 1) E.1 E.2.1 dX1_send_84 (by decide) ?_
    refine lv_addN E.1 E.2.1 dX1_send_85 ?_
    refine pN2_4 E hw mw_4_17 dX1_send_86 (fun H locs hw => ?_)
    exact rV E hr hlk (HB.eq hw (by rw [mSend, if_neg (by omega)])) dX1_send_89
  · skip
    refine lv_aload_n E.1 E.2.1 dX1_send_19 rfl (lv_at hl 0 rfl) ?_
    refine lv_dup E.1 E.2.1 dX1_send_20 rfl ?_
    refine gX1_1 E hw mw_4_18 dX1_send_21 ?_
    refine lv_eqi (y := nI (N 8)) (congrArg nI (show (un (N) (25 + f) (N (25 + f) + 1)) 8 = N 8 from by rw [un_n (by omega)])) ?_
    refine lv_iconst (v := nI 1) E.1 E.2.1 dX1_send_24 (by decide) ?_
    refine lv_addN E.1 E.2.1 dX1_send_25 ?_
    refine pN2_5 E hw mw_4_18 dX1_send_26 (fun H locs hw => ?_)
    exact rV E hr hlk (HB.eq hw (by rw [mSend, if_pos (by omega)])) dX1_send_29
theorem YX1_repeat : YV yX1_repeat RX1 cX1_repeat 2 none 1 := ⟨mw_13_22, mw_13_23, mw_2_9, mw_14_0, by decide +kernel⟩
set_option maxHeartbeats 4000000 in
set_option maxRecDepth 100000 in
theorem c_X1_repeat (l : Launch) (G : GP) (a : Nat → Nat) (N : NS) (p : Nat) (hp : p < N 6) (h6 : N 6 < 60) : MV l yX1_repeat (.code yX1_repeat cX1_repeat 2 none :: GW) ({ frames := 1, cells := 0, slots := 0, locals := 18 }) [.ref (a 2), .int (nI (p))] G ES (sN G a (N)) (sN G a (mTwi p N)) := by
  refine MV.of (own := RX1) rfl rfl (Nat.le_of_ble_eq_true rfl) ?_
  intro pP eE sS mM below meth cC ls AA E hw hl hr hlk hE
  replace hl : lv_has ls 2 [(0, .ref (a 2)), (1, .int (nI (p)))] := hl
  refine lv_aload_n E.1 E.2.1 dX1_repeat_0 rfl (lv_at hl 0 rfl) ?_
  refine gX1_2 E hw mw_2_22 dX1_repeat_1 ?_
  refine lv_iload_n E.1 E.2.1 dX1_repeat_4 rfl (lv_at hl 1 rfl) ?_
  refine lv_iconst (v := nI 4) E.1 E.2.1 dX1_repeat_5 (by decide) ?_
  refine lv_mulN E.1 E.2.1 dX1_repeat_6 ?_
  refine lv_aload_n E.1 E.2.1 dX1_repeat_7 rfl (lv_at hl 0 rfl) ?_
  refine gX1_2 E hw mw_2_22 dX1_repeat_8 ?_
  refine lv_aload_n E.1 E.2.1 dX1_repeat_11 rfl (lv_at hl 0 rfl) ?_
  refine gX1_0 E hw mw_4_17 dX1_repeat_12 ?_
  refine lv_eqi (y := nI (N 6)) (rfl) ?_
  refine lv_iconst (v := nI 4) E.1 E.2.1 dX1_repeat_15 (by decide) ?_
  refine lv_mulN E.1 E.2.1 dX1_repeat_16 ?_
  refine lv_iconst (v := nI 4) E.1 E.2.1 dX1_repeat_17 (by decide) ?_
  refine cpI E hl hw mw_4_19 3 3 rfl rfl (by omega) (by omega) (by decide) (Nat.le_of_ble_eq_true rfl) (Nat.le_of_ble_eq_true rfl) dX1_repeat_18 (fun H locs hw => ?_)
  replace hw : HB G AA sS.heap (sX G a (sI N) (va_up (sF N) 1 (va_cpy ((sF N) 1) ((sF N) 1) (p * 4) ((N 6) * 4) (4)))) H locs := hw
  refine lv_aload_n E.1 E.2.1 dX1_repeat_21 rfl (lv_at hl 0 rfl) ?_
  refine lv_dup E.1 E.2.1 dX1_repeat_22 rfl ?_
  refine gX1_0 E hw mw_4_17 dX1_repeat_23 ?_
  refine lv_eqi (y := nI (N 6)) (rfl) ?_
  refine lv_iconst (v := nI 1) E.1 E.2.1 dX1_repeat_26 (by decide) ?_
  refine lv_addN E.1 E.2.1 dX1_repeat_27 ?_
  refine pX1_0 E hw mw_4_17 dX1_repeat_28 (fun H locs hw => ?_)
  replace hw := hw.rep h6 hp
  exact rV E hr hlk (HB.eq hw (rfl)) dX1_repeat_31
theorem YX1_remove : YV yX1_remove RX1 cX1_remove 3 none 1 := ⟨mw_9_6, mw_9_7, mw_2_9, mw_9_8, by decide +kernel⟩
set_option maxHeartbeats 4000000 in
set_option maxRecDepth 100000 in
theorem c_X1_remove (l : Launch) (G : GP) (a : Nat → Nat) (N : NS) (p : Nat) (hp : p < N 6) (h6 : N 6 ≤ 60) : MV l yX1_remove (.code yX1_remove cX1_remove 3 none :: GW) ({ frames := 1, cells := 0, slots := 0, locals := 18 }) [.ref (a 2), .int (nI (p))] G ES (sN G a (N)) (sN G a (mDrop p N)) := by
  refine MV.of (own := RX1) rfl rfl (Nat.le_of_ble_eq_true rfl) ?_
  intro pP eE sS mM below meth cC ls AA E hw hl hr hlk hE
  replace hl : lv_has ls 3 [(0, .ref (a 2)), (1, .int (nI (p)))] := hl
  refine lv_iload_n E.1 E.2.1 dX1_remove_0 rfl (lv_at hl 1 rfl) ?_
  refine lv_iconst (v := nI 1) E.1 E.2.1 dX1_remove_1 (by decide) ?_
  refine lv_addN E.1 E.2.1 dX1_remove_2 ?_
  refine lv_istore_n (lv' := [(2, .int (nI (p + 1))), (0, .ref (a 2)), (1, .int (nI (p)))]) E.1 E.2.1 dX1_remove_3 rfl hl (by decide) rfl (fun ls hl => ?_)
  refine lv_aload_n E.1 E.2.1 dX1_remove_4 rfl (lv_at hl 1 rfl) ?_
  refine gX1_2 E hw mw_2_22 dX1_remove_5 ?_
  refine lv_iload_n E.1 E.2.1 dX1_remove_8 rfl (lv_at hl 0 rfl) ?_
  refine lv_iconst (v := nI 4) E.1 E.2.1 dX1_remove_9 (by decide) ?_
  refine lv_mulN E.1 E.2.1 dX1_remove_10 ?_
  refine lv_aload_n E.1 E.2.1 dX1_remove_11 rfl (lv_at hl 1 rfl) ?_
  refine gX1_2 E hw mw_2_22 dX1_remove_12 ?_
  refine lv_iload_n E.1 E.2.1 dX1_remove_15 rfl (lv_at hl 2 rfl) ?_
  refine lv_iconst (v := nI 4) E.1 E.2.1 dX1_remove_16 (by decide) ?_
  refine lv_mulN E.1 E.2.1 dX1_remove_17 ?_
  refine lv_aload_n E.1 E.2.1 dX1_remove_18 rfl (lv_at hl 1 rfl) ?_
  refine gX1_0 E hw mw_4_17 dX1_remove_19 ?_
  refine lv_eqi (y := nI (N 6)) (rfl) ?_
  refine lv_iload_n E.1 E.2.1 dX1_remove_22 rfl (lv_at hl 0 rfl) ?_
  refine lv_subN E.1 E.2.1 (by omega) dX1_remove_23 ?_
  refine lv_iconst (v := nI 4) E.1 E.2.1 dX1_remove_24 (by decide) ?_
  refine lv_mulN E.1 E.2.1 dX1_remove_25 ?_
  refine cpI E hl hw mw_4_19 3 3 rfl rfl (by omega) (by omega) (by decide) (Nat.le_of_ble_eq_true rfl) (Nat.le_of_ble_eq_true rfl) dX1_remove_26 (fun H locs hw => ?_)
  replace hw : HB G AA sS.heap (sX G a (sI N) (va_up (sF N) 1 (va_cpy ((sF N) 1) ((sF N) 1) ((p + 1) * 4) (p * 4) ((N 6 - (p + 1)) * 4)))) H locs := hw
  refine lv_aload_n E.1 E.2.1 dX1_remove_29 rfl (lv_at hl 1 rfl) ?_
  refine lv_dup E.1 E.2.1 dX1_remove_30 rfl ?_
  refine gX1_0 E hw mw_4_17 dX1_remove_31 ?_
  refine lv_eqi (y := nI (N 6)) (rfl) ?_
  refine lv_iconst (v := nI 1) E.1 E.2.1 dX1_remove_34 (by decide) ?_
  refine lv_subN E.1 E.2.1 (by omega) dX1_remove_35 ?_
  refine pX1_0 E hw mw_4_17 dX1_remove_36 (fun H locs hw => ?_)
  replace hw := hw.rmv h6 hp
  exact rV E hr hlk (HB.eq hw (rfl)) dX1_remove_39
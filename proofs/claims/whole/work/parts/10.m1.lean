theorem YX4_in : YS yX4_in RX4 cX4_in 3 (some .boolean) 3 := ⟨mw_5_14, mw_1_5, mw_5_15, by decide +kernel⟩
set_option maxHeartbeats 4000000 in
set_option maxRecDepth 100000 in
theorem c_X4_in (l : Launch) (G : GP) (v lo hi : Int32) : MI l yX4_in (.code yX4_in cX4_in 3 (some .boolean) :: GW) ({ frames := 0, cells := 0, slots := 0, locals := 0 }) [.int (v), .int (lo), .int (hi)] G ES ([]) ([]) (zb (lo ≤ v ∧ v ≤ hi)) := by
  refine MI.of (own := RX4) rfl rfl (Nat.le_of_ble_eq_true rfl) ?_
  intro pP eE sS mM below meth cC ls AA E hw hl hr hlk hE
  replace hl : lv_has ls 3 [(0, .int (v)), (1, .int (lo)), (2, .int (hi))] := hl
  refine lv_iload_n E.1 E.2.1 dX4_in_0 rfl (lv_at hl 0 rfl) ?_
  refine lv_iload_n E.1 E.2.1 dX4_in_1 rfl (lv_at hl 1 rfl) ?_
  refine lv_icmp_lt (tgt := 14) E.1 E.2.1 dX4_in_2 (by decide) (fun c2 => ?_) (fun c2 => ?_)
  · skip
    refine lv_iconst (v := nI 0) E.1 E.2.1 dX4_in_14 (by decide) ?_
    exact rZ E hr hlk (HB.eq hw (rfl)) ((zb_f (fun z => Int32.not_lt.mpr z.1 c2)).symm) rfl dX4_in_15
  · skip
    refine lv_iload_n E.1 E.2.1 dX4_in_5 rfl (lv_at hl 0 rfl) ?_
    refine lv_iload_n E.1 E.2.1 dX4_in_6 rfl (lv_at hl 2 rfl) ?_
    refine lv_icmp_gt (tgt := 14) E.1 E.2.1 dX4_in_7 (by decide) (fun c7 => ?_) (fun c7 => ?_)
    · skip
      refine lv_iconst (v := nI 0) E.1 E.2.1 dX4_in_14 (by decide) ?_
      exact rZ E hr hlk (HB.eq hw (rfl)) ((zb_f (fun z => Int32.not_lt.mpr z.2 c7)).symm) rfl dX4_in_15
    · skip
      refine lv_iconst (v := nI 1) E.1 E.2.1 dX4_in_10 (by decide) ?_
      refine lv_goto (tgt := 15) E.1 E.2.1 dX4_in_11 (by decide) ?_
      exact rZ E hr hlk (HB.eq hw (rfl)) ((zb_t ⟨Int32.not_lt.mp c2, Int32.not_lt.mp c7⟩).symm) rfl dX4_in_15
theorem YX4_has : YS yX4_has RX4 cX4_has 2 (some .boolean) 2 := ⟨mw_8_4, mw_1_5, mw_8_5, by decide +kernel⟩
set_option maxHeartbeats 4000000 in
set_option maxRecDepth 100000 in
theorem c_X4_has (l : Launch) (G : GP) (S k : Nat) (hS : S < 2 ^ 31) (hk : k < 31) : MI l yX4_has (.code yX4_has cX4_has 2 (some .boolean) :: GW) ({ frames := 0, cells := 0, slots := 0, locals := 0 }) [.int (nI (S)), .int (nI (k))] G ES ([]) ([]) (zb (S.testBit k = true)) := by
  refine MI.of (own := RX4) rfl rfl (Nat.le_of_ble_eq_true rfl) ?_
  intro pP eE sS mM below meth cC ls AA E hw hl hr hlk hE
  replace hl : lv_has ls 2 [(0, .int (nI (S))), (1, .int (nI (k)))] := hl
  refine lv_iload_n E.1 E.2.1 dX4_has_0 rfl (lv_at hl 0 rfl) ?_
  refine lv_iload_n E.1 E.2.1 dX4_has_1 rfl (lv_at hl 1 rfl) ?_
  refine lv_ishr E.1 E.2.1 dX4_has_2 ?_
  refine lv_iconst (v := nI 1) E.1 E.2.1 dX4_has_3 (by decide) ?_
  refine lv_iand E.1 E.2.1 dX4_has_4 ?_
  refine lv_eqi (y := nI (if S.testBit k then 1 else 0)) (sh_bit hS hk) ?_
  refine lv_iconst (v := nI 1) E.1 E.2.1 dX4_has_5 (by decide) ?_
  refine lv_icmp_ne (tgt := 13) E.1 E.2.1 dX4_has_6 (by decide) (fun c6 => ?_) (fun c6 => ?_)
  · skip
    refine lv_iconst (v := nI 0) E.1 E.2.1 dX4_has_13 (by decide) ?_
    exact rZ E hr hlk (HB.eq hw (rfl)) ((zb_f (fun z => c6 (by rw [if_pos z]))).symm) rfl dX4_has_14
  · skip
    refine lv_iconst (v := nI 1) E.1 E.2.1 dX4_has_9 (by decide) ?_
    refine lv_goto (tgt := 14) E.1 E.2.1 dX4_has_10 (by decide) ?_
    exact rZ E hr hlk (HB.eq hw (rfl)) ((zb_t (by by_cases z : S.testBit k = true; exact z; rw [if_neg z] at c6; exact absurd c6 (by decide))).symm) rfl dX4_has_14
theorem YX4_of : YV yX4_of RX4 cX4_of 3 (some .int) 2 := ⟨mw_12_2, mw_12_3, mw_1_5, mw_12_4, by decide +kernel⟩
set_option maxHeartbeats 4000000 in
set_option maxRecDepth 100000 in
theorem c_X4_of (l : Launch) (G : GP) (a : Nat → Nat) (N : NS) (x : MX) (d k v : Nat) (h : 30 + 14 * d + k < 390) (hv : N (30 + 14 * d + k) = v) : MI l yX4_of (.code yX4_of cX4_of 3 (some .int) :: GW) ({ frames := 0, cells := 0, slots := 0, locals := 0 }) [.ref (a 0), .int (nI (d)), .int (nI (k))] G ES (mN G a (N) (x)) (mN G a (N) (x)) (nI v) := by
  refine MI.of (own := RX4) rfl rfl (Nat.le_of_ble_eq_true rfl) ?_
  intro pP eE sS mM below meth cC ls AA E hw hl hr hlk hE
  replace hl : lv_has ls 3 [(0, .ref (a 0)), (1, .int (nI (d))), (2, .int (nI (k)))] := hl
  refine lv_aload_n E.1 E.2.1 dX4_of_0 rfl (lv_at hl 0 rfl) ?_
  refine gX4_0 E hw mw_3_8 dX4_of_1 ?_
  refine lv_bipush (v := nI 30) E.1 E.2.1 dX4_of_4 (by decide) ?_
  refine lv_bipush (v := nI 14) E.1 E.2.1 dX4_of_6 (by decide) ?_
  refine lv_iload_n E.1 E.2.1 dX4_of_8 rfl (lv_at hl 1 rfl) ?_
  refine lv_mulN E.1 E.2.1 dX4_of_9 ?_
  refine lv_addN E.1 E.2.1 dX4_of_10 ?_
  refine lv_iload_n E.1 E.2.1 dX4_of_11 rfl (lv_at hl 2 rfl) ?_
  refine lv_addN E.1 E.2.1 dX4_of_12 ?_
  refine lN4_0 E hw (v := v) (by omega) (hv) dX4_of_13 ?_
  exact rI E hr hlk (HB.eq hw (rfl)) (rfl) dX4_of_14
theorem YX4_book : YV yX4_book RX4 cX4_book 4 none 3 := ⟨mw_7_20, mw_7_21, mw_1_5, mw_7_22, by decide +kernel⟩
set_option maxHeartbeats 4000000 in
set_option maxRecDepth 100000 in
theorem c_X4_book (l : Launch) (G : GP) (a : Nat → Nat) (N : NS) (x : MX) (d k v : Nat) (h : 30 + 14 * d + k < 390) : MV l yX4_book (.code yX4_book cX4_book 4 none :: GW) ({ frames := 0, cells := 0, slots := 0, locals := 0 }) [.ref (a 0), .int (nI (d)), .int (nI (k)), .int (nI (v))] G ES (mN G a (N) (x)) (mN G a (un N (30 + 14 * d + k) v) (x)) := by
  refine MV.of (own := RX4) rfl rfl (Nat.le_of_ble_eq_true rfl) ?_
  intro pP eE sS mM below meth cC ls AA E hw hl hr hlk hE
  replace hl : lv_has ls 4 [(0, .ref (a 0)), (1, .int (nI (d))), (2, .int (nI (k))), (3, .int (nI (v)))] := hl
  refine lv_aload_n E.1 E.2.1 dX4_book_0 rfl (lv_at hl 0 rfl) ?_
  refine gX4_0 E hw mw_3_8 dX4_book_1 ?_
  refine lv_bipush (v := nI 30) E.1 E.2.1 dX4_book_4 (by decide) ?_
  refine lv_bipush (v := nI 14) E.1 E.2.1 dX4_book_6 (by decide) ?_
  refine lv_iload_n E.1 E.2.1 dX4_book_8 rfl (lv_at hl 1 rfl) ?_
  refine lv_mulN E.1 E.2.1 dX4_book_9 ?_
  refine lv_addN E.1 E.2.1 dX4_book_10 ?_
  refine lv_iload_n E.1 E.2.1 dX4_book_11 rfl (lv_at hl 2 rfl) ?_
  refine lv_addN E.1 E.2.1 dX4_book_12 ?_
  refine lv_iload_n E.1 E.2.1 dX4_book_13 rfl (lv_at hl 3 rfl) ?_
  refine sN4_0 E hw (by omega) dX4_book_14 (fun H locs hw => ?_)
  exact rV E hr hlk (HB.eq hw (rfl)) dX4_book_15
theorem YX4_isPart : YV yX4_isPart RX4 cX4_isPart 3 (some .boolean) 2 := ⟨mw_15_8, mw_15_9, mw_1_5, mw_15_10, by decide +kernel⟩
set_option maxHeartbeats 4000000 in
set_option maxRecDepth 100000 in
theorem c_X4_isPart (l : Launch) (G : GP) (a : Nat → Nat) (N : NS) (x : MX) (d c v : Nat) (h : d < 8) (hc : c < 4) (hv : N (30 + 14 * d + 0) = v) (hS : v < 16) : MI l yX4_isPart (.code yX4_isPart cX4_isPart 3 (some .boolean) :: GW) ({ frames := 1, cells := 0, slots := 0, locals := 22 }) [.ref (a 0), .int (nI (d)), .int (nI (c))] G ES (mN G a (N) (x)) (mN G a (N) (x)) (zb (v.testBit c = true)) := by
  refine MI.of (own := RX4) rfl rfl (Nat.le_of_ble_eq_true rfl) ?_
  intro pP eE sS mM below meth cC ls AA E hw hl hr hlk hE
  replace hl : lv_has ls 3 [(0, .ref (a 0)), (1, .int (nI (d))), (2, .int (nI (c)))] := hl
  refine lv_aload_n E.1 E.2.1 dX4_isPart_0 rfl (lv_at hl 0 rfl) ?_
  refine lv_iload_n E.1 E.2.1 dX4_isPart_1 rfl (lv_at hl 1 rfl) ?_
  refine lv_iconst (v := nI 0) E.1 E.2.1 dX4_isPart_2 (by decide) ?_
  refine callVI E (c_X4_of l G a (N) (x) d 0 (v) (by omega) (hv)) mw_12_1 YX4_of ⟨rfl, rfl⟩ ⟨Nat.le_of_ble_eq_true rfl, Nat.le_of_ble_eq_true rfl⟩ ⟨Nat.zero_le _, Nat.zero_le _⟩ hw 0 rfl rfl rfl hl rfl (Nat.le_of_ble_eq_true rfl) dX4_isPart_3 (fun H locs hw => ?_)
  refine lv_iload_n E.1 E.2.1 dX4_isPart_6 rfl (lv_at hl 2 rfl) ?_
  refine callSI E (c_X4_has l G v c (by omega) (by omega)) mw_8_3 YX4_has ⟨rfl, rfl⟩ ⟨Nat.le_of_ble_eq_true rfl, Nat.le_of_ble_eq_true rfl⟩ ⟨Nat.zero_le _, Nat.zero_le _⟩ hw (w := []) (w' := []) (rr := mN G a (N) (x)) (big' := mN G a (N) (x)) (List.Perm.refl _) (List.Perm.refl _) rfl hl rfl (Nat.le_of_ble_eq_true rfl) dX4_isPart_7 (fun H locs hw => ?_)
  exact rZ E hr hlk (HB.eq hw (rfl)) (rfl) (zb_nar _) dX4_isPart_10
theorem YX4_isIll : YV yX4_isIll RX4 cX4_isIll 2 (some .boolean) 1 := ⟨mw_7_16, mw_7_17, mw_1_5, mw_7_18, by decide +kernel⟩
set_option maxHeartbeats 4000000 in
set_option maxRecDepth 100000 in
theorem c_X4_isIll (l : Launch) (G : GP) (a : Nat → Nat) (N : NS) (x : MX) (k v : Nat) (h : k < 5) (hv : N (10 + k) = v) (hv2 : v < 2 ^ 31) : MI l yX4_isIll (.code yX4_isIll cX4_isIll 2 (some .boolean) :: GW) ({ frames := 0, cells := 0, slots := 0, locals := 0 }) [.ref (a 0), .int (nI (k))] G ES (mN G a (N) (x)) (mN G a (N) (x)) (zb (v = 1)) := by
  refine MI.of (own := RX4) rfl rfl (Nat.le_of_ble_eq_true rfl) ?_
  intro pP eE sS mM below meth cC ls AA E hw hl hr hlk hE
  replace hl : lv_has ls 2 [(0, .ref (a 0)), (1, .int (nI (k)))] := hl
  refine lv_aload_n E.1 E.2.1 dX4_isIll_0 rfl (lv_at hl 0 rfl) ?_
  refine gX4_0 E hw mw_3_8 dX4_isIll_1 ?_
  refine lv_bipush (v := nI 10) E.1 E.2.1 dX4_isIll_4 (by decide) ?_
  refine lv_iload_n E.1 E.2.1 dX4_isIll_6 rfl (lv_at hl 1 rfl) ?_
  refine lv_addN E.1 E.2.1 dX4_isIll_7 ?_
  refine lN4_0 E hw (v := v) (by omega) (hv) dX4_isIll_8 ?_
  refine lv_iconst (v := nI 1) E.1 E.2.1 dX4_isIll_9 (by decide) ?_
  refine lv_icmp_neN (tgt := 17) E.1 E.2.1 (by omega) (by omega) dX4_isIll_10 (by decide) (fun c10 => ?_) (fun c10 => ?_)
  · skip
    refine lv_iconst (v := nI 0) E.1 E.2.1 dX4_isIll_17 (by decide) ?_
    exact rZ E hr hlk (HB.eq hw (rfl)) ((zb_f c10).symm) rfl dX4_isIll_18
  · skip
    refine lv_iconst (v := nI 1) E.1 E.2.1 dX4_isIll_13 (by decide) ?_
    refine lv_goto (tgt := 18) E.1 E.2.1 dX4_isIll_14 (by decide) ?_
    exact rZ E hr hlk (HB.eq hw (rfl)) ((zb_t c10).symm) rfl dX4_isIll_18
theorem YX4_send : YV yX4_send RX4 cX4_send 6 none 4 := ⟨mw_8_7, mw_8_8, mw_1_5, mw_8_9, by decide +kernel⟩
set_option maxHeartbeats 4000000 in
set_option maxRecDepth 100000 in
theorem c_X4_send (l : Launch) (G : GP) (a : Nat → Nat) (N : NS) (x : MX) (k d f t : Nat) (hf : f < 5) (h6 : N 6 ≤ 60) : MV l yX4_send (.code yX4_send cX4_send 6 none :: GW) ({ frames := 0, cells := 0, slots := 0, locals := 0 }) [.ref (a 0), .int (nI (k)), .int (nI (d)), .int (nI (f)), .int (nI (t))] G ES (mN G a (N) (x)) (mN G a (mSend k d f t N) (x)) := by
  refine MV.of (own := RX4) rfl rfl (Nat.le_of_ble_eq_true rfl) ?_
  intro pP eE sS mM below meth cC ls AA E hw hl hr hlk hE
  replace hl : lv_has ls 6 [(0, .ref (a 0)), (1, .int (nI (k))), (2, .int (nI (d))), (3, .int (nI (f))), (4, .int (nI (t)))] := hl
  refine lv_aload_n E.1 E.2.1 dX4_send_0 rfl (lv_at hl 0 rfl) ?_
  refine gX4_0 E hw mw_3_8 dX4_send_1 ?_
  refine lv_bipush (v := nI 25) E.1 E.2.1 dX4_send_4 (by decide) ?_
  refine lv_iload_n E.1 E.2.1 dX4_send_6 rfl (lv_at hl 3 rfl) ?_
  refine lv_addN E.1 E.2.1 dX4_send_7 ?_
  refine lv_dup2_11 E.1 E.2.1 dX4_send_8 rfl rfl ?_
  refine lN4_0 E hw (v := N (25 + f)) (by omega) (rfl) dX4_send_9 ?_
  refine lv_iconst (v := nI 1) E.1 E.2.1 dX4_send_10 (by decide) ?_
  refine lv_addN E.1 E.2.1 dX4_send_11 ?_
  refine sN4_0 E hw (by omega) dX4_send_12 (fun H locs hw => ?_)
  refine lv_aload_n E.1 E.2.1 dX4_send_13 rfl (lv_at hl 0 rfl) ?_
  refine gX4_0 E hw mw_3_8 dX4_send_14 ?_
  refine lv_bipush (v := nI 6) E.1 E.2.1 dX4_send_17 (by decide) ?_
  refine lN4_0 E hw (v := N 6) (by omega) (by rw [un_n (by omega)]) dX4_send_19 ?_
  refine lv_bipush (v := nI 60) E.1 E.2.1 dX4_send_20 (by decide) ?_
  refine lv_icmp_neN (tgt := 37) E.1 E.2.1 (by omega) (by omega) dX4_send_22 (by decide) (fun c22 => ?_) (fun c22 => ?_)
  · skip
    refine lv_sipush (v := nI 150) E.1 E.2.1 dX4_send_37 (by decide) ?_
    refine lv_iconst (v := nI 4) E.1 E.2.1 dX4_send_40 (by decide) ?_
    refine lv_aload_n E.1 E.2.1 dX4_send_41 rfl (lv_at hl 0 rfl) ?_
    refine gX4_0 E hw mw_3_8 dX4_send_42 ?_
    refine lv_bipush (v := nI 6) E.1 E.2.1 dX4_send_45 (by decide) ?_
    refine lN4_0 E hw (v := N 6) (by omega) (by rw [un_n (by omega)]) dX4_send_47 ?_
    refine lv_mulN E.1 E.2.1 dX4_send_48 ?_
    refine lv_addN E.1 E.2.1 dX4_send_49 ?_
    refine lv_istore (lv' := [(5, .int (nI (150 + 4 * (N 6)))), (0, .ref (a 0)), (1, .int (nI (k))), (2, .int (nI (d))), (3, .int (nI (f))), (4, .int (nI (t)))]) E.1 E.2.1 dX4_send_50 hl (by decide) rfl (fun ls hl => ?_)
    refine lv_aload_n E.1 E.2.1 dX4_send_52 rfl (lv_at hl 1 rfl) ?_
    refine gX4_0 E hw mw_3_8 dX4_send_53 ?_
    refine lv_iload E.1 E.2.1 dX4_send_56 (lv_at hl 0 rfl) ?_
    refine lv_iload_n E.1 E.2.1 dX4_send_58 rfl (lv_at hl 2 rfl) ?_
    refine sN4_0 E hw (by omega) dX4_send_59 (fun H locs hw => ?_)
    refine lv_aload_n E.1 E.2.1 dX4_send_60 rfl (lv_at hl 1 rfl) ?_
    refine gX4_0 E hw mw_3_8 dX4_send_61 ?_
    refine lv_iload E.1 E.2.1 dX4_send_64 (lv_at hl 0 rfl) ?_
    refine lv_iconst (v := nI 1) E.1 E.2.1 dX4_send_66 (by decide) ?_
    refine lv_addN E.1 E.2.1 dX4_send_67 ?_
    refine lv_iload_n E.1 E.2.1 dX4_send_68 rfl (lv_at hl 3 rfl) ?_
    refine sN4_0 E hw (by omega) dX4_send_69 (fun H locs hw => ?_)
    refine lv_aload_n E.1 E.2.1 dX4_send_70 rfl (lv_at hl 1 rfl) ?_
    refine gX4_0 E hw mw_3_8 dX4_send_71 ?_
    refine lv_iload E.1 E.2.1 dX4_send_74 (lv_at hl 0 rfl) ?_
    refine lv_iconst (v := nI 2) E.1 E.2.1 dX4_send_76 (by decide) ?_
    refine lv_addN E.1 E.2.1 dX4_send_77 ?_
    refine lv_iload_n E.1 E.2.1 dX4_send_78 rfl (lv_at hl 4 rfl) ?_
    refine sN4_0 E hw (by omega) dX4_send_79 (fun H locs hw => ?_)
    refine lv_aload_n E.1 E.2.1 dX4_send_80 rfl (lv_at hl 1 rfl) ?_
    refine gX4_0 E hw mw_3_8 dX4_send_81 ?_
    refine lv_iload E.1 E.2.1 dX4_send_84 (lv_at hl 0 rfl) ?_
    refine lv_iconst (v := nI 3) E.1 E.2.1 dX4_send_86 (by decide) ?_
    refine lv_addN E.1 E.2.1 dX4_send_87 ?_
    refine lv_iload E.1 E.2.1 dX4_send_88 (lv_at hl 5 rfl) ?_
    refine sN4_0 E hw (by omega) dX4_send_90 (fun H locs hw => ?_)
    refine lv_aload_n E.1 E.2.1 dX4_send_91 rfl (lv_at hl 1 rfl) ?_
    refine gX4_0 E hw mw_3_8 dX4_send_92 ?_
    refine lv_bipush (v := nI 6) E.1 E.2.1 dX4_send_95 (by decide) ?_
    refine lv_dup2_11 E.1 E.2.1 dX4_send_97 rfl rfl ?_
    refine lN4_0 E hw (v := N 6) (by omega) (by rw [un_n (by omega), un_n (by omega), un_n (by omega), un_n (by omega), un_n (by omega)]) dX4_send_98 ?_
    refine lv_iconst (v := nI 1) E.1 E.2.1 dX4_send_99 (by decide) ?_
    refine lv_addN E.1 E.2.1 dX4_send_100 ?_
    refine sN4_0 E hw (by omega) dX4_send_101 (fun H locs hw => ?_)
    exact rV E hr hlk (HB.eq hw (by rw [mSend, if_neg c22])) dX4_send_102
  · skip
    refine lv_aload_n E.1 E.2.1 dX4_send_25 rfl (lv_at hl 0 rfl) ?_
    refine gX4_0 E hw mw_3_8 dX4_send_26 ?_
    refine lv_bipush (v := nI 8) E.1 E.2.1 dX4_send_29 (by decide) ?_
    refine lv_dup2_11 E.1 E.2.1 dX4_send_31 rfl rfl ?_
    refine lN4_0 E hw (v := N 8) (by omega) (by rw [un_n (by omega)]) dX4_send_32 ?_
    refine lv_iconst (v := nI 1) E.1 E.2.1 dX4_send_33 (by decide) ?_
    refine lv_addN E.1 E.2.1 dX4_send_34 ?_
    refine sN4_0 E hw (by omega) dX4_send_35 (fun H locs hw => ?_)
    exact rV E hr hlk (HB.eq hw (by rw [mSend, if_pos c22])) dX4_send_36
theorem YX4_sendAll : YV yX4_sendAll RX4 cX4_sendAll 6 none 4 := ⟨mw_8_0, mw_8_1, mw_1_5, mw_8_2, by decide +kernel⟩
set_option maxHeartbeats 4000000 in
set_option maxRecDepth 100000 in
theorem c_X4_sendAll (l : Launch) (G : GP) (a : Nat → Nat) (N : NS) (x : MX) (k d f S : Nat) (hf : f < 5) (hS : S < 16) (h6 : N 6 ≤ 60) : MV l yX4_sendAll (.code yX4_sendAll cX4_sendAll 6 none :: GW) ({ frames := 1, cells := 0, slots := 0, locals := 25 }) [.ref (a 0), .int (nI (k)), .int (nI (d)), .int (nI (f)), .int (nI (S))] G ES (mN G a (N) (x)) (mN G a (sa k d f S 4 N) (x)) := by
  refine MV.of (own := RX4) rfl rfl (Nat.le_of_ble_eq_true rfl) ?_
  intro pP eE sS mM below meth cC ls AA E hw hl hr hlk hE
  replace hl : lv_has ls 6 [(0, .ref (a 0)), (1, .int (nI (k))), (2, .int (nI (d))), (3, .int (nI (f))), (4, .int (nI (S)))] := hl
  refine lv_iconst (v := nI 0) E.1 E.2.1 dX4_sendAll_0 (by decide) ?_
  refine lv_istore (lv' := [(5, .int (nI (0))), (0, .ref (a 0)), (1, .int (nI (k))), (2, .int (nI (d))), (3, .int (nI (f))), (4, .int (nI (S)))]) E.1 E.2.1 dX4_sendAll_1 hl (by decide) rfl (fun ls hl => ?_)
  refine W_ind1 (nL := 6) (P := fun c => c ≤ 4) (μ := fun c => 4 - c) (I := fun c => mN G a (sa k d f S c N) (x)) (L := fun c => [(0, .ref (a 0)), (1, .int (nI (k))), (2, .int (nI (d))), (3, .int (nI (f))), (4, .int (nI (S))), (5, .int (nI (c)))]) ?_ (0) (Nat.zero_le _) (HB.eq hw (rfl)) (lvh_eq (l := [(0, .ref (a 0)), (1, .int (nI (k))), (2, .int (nI (d))), (3, .int (nI (f))), (4, .int (nI (S))), (5, .int (nI (0)))]) (lv_sub hl [1, 2, 3, 4, 5, 0] rfl) (rfl))
  intro c hP ih H locs ls hw hl
  replace hw : HB G AA sS.heap (mN G a (sa k d f S c N) (x)) H locs := hw
  replace hl : lv_has ls 6 [(0, .ref (a 0)), (1, .int (nI (k))), (2, .int (nI (d))), (3, .int (nI (f))), (4, .int (nI (S))), (5, .int (nI (c)))] := hl
  refine lv_iload E.1 E.2.1 dX4_sendAll_3 (lv_at hl 5 rfl) ?_
  refine lv_iconst (v := nI 4) E.1 E.2.1 dX4_sendAll_5 (by decide) ?_
  refine lv_icmp_geN (tgt := 34) E.1 E.2.1 (by omega) (by omega) dX4_sendAll_6 (by decide) (fun c6 => ?_) (fun c6 => ?_)
  · skip
    exact rV E hr hlk (HB.eq hw (by rw [show c = 4 by omega])) dX4_sendAll_34
  · skip
    refine lv_iload E.1 E.2.1 dX4_sendAll_9 (lv_at hl 4 rfl) ?_
    refine lv_iload E.1 E.2.1 dX4_sendAll_11 (lv_at hl 5 rfl) ?_
    refine callSI E (c_X4_has l G S c (by omega) (by omega)) mw_8_3 YX4_has ⟨rfl, rfl⟩ ⟨Nat.le_of_ble_eq_true rfl, Nat.le_of_ble_eq_true rfl⟩ ⟨Nat.zero_le _, Nat.zero_le _⟩ hw (w := []) (w' := []) (rr := mN G a (sa k d f S c N) (x)) (big' := mN G a (sa k d f S c N) (x)) (List.Perm.refl _) (List.Perm.refl _) rfl hl rfl (Nat.le_of_ble_eq_true rfl) dX4_sendAll_13 (fun H locs hw => ?_)
    refine lv_if_eqB (tgt := 28) E.1 E.2.1 dX4_sendAll_16 (by decide) (fun c16 => ?_) (fun c16 => ?_)
    · skip
      refine lv_iincN (k := 5) (lv' := [(5, .int (nI (c + 1))), (0, .ref (a 0)), (1, .int (nI (k))), (2, .int (nI (d))), (3, .int (nI (f))), (4, .int (nI (S)))]) E.1 E.2.1 dX4_sendAll_28 hl rfl (by decide) rfl (fun ls hl => ?_)
      refine lv_goto (tgt := 3) E.1 E.2.1 dX4_sendAll_31 (by decide) ?_
      exact ih (c + 1) (by omega) (by omega) _ _ _ (HB.eq hw (by rw [sa, if_neg c16])) (lvh_eq (l := [(0, .ref (a 0)), (1, .int (nI (k))), (2, .int (nI (d))), (3, .int (nI (f))), (4, .int (nI (S))), (5, .int (nI (c + 1)))]) (lv_sub hl [1, 2, 3, 4, 5, 0] rfl) (rfl))
    · skip
      refine lv_aload_n E.1 E.2.1 dX4_sendAll_19 rfl (lv_at hl 0 rfl) ?_
      refine lv_iload_n E.1 E.2.1 dX4_sendAll_20 rfl (lv_at hl 1 rfl) ?_
      refine lv_iload_n E.1 E.2.1 dX4_sendAll_21 rfl (lv_at hl 2 rfl) ?_
      refine lv_iload_n E.1 E.2.1 dX4_sendAll_22 rfl (lv_at hl 3 rfl) ?_
      refine lv_iload E.1 E.2.1 dX4_sendAll_23 (lv_at hl 5 rfl) ?_
      refine callVV E (c_X4_send l G a (sa k d f S c N) (x) k d f c (by omega) (sa_6 hf h6 _)) mw_8_6 YX4_send ⟨rfl, rfl⟩ ⟨Nat.le_of_ble_eq_true rfl, Nat.le_of_ble_eq_true rfl⟩ ⟨Nat.zero_le _, Nat.zero_le _⟩ hw 0 rfl rfl rfl hl rfl (Nat.le_of_ble_eq_true rfl) dX4_sendAll_25 (fun H locs hw => ?_)
      refine lv_iincN (k := 5) (lv' := [(5, .int (nI (c + 1))), (0, .ref (a 0)), (1, .int (nI (k))), (2, .int (nI (d))), (3, .int (nI (f))), (4, .int (nI (S)))]) E.1 E.2.1 dX4_sendAll_28 hl rfl (by decide) rfl (fun ls hl => ?_)
      refine lv_goto (tgt := 3) E.1 E.2.1 dX4_sendAll_31 (by decide) ?_
      exact ih (c + 1) (by omega) (by omega) _ _ _ (HB.eq hw (by rw [sa, if_pos c16])) (lvh_eq (l := [(0, .ref (a 0)), (1, .int (nI (k))), (2, .int (nI (d))), (3, .int (nI (f))), (4, .int (nI (S))), (5, .int (nI (c + 1)))]) (lv_sub hl [1, 2, 3, 4, 5, 0] rfl) (rfl))
theorem YX4_drop : YV yX4_drop RX4 cX4_drop 3 none 1 := ⟨mw_11_18, mw_11_19, mw_1_5, mw_11_20, by decide +kernel⟩
set_option maxHeartbeats 4000000 in
set_option maxRecDepth 100000 in
theorem c_X4_drop (l : Launch) (G : GP) (a : Nat → Nat) (N : NS) (x : MX) (p : Nat) (hp : p < N 6) (h6 : N 6 ≤ 60) : MV l yX4_drop (.code yX4_drop cX4_drop 3 none :: GW) ({ frames := 0, cells := 0, slots := 0, locals := 0 }) [.ref (a 0), .int (nI (p))] G ES (mN G a (N) (x)) (mN G a (mDrop p N) (x)) := by
  refine MV.of (own := RX4) rfl rfl (Nat.le_of_ble_eq_true rfl) ?_
  intro pP eE sS mM below meth cC ls AA E hw hl hr hlk hE
  replace hl : lv_has ls 3 [(0, .ref (a 0)), (1, .int (nI (p)))] := hl
  refine lv_aload_n E.1 E.2.1 dX4_drop_0 rfl (lv_at hl 0 rfl) ?_
  refine gX4_0 E hw mw_3_8 dX4_drop_1 ?_
  refine lv_bipush (v := nI 6) E.1 E.2.1 dX4_drop_4 (by decide) ?_
  refine lv_dup2_11 E.1 E.2.1 dX4_drop_6 rfl rfl ?_
  refine lN4_0 E hw (v := N 6) (by omega) (rfl) dX4_drop_7 ?_
  refine lv_iconst (v := nI 1) E.1 E.2.1 dX4_drop_8 (by decide) ?_
  refine lv_subN E.1 E.2.1 (by omega) dX4_drop_9 ?_
  refine sN4_0 E hw (by omega) dX4_drop_10 (fun H locs hw => ?_)
  replace hw : HB G AA sS.heap (mN G a (mDropTo p N (150 + 4 * p)) (x)) H locs := HB.eq hw (by rw [mDropTo_0])
  refine lv_sipush (v := nI 150) E.1 E.2.1 dX4_drop_11 (by decide) ?_
  refine lv_iconst (v := nI 4) E.1 E.2.1 dX4_drop_14 (by decide) ?_
  refine lv_iload_n E.1 E.2.1 dX4_drop_15 rfl (lv_at hl 1 rfl) ?_
  refine lv_mulN E.1 E.2.1 dX4_drop_16 ?_
  refine lv_addN E.1 E.2.1 dX4_drop_17 ?_
  refine lv_istore_n (lv' := [(2, .int (nI (150 + 4 * p))), (0, .ref (a 0)), (1, .int (nI (p)))]) E.1 E.2.1 dX4_drop_18 rfl hl (by decide) rfl (fun ls hl => ?_)
  refine W_ind1 (nL := 3) (P := fun q => 150 + 4 * p ≤ q ∧ q ≤ 150 + 4 * (N 6 - 1)) (μ := fun q => 150 + 4 * (N 6 - 1) - q) (I := fun q => mN G a (mDropTo p N q) (x)) (L := fun q => [(0, .ref (a 0)), (1, .int (nI (p))), (2, .int (nI (q)))]) ?_ (150 + 4 * p) (⟨Nat.le_refl _, by omega⟩) (HB.eq hw (rfl)) (lvh_eq (l := [(0, .ref (a 0)), (1, .int (nI (p))), (2, .int (nI (150 + 4 * p)))]) (lv_sub hl [1, 2, 0] rfl) (rfl))
  intro q hP ih H locs ls hw hl
  replace hw : HB G AA sS.heap (mN G a (mDropTo p N q) (x)) H locs := hw
  replace hl : lv_has ls 3 [(0, .ref (a 0)), (1, .int (nI (p))), (2, .int (nI (q)))] := hl
  refine lv_iload_n E.1 E.2.1 dX4_drop_19 rfl (lv_at hl 2 rfl) ?_
  refine lv_sipush (v := nI 150) E.1 E.2.1 dX4_drop_20 (by decide) ?_
  refine lv_iconst (v := nI 4) E.1 E.2.1 dX4_drop_23 (by decide) ?_
  refine lv_aload_n E.1 E.2.1 dX4_drop_24 rfl (lv_at hl 0 rfl) ?_
  refine gX4_0 E hw mw_3_8 dX4_drop_25 ?_
  refine lv_bipush (v := nI 6) E.1 E.2.1 dX4_drop_28 (by decide) ?_
  refine lN4_0 E hw (v := N 6 - 1) (by omega) (mDropTo_6) dX4_drop_30 ?_
  refine lv_mulN E.1 E.2.1 dX4_drop_31 ?_
  refine lv_addN E.1 E.2.1 dX4_drop_32 ?_
  refine lv_icmp_geN (tgt := 56) E.1 E.2.1 (by omega) (by omega) dX4_drop_33 (by decide) (fun c33 => ?_) (fun c33 => ?_)
  · skip
    exact rV E hr hlk (HB.eq hw (by rw [mDrop, show q = 150 + 4 * (N 6 - 1) by omega])) dX4_drop_56
  · skip
    refine lv_aload_n E.1 E.2.1 dX4_drop_36 rfl (lv_at hl 0 rfl) ?_
    refine gX4_0 E hw mw_3_8 dX4_drop_37 ?_
    refine lv_iload_n E.1 E.2.1 dX4_drop_40 rfl (lv_at hl 2 rfl) ?_
    refine lv_aload_n E.1 E.2.1 dX4_drop_41 rfl (lv_at hl 0 rfl) ?_
    refine gX4_0 E hw mw_3_8 dX4_drop_42 ?_
    refine lv_iload_n E.1 E.2.1 dX4_drop_45 rfl (lv_at hl 2 rfl) ?_
    refine lv_iconst (v := nI 4) E.1 E.2.1 dX4_drop_46 (by decide) ?_
    refine lv_addN E.1 E.2.1 dX4_drop_47 ?_
    refine lN4_0 E hw (v := N (q + 4)) (by omega) (mDropTo_hi (by omega) (by omega)) dX4_drop_48 ?_
    refine sN4_0 E hw (by omega) dX4_drop_49 (fun H locs hw => ?_)
    refine lv_iincN (k := 2) (lv' := [(2, .int (nI (q + 1))), (0, .ref (a 0)), (1, .int (nI (p)))]) E.1 E.2.1 dX4_drop_50 hl rfl (by decide) rfl (fun ls hl => ?_)
    refine lv_goto (tgt := 19) E.1 E.2.1 dX4_drop_53 (by decide) ?_
    exact ih (q + 1) (by omega) (by omega) _ _ _ (HB.eq hw (by rw [mDropTo_s hP.1])) (lvh_eq (l := [(0, .ref (a 0)), (1, .int (nI (p))), (2, .int (nI (q + 1)))]) (lv_sub hl [1, 2, 0] rfl) (rfl))
theorem YX4_answer : YV yX4_answer RX4 cX4_answer 4 none 2 := ⟨mw_12_6, mw_12_7, mw_1_5, mw_12_8, by decide +kernel⟩
set_option maxHeartbeats 4000000 in
set_option maxRecDepth 100000 in
theorem c_X4_answer (l : Launch) (G : GP) (a : Nat → Nat) (N : NS) (x : MX) (d c : Nat) (hd : d < 8) (h1 : N (30 + 14 * d + 1) < 4) (h6 : N 6 ≤ 60) : MV l yX4_answer (.code yX4_answer cX4_answer 4 none :: GW) ({ frames := 1, cells := 0, slots := 0, locals := 25 }) [.ref (a 0), .int (nI (d)), .int (nI (c))] G ES (mN G a (N) (x)) (mN G a (mAns d c N) (x)) := by
  refine MV.of (own := RX4) rfl rfl (Nat.le_of_ble_eq_true rfl) ?_
  intro pP eE sS mM below meth cC ls AA E hw hl hr hlk hE
  replace hl : lv_has ls 4 [(0, .ref (a 0)), (1, .int (nI (d))), (2, .int (nI (c)))] := hl
  refine lv_aload_n E.1 E.2.1 dX4_answer_0 rfl (lv_at hl 0 rfl) ?_
  refine lv_iload_n E.1 E.2.1 dX4_answer_1 rfl (lv_at hl 1 rfl) ?_
  refine lv_iconst (v := nI 1) E.1 E.2.1 dX4_answer_2 (by decide) ?_
  refine callVI E (c_X4_of l G a (N) (x) d 1 (N (30 + 14 * d + 1)) (by omega) (rfl)) mw_12_1 YX4_of ⟨rfl, rfl⟩ ⟨Nat.le_of_ble_eq_true rfl, Nat.le_of_ble_eq_true rfl⟩ ⟨Nat.zero_le _, Nat.zero_le _⟩ hw 0 rfl rfl rfl hl rfl (Nat.le_of_ble_eq_true rfl) dX4_answer_3 (fun H locs hw => ?_)
  refine lv_istore_n (lv' := [(3, .int (nI (N (30 + 14 * d + 1)))), (0, .ref (a 0)), (1, .int (nI (d))), (2, .int (nI (c)))]) E.1 E.2.1 dX4_answer_6 rfl hl (by decide) rfl (fun ls hl => ?_)
  refine lv_iload_n E.1 E.2.1 dX4_answer_7 rfl (lv_at hl 0 rfl) ?_
  refine lv_iconst (v := nI 1) E.1 E.2.1 dX4_answer_8 (by decide) ?_
  refine lv_icmp_eqN (tgt := 17) E.1 E.2.1 (by omega) (by omega) dX4_answer_9 (by decide) (fun c9 => ?_) (fun c9 => ?_)
  · skip
    refine lv_aload_n E.1 E.2.1 dX4_answer_17 rfl (lv_at hl 1 rfl) ?_
    refine lv_iconst (v := nI 3) E.1 E.2.1 dX4_answer_18 (by decide) ?_
    refine lv_iload_n E.1 E.2.1 dX4_answer_19 rfl (lv_at hl 2 rfl) ?_
    refine lv_iconst (v := nI 4) E.1 E.2.1 dX4_answer_20 (by decide) ?_
    refine lv_iload_n E.1 E.2.1 dX4_answer_21 rfl (lv_at hl 3 rfl) ?_
    refine callVV E (c_X4_send l G a (N) (x) 3 d 4 c (by omega) (by omega)) mw_8_6 YX4_send ⟨rfl, rfl⟩ ⟨Nat.le_of_ble_eq_true rfl, Nat.le_of_ble_eq_true rfl⟩ ⟨Nat.zero_le _, Nat.zero_le _⟩ hw 0 rfl rfl rfl hl rfl (Nat.le_of_ble_eq_true rfl) dX4_answer_22 (fun H locs hw => ?_)
    refine lv_goto (tgt := 41) E.1 E.2.1 dX4_answer_25 (by decide) ?_
    exact rV E hr hlk (HB.eq hw (by rw [mAns, if_pos (by omega)])) dX4_answer_41
  · skip
    refine lv_iload_n E.1 E.2.1 dX4_answer_12 rfl (lv_at hl 0 rfl) ?_
    refine lv_iconst (v := nI 3) E.1 E.2.1 dX4_answer_13 (by decide) ?_
    refine lv_icmp_neN (tgt := 28) E.1 E.2.1 (by omega) (by omega) dX4_answer_14 (by decide) (fun c14 => ?_) (fun c14 => ?_)
    · skip
      refine lv_iload_n E.1 E.2.1 dX4_answer_28 rfl (lv_at hl 0 rfl) ?_
      refine lv_iconst (v := nI 2) E.1 E.2.1 dX4_answer_29 (by decide) ?_
      refine lv_icmp_neN (tgt := 41) E.1 E.2.1 (by omega) (by omega) dX4_answer_30 (by decide) (fun c30 => ?_) (fun c30 => ?_)
      · skip
        exact rV E hr hlk (HB.eq hw (by rw [mAns, if_neg (by omega), if_neg (by omega)])) dX4_answer_41
      · skip
        refine lv_aload_n E.1 E.2.1 dX4_answer_33 rfl (lv_at hl 1 rfl) ?_
        refine lv_iconst (v := nI 4) E.1 E.2.1 dX4_answer_34 (by decide) ?_
        refine lv_iload_n E.1 E.2.1 dX4_answer_35 rfl (lv_at hl 2 rfl) ?_
        refine lv_iconst (v := nI 4) E.1 E.2.1 dX4_answer_36 (by decide) ?_
        refine lv_iload_n E.1 E.2.1 dX4_answer_37 rfl (lv_at hl 3 rfl) ?_
        refine callVV E (c_X4_send l G a (N) (x) 4 d 4 c (by omega) (by omega)) mw_8_6 YX4_send ⟨rfl, rfl⟩ ⟨Nat.le_of_ble_eq_true rfl, Nat.le_of_ble_eq_true rfl⟩ ⟨Nat.zero_le _, Nat.zero_le _⟩ hw 0 rfl rfl rfl hl rfl (Nat.le_of_ble_eq_true rfl) dX4_answer_38 (fun H locs hw => ?_)
        exact rV E hr hlk (HB.eq hw (by rw [mAns, if_neg (by omega), if_pos (by omega)])) dX4_answer_41
    · skip
      refine lv_aload_n E.1 E.2.1 dX4_answer_17 rfl (lv_at hl 1 rfl) ?_
      refine lv_iconst (v := nI 3) E.1 E.2.1 dX4_answer_18 (by decide) ?_
      refine lv_iload_n E.1 E.2.1 dX4_answer_19 rfl (lv_at hl 2 rfl) ?_
      refine lv_iconst (v := nI 4) E.1 E.2.1 dX4_answer_20 (by decide) ?_
      refine lv_iload_n E.1 E.2.1 dX4_answer_21 rfl (lv_at hl 3 rfl) ?_
      refine callVV E (c_X4_send l G a (N) (x) 3 d 4 c (by omega) (by omega)) mw_8_6 YX4_send ⟨rfl, rfl⟩ ⟨Nat.le_of_ble_eq_true rfl, Nat.le_of_ble_eq_true rfl⟩ ⟨Nat.zero_le _, Nat.zero_le _⟩ hw 0 rfl rfl rfl hl rfl (Nat.le_of_ble_eq_true rfl) dX4_answer_22 (fun H locs hw => ?_)
      refine lv_goto (tgt := 41) E.1 E.2.1 dX4_answer_25 (by decide) ?_
      exact rV E hr hlk (HB.eq hw (by rw [mAns, if_pos (by omega)])) dX4_answer_41
theorem YX4_tear : YV yX4_tear RX4 cX4_tear 3 none 2 := ⟨mw_12_10, mw_12_11, mw_1_5, mw_12_12, by decide +kernel⟩
set_option maxHeartbeats 4000000 in
set_option maxRecDepth 100000 in
theorem c_X4_tear (l : Launch) (G : GP) (a : Nat → Nat) (N : NS) (x : MX) (d S : Nat) (hd : d < 8) (hS : S < 16) (h6 : N 6 ≤ 60) : MV l yX4_tear (.code yX4_tear cX4_tear 3 none :: GW) ({ frames := 2, cells := 0, slots := 0, locals := 50 }) [.ref (a 0), .int (nI (d)), .int (nI (S))] G ES (mN G a (N) (x)) (mN G a (mTear d S N) (x)) := by
  refine MV.of (own := RX4) rfl rfl (Nat.le_of_ble_eq_true rfl) ?_
  intro pP eE sS mM below meth cC ls AA E hw hl hr hlk hE
  replace hl : lv_has ls 3 [(0, .ref (a 0)), (1, .int (nI (d))), (2, .int (nI (S)))] := hl
  refine lv_aload_n E.1 E.2.1 dX4_tear_0 rfl (lv_at hl 0 rfl) ?_
  refine lv_iload_n E.1 E.2.1 dX4_tear_1 rfl (lv_at hl 1 rfl) ?_
  refine lv_iconst (v := nI 1) E.1 E.2.1 dX4_tear_2 (by decide) ?_
  refine lv_iconst (v := nI 2) E.1 E.2.1 dX4_tear_3 (by decide) ?_
  refine callVV E (c_X4_book l G a (N) (x) d 1 2 (by omega)) mw_7_19 YX4_book ⟨rfl, rfl⟩ ⟨Nat.le_of_ble_eq_true rfl, Nat.le_of_ble_eq_true rfl⟩ ⟨Nat.zero_le _, Nat.zero_le _⟩ hw 0 rfl rfl rfl hl rfl (Nat.le_of_ble_eq_true rfl) dX4_tear_4 (fun H locs hw => ?_)
  refine lv_aload_n E.1 E.2.1 dX4_tear_7 rfl (lv_at hl 0 rfl) ?_
  refine lv_iconst (v := nI 4) E.1 E.2.1 dX4_tear_8 (by decide) ?_
  refine lv_iload_n E.1 E.2.1 dX4_tear_9 rfl (lv_at hl 1 rfl) ?_
  refine lv_iconst (v := nI 4) E.1 E.2.1 dX4_tear_10 (by decide) ?_
  refine lv_iload_n E.1 E.2.1 dX4_tear_11 rfl (lv_at hl 2 rfl) ?_
  refine callVV E (c_X4_sendAll l G a (un (N) (30 + 14 * d + 1) (2)) (x) 4 d 4 S (by omega) (by omega) (by rw [un_n (by omega)]; exact h6)) mw_7_23 YX4_sendAll ⟨rfl, rfl⟩ ⟨Nat.le_of_ble_eq_true rfl, Nat.le_of_ble_eq_true rfl⟩ ⟨Nat.zero_le _, Nat.zero_le _⟩ hw 0 rfl rfl rfl hl rfl (Nat.le_of_ble_eq_true rfl) dX4_tear_12 (fun H locs hw => ?_)
  exact rV E hr hlk (HB.eq hw (rfl)) dX4_tear_15
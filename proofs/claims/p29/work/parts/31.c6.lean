theorem YX1_copyFrom : YV yX1_copyFrom RX1 cX1_copyFrom 2 none 1 := ⟨mw_4_14, mw_4_15, mw_2_9, mw_4_16, by decide +kernel⟩
set_option maxHeartbeats 4000000 in
set_option maxRecDepth 100000 in
theorem c_X1_copyFrom (l : Launch) (G : GP) (a b : Nat → Nat) (i j : Nat → Int32) (f g : Nat → Nat → Int32) : MV l yX1_copyFrom (.code yX1_copyFrom cX1_copyFrom 2 none :: GW) ({ frames := 1, cells := 0, slots := 0, locals := 18 }) [.ref (a 2), .ref (b 2)] G ES (sX G a (i) (f) ++ sX G b j g) (sX G a (upd (upd i 4 (j 4)) 5 (j 5)) (va_up (va_up (va_up (f) 1 (va_cpy (g 1) (f 1) 0 0 240)) 2 (va_cpy (g 2) (f 2) 0 0 5)) 3 (va_cpy (g 3) (f 3) 0 0 5)) ++ sX G b j g) := by
  refine MV.of (own := RX1) rfl rfl (Nat.le_of_ble_eq_true rfl) ?_
  intro pP eE sS mM below meth cC ls AA E hw hl hr hlk hE
  replace hl : lv_has ls 2 [(0, .ref (a 2)), (1, .ref (b 2))] := hl
  refine lv_aload_n E.1 E.2.1 dX1_copyFrom_0 rfl (lv_at hl 0 rfl) ?_
  refine lv_aload_n E.1 E.2.1 dX1_copyFrom_1 rfl (lv_at hl 1 rfl) ?_
  refine gE1_0 E hw mw_4_17 dX1_copyFrom_2 ?_
  refine pD1_0 E hw mw_4_17 dX1_copyFrom_5 (fun H locs hw => ?_)
  refine lv_aload_n E.1 E.2.1 dX1_copyFrom_8 rfl (lv_at hl 0 rfl) ?_
  refine lv_aload_n E.1 E.2.1 dX1_copyFrom_9 rfl (lv_at hl 1 rfl) ?_
  refine gE1_1 E hw mw_4_18 dX1_copyFrom_10 ?_
  refine pD1_1 E hw mw_4_18 dX1_copyFrom_13 (fun H locs hw => ?_)
  refine lv_aload_n E.1 E.2.1 dX1_copyFrom_16 rfl (lv_at hl 1 rfl) ?_
  refine gE1_2 E hw mw_2_22 dX1_copyFrom_17 ?_
  refine lv_iconst (v := nI 0) E.1 E.2.1 dX1_copyFrom_20 (by decide) ?_
  refine lv_aload_n E.1 E.2.1 dX1_copyFrom_21 rfl (lv_at hl 0 rfl) ?_
  refine gD1_2 E hw mw_2_22 dX1_copyFrom_22 ?_
  refine lv_iconst (v := nI 0) E.1 E.2.1 dX1_copyFrom_25 (by decide) ?_
  refine lv_aload_n E.1 E.2.1 dX1_copyFrom_26 rfl (lv_at hl 0 rfl) ?_
  refine gD1_2 E hw mw_2_22 dX1_copyFrom_27 ?_
  refine va_alen E.1 E.2.1 E.2.2.2.2.2.1 hw.1 3 0 rfl rfl (v := nI 240) rfl dX1_copyFrom_30 ?_
  refine cpI E hl hw mw_4_19 17 3 rfl rfl (by omega) (by omega) (by decide) (Nat.le_of_ble_eq_true rfl) (Nat.le_of_ble_eq_true rfl) dX1_copyFrom_31 (fun H locs hw => ?_)
  replace hw : HB G AA sS.heap (sX G a (upd (upd (i) 4 (j 4)) 5 (j 5)) (va_up (f) 1 (va_cpy (g 1) (f 1) (0) (0) (240))) ++ sX G b j g) H locs := hw
  refine lv_aload_n E.1 E.2.1 dX1_copyFrom_34 rfl (lv_at hl 1 rfl) ?_
  refine gE1_3 E hw mw_2_23 dX1_copyFrom_35 ?_
  refine lv_iconst (v := nI 0) E.1 E.2.1 dX1_copyFrom_38 (by decide) ?_
  refine lv_aload_n E.1 E.2.1 dX1_copyFrom_39 rfl (lv_at hl 0 rfl) ?_
  refine gD1_3 E hw mw_2_23 dX1_copyFrom_40 ?_
  refine lv_iconst (v := nI 0) E.1 E.2.1 dX1_copyFrom_43 (by decide) ?_
  refine lv_iconst (v := nI 5) E.1 E.2.1 dX1_copyFrom_44 (by decide) ?_
  refine cpI E hl hw mw_4_19 18 4 rfl rfl (by omega) (by omega) (by decide) (Nat.le_of_ble_eq_true rfl) (Nat.le_of_ble_eq_true rfl) dX1_copyFrom_45 (fun H locs hw => ?_)
  replace hw : HB G AA sS.heap (sX G a (upd (upd (i) 4 (j 4)) 5 (j 5)) (va_up (va_up (f) 1 (va_cpy (g 1) (f 1) (0) (0) (240))) 2 (va_cpy (g 2) (f 2) (0) (0) (5))) ++ sX G b j g) H locs := hw
  refine lv_aload_n E.1 E.2.1 dX1_copyFrom_48 rfl (lv_at hl 1 rfl) ?_
  refine gE1_4 E hw mw_3_0 dX1_copyFrom_49 ?_
  refine lv_iconst (v := nI 0) E.1 E.2.1 dX1_copyFrom_52 (by decide) ?_
  refine lv_aload_n E.1 E.2.1 dX1_copyFrom_53 rfl (lv_at hl 0 rfl) ?_
  refine gD1_4 E hw mw_3_0 dX1_copyFrom_54 ?_
  refine lv_iconst (v := nI 0) E.1 E.2.1 dX1_copyFrom_57 (by decide) ?_
  refine lv_iconst (v := nI 5) E.1 E.2.1 dX1_copyFrom_58 (by decide) ?_
  refine cpI E hl hw mw_4_19 19 5 rfl rfl (by omega) (by omega) (by decide) (Nat.le_of_ble_eq_true rfl) (Nat.le_of_ble_eq_true rfl) dX1_copyFrom_59 (fun H locs hw => ?_)
  replace hw : HB G AA sS.heap (sX G a (upd (upd (i) 4 (j 4)) 5 (j 5)) (va_up (va_up (va_up (f) 1 (va_cpy (g 1) (f 1) (0) (0) (240))) 2 (va_cpy (g 2) (f 2) (0) (0) (5))) 3 (va_cpy (g 3) (f 3) (0) (0) (5))) ++ sX G b j g) H locs := hw
  exact rV E hr hlk (HB.eq hw (rfl)) dX1_copyFrom_62
theorem YX2_copyFrom : YV yX2_copyFrom RX2 cX2_copyFrom 2 none 1 := ⟨mw_4_2, mw_4_3, mw_1_15, mw_4_4, by decide +kernel⟩
set_option maxHeartbeats 4000000 in
set_option maxRecDepth 100000 in
theorem c_X2_copyFrom (l : Launch) (G : GP) (a b : Nat → Nat) (i j : Nat → Int32) (f g : Nat → Nat → Int32) : MV l yX2_copyFrom (.code yX2_copyFrom cX2_copyFrom 2 none :: GW) ({ frames := 2, cells := 0, slots := 0, locals := 39 }) [.ref (a 0), .ref (b 0)] G ES (sX G a (i) (f) ++ sX G b j g) (sX G a j g ++ sX G b j g) := by
  refine MV.of (own := RX2) rfl rfl (Nat.le_of_ble_eq_true rfl) ?_
  intro pP eE sS mM below meth cC ls AA E hw hl hr hlk hE
  replace hl : lv_has ls 2 [(0, .ref (a 0)), (1, .ref (b 0))] := hl
  refine lv_aload_n E.1 E.2.1 dX2_copyFrom_0 rfl (lv_at hl 0 rfl) ?_
  refine lv_aload_n E.1 E.2.1 dX2_copyFrom_1 rfl (lv_at hl 1 rfl) ?_
  refine gE2_0 E hw mw_4_5 dX2_copyFrom_2 ?_
  refine pD2_0 E hw mw_4_5 dX2_copyFrom_5 (fun H locs hw => ?_)
  refine lv_aload_n E.1 E.2.1 dX2_copyFrom_8 rfl (lv_at hl 0 rfl) ?_
  refine lv_aload_n E.1 E.2.1 dX2_copyFrom_9 rfl (lv_at hl 1 rfl) ?_
  refine gE2_1 E hw mw_4_6 dX2_copyFrom_10 ?_
  refine pD2_1 E hw mw_4_6 dX2_copyFrom_13 (fun H locs hw => ?_)
  refine lv_aload_n E.1 E.2.1 dX2_copyFrom_16 rfl (lv_at hl 0 rfl) ?_
  refine lv_aload_n E.1 E.2.1 dX2_copyFrom_17 rfl (lv_at hl 1 rfl) ?_
  refine gE2_2 E hw mw_4_7 dX2_copyFrom_18 ?_
  refine pD2_2 E hw mw_4_7 dX2_copyFrom_21 (fun H locs hw => ?_)
  refine lv_aload_n E.1 E.2.1 dX2_copyFrom_24 rfl (lv_at hl 0 rfl) ?_
  refine lv_aload_n E.1 E.2.1 dX2_copyFrom_25 rfl (lv_at hl 1 rfl) ?_
  refine gE2_3 E hw mw_4_8 dX2_copyFrom_26 ?_
  refine pD2_3 E hw mw_4_8 dX2_copyFrom_29 (fun H locs hw => ?_)
  refine lv_aload_n E.1 E.2.1 dX2_copyFrom_32 rfl (lv_at hl 1 rfl) ?_
  refine gE2_4 E hw mw_2_6 dX2_copyFrom_33 ?_
  refine lv_iconst (v := nI 0) E.1 E.2.1 dX2_copyFrom_36 (by decide) ?_
  refine lv_aload_n E.1 E.2.1 dX2_copyFrom_37 rfl (lv_at hl 0 rfl) ?_
  refine gD2_4 E hw mw_2_6 dX2_copyFrom_38 ?_
  refine lv_iconst (v := nI 0) E.1 E.2.1 dX2_copyFrom_41 (by decide) ?_
  refine lv_iconst (v := nI 4) E.1 E.2.1 dX2_copyFrom_42 (by decide) ?_
  refine cpI E hl hw mw_4_9 15 1 rfl rfl (by omega) (by omega) (by decide) (Nat.le_of_ble_eq_true rfl) (Nat.le_of_ble_eq_true rfl) dX2_copyFrom_43 (fun H locs hw => ?_)
  replace hw : HB G AA sS.heap (sX G a (upd (upd (upd (upd (i) 0 (j 0)) 1 (j 1)) 2 (j 2)) 3 (j 3)) (va_up (f) 0 (va_cpy (g 0) (f 0) (0) (0) (4))) ++ sX G b j g) H locs := hw
  refine lv_aload_n E.1 E.2.1 dX2_copyFrom_46 rfl (lv_at hl 0 rfl) ?_
  refine gD2_5 E hw mw_2_10 dX2_copyFrom_47 ?_
  refine lv_aload_n E.1 E.2.1 dX2_copyFrom_50 rfl (lv_at hl 1 rfl) ?_
  refine gE2_5 E hw mw_2_10 dX2_copyFrom_51 ?_
  refine callVV E (c_X1_copyFrom l G a b (upd (upd (upd (upd (i) 0 (j 0)) 1 (j 1)) 2 (j 2)) 3 (j 3)) j (va_up (f) 0 (va_cpy (g 0) (f 0) (0) (0) (4))) g) mw_4_13 YX1_copyFrom ⟨rfl, rfl⟩ ⟨Nat.le_of_ble_eq_true rfl, Nat.le_of_ble_eq_true rfl⟩ ⟨Nat.zero_le _, Nat.zero_le _⟩ hw 2 rfl rfl rfl hl rfl (Nat.le_of_ble_eq_true rfl) dX2_copyFrom_54 (fun H locs hw => ?_)
  replace hw : HB G AA sS.heap (sX G a (upd (upd (upd (upd (upd (upd (i) 0 (j 0)) 1 (j 1)) 2 (j 2)) 3 (j 3)) 4 (j 4)) 5 (j 5)) (va_up (va_up (va_up (va_up (f) 0 (va_cpy (g 0) (f 0) (0) (0) (4))) 1 (va_cpy (g 1) (f 1) 0 0 240)) 2 (va_cpy (g 2) (f 2) 0 0 5)) 3 (va_cpy (g 3) (f 3) 0 0 5)) ++ sX G b j g) H locs := hw
  refine lv_aload_n E.1 E.2.1 dX2_copyFrom_57 rfl (lv_at hl 1 rfl) ?_
  refine gE2_6 E hw mw_2_11 dX2_copyFrom_58 ?_
  refine lv_iconst (v := nI 0) E.1 E.2.1 dX2_copyFrom_61 (by decide) ?_
  refine lv_aload_n E.1 E.2.1 dX2_copyFrom_62 rfl (lv_at hl 0 rfl) ?_
  refine gD2_6 E hw mw_2_11 dX2_copyFrom_63 ?_
  refine lv_iconst (v := nI 0) E.1 E.2.1 dX2_copyFrom_66 (by decide) ?_
  refine lv_bipush (v := nI 8) E.1 E.2.1 dX2_copyFrom_67 (by decide) ?_
  refine cpI E hl hw mw_4_9 20 6 rfl rfl (by omega) (by omega) (by decide) (Nat.le_of_ble_eq_true rfl) (Nat.le_of_ble_eq_true rfl) dX2_copyFrom_69 (fun H locs hw => ?_)
  replace hw : HB G AA sS.heap (sX G a (upd (upd (upd (upd (upd (upd (i) 0 (j 0)) 1 (j 1)) 2 (j 2)) 3 (j 3)) 4 (j 4)) 5 (j 5)) (va_up (va_up (va_up (va_up (va_up (f) 0 (va_cpy (g 0) (f 0) (0) (0) (4))) 1 (va_cpy (g 1) (f 1) 0 0 240)) 2 (va_cpy (g 2) (f 2) 0 0 5)) 3 (va_cpy (g 3) (f 3) 0 0 5)) 4 (va_cpy (g 4) (f 4) (0) (0) (8))) ++ sX G b j g) H locs := hw
  refine lv_aload_n E.1 E.2.1 dX2_copyFrom_72 rfl (lv_at hl 1 rfl) ?_
  refine gE2_7 E hw mw_2_12 dX2_copyFrom_73 ?_
  refine lv_iconst (v := nI 0) E.1 E.2.1 dX2_copyFrom_76 (by decide) ?_
  refine lv_aload_n E.1 E.2.1 dX2_copyFrom_77 rfl (lv_at hl 0 rfl) ?_
  refine gD2_7 E hw mw_2_12 dX2_copyFrom_78 ?_
  refine lv_iconst (v := nI 0) E.1 E.2.1 dX2_copyFrom_81 (by decide) ?_
  refine lv_bipush (v := nI 8) E.1 E.2.1 dX2_copyFrom_82 (by decide) ?_
  refine cpI E hl hw mw_4_9 21 7 rfl rfl (by omega) (by omega) (by decide) (Nat.le_of_ble_eq_true rfl) (Nat.le_of_ble_eq_true rfl) dX2_copyFrom_84 (fun H locs hw => ?_)
  replace hw : HB G AA sS.heap (sX G a (upd (upd (upd (upd (upd (upd (i) 0 (j 0)) 1 (j 1)) 2 (j 2)) 3 (j 3)) 4 (j 4)) 5 (j 5)) (va_up (va_up (va_up (va_up (va_up (va_up (f) 0 (va_cpy (g 0) (f 0) (0) (0) (4))) 1 (va_cpy (g 1) (f 1) 0 0 240)) 2 (va_cpy (g 2) (f 2) 0 0 5)) 3 (va_cpy (g 3) (f 3) 0 0 5)) 4 (va_cpy (g 4) (f 4) (0) (0) (8))) 5 (va_cpy (g 5) (f 5) (0) (0) (8))) ++ sX G b j g) H locs := hw
  refine lv_aload_n E.1 E.2.1 dX2_copyFrom_87 rfl (lv_at hl 1 rfl) ?_
  refine gE2_8 E hw mw_2_13 dX2_copyFrom_88 ?_
  refine lv_iconst (v := nI 0) E.1 E.2.1 dX2_copyFrom_91 (by decide) ?_
  refine lv_aload_n E.1 E.2.1 dX2_copyFrom_92 rfl (lv_at hl 0 rfl) ?_
  refine gD2_8 E hw mw_2_13 dX2_copyFrom_93 ?_
  refine lv_iconst (v := nI 0) E.1 E.2.1 dX2_copyFrom_96 (by decide) ?_
  refine lv_bipush (v := nI 8) E.1 E.2.1 dX2_copyFrom_97 (by decide) ?_
  refine cpI E hl hw mw_4_9 22 8 rfl rfl (by omega) (by omega) (by decide) (Nat.le_of_ble_eq_true rfl) (Nat.le_of_ble_eq_true rfl) dX2_copyFrom_99 (fun H locs hw => ?_)
  replace hw : HB G AA sS.heap (sX G a (upd (upd (upd (upd (upd (upd (i) 0 (j 0)) 1 (j 1)) 2 (j 2)) 3 (j 3)) 4 (j 4)) 5 (j 5)) (va_up (va_up (va_up (va_up (va_up (va_up (va_up (f) 0 (va_cpy (g 0) (f 0) (0) (0) (4))) 1 (va_cpy (g 1) (f 1) 0 0 240)) 2 (va_cpy (g 2) (f 2) 0 0 5)) 3 (va_cpy (g 3) (f 3) 0 0 5)) 4 (va_cpy (g 4) (f 4) (0) (0) (8))) 5 (va_cpy (g 5) (f 5) (0) (0) (8))) 6 (va_cpy (g 6) (f 6) (0) (0) (8))) ++ sX G b j g) H locs := hw
  refine lv_aload_n E.1 E.2.1 dX2_copyFrom_102 rfl (lv_at hl 1 rfl) ?_
  refine gE2_9 E hw mw_2_14 dX2_copyFrom_103 ?_
  refine lv_iconst (v := nI 0) E.1 E.2.1 dX2_copyFrom_106 (by decide) ?_
  refine lv_aload_n E.1 E.2.1 dX2_copyFrom_107 rfl (lv_at hl 0 rfl) ?_
  refine gD2_9 E hw mw_2_14 dX2_copyFrom_108 ?_
  refine lv_iconst (v := nI 0) E.1 E.2.1 dX2_copyFrom_111 (by decide) ?_
  refine lv_bipush (v := nI 8) E.1 E.2.1 dX2_copyFrom_112 (by decide) ?_
  refine cpI E hl hw mw_4_9 23 9 rfl rfl (by omega) (by omega) (by decide) (Nat.le_of_ble_eq_true rfl) (Nat.le_of_ble_eq_true rfl) dX2_copyFrom_114 (fun H locs hw => ?_)
  replace hw : HB G AA sS.heap (sX G a (upd (upd (upd (upd (upd (upd (i) 0 (j 0)) 1 (j 1)) 2 (j 2)) 3 (j 3)) 4 (j 4)) 5 (j 5)) (va_up (va_up (va_up (va_up (va_up (va_up (va_up (va_up (f) 0 (va_cpy (g 0) (f 0) (0) (0) (4))) 1 (va_cpy (g 1) (f 1) 0 0 240)) 2 (va_cpy (g 2) (f 2) 0 0 5)) 3 (va_cpy (g 3) (f 3) 0 0 5)) 4 (va_cpy (g 4) (f 4) (0) (0) (8))) 5 (va_cpy (g 5) (f 5) (0) (0) (8))) 6 (va_cpy (g 6) (f 6) (0) (0) (8))) 7 (va_cpy (g 7) (f 7) (0) (0) (8))) ++ sX G b j g) H locs := hw
  refine lv_aload_n E.1 E.2.1 dX2_copyFrom_117 rfl (lv_at hl 1 rfl) ?_
  refine gE2_10 E hw mw_2_15 dX2_copyFrom_118 ?_
  refine lv_iconst (v := nI 0) E.1 E.2.1 dX2_copyFrom_121 (by decide) ?_
  refine lv_aload_n E.1 E.2.1 dX2_copyFrom_122 rfl (lv_at hl 0 rfl) ?_
  refine gD2_10 E hw mw_2_15 dX2_copyFrom_123 ?_
  refine lv_iconst (v := nI 0) E.1 E.2.1 dX2_copyFrom_126 (by decide) ?_
  refine lv_bipush (v := nI 8) E.1 E.2.1 dX2_copyFrom_127 (by decide) ?_
  refine cpI E hl hw mw_4_9 24 10 rfl rfl (by omega) (by omega) (by decide) (Nat.le_of_ble_eq_true rfl) (Nat.le_of_ble_eq_true rfl) dX2_copyFrom_129 (fun H locs hw => ?_)
  replace hw : HB G AA sS.heap (sX G a (upd (upd (upd (upd (upd (upd (i) 0 (j 0)) 1 (j 1)) 2 (j 2)) 3 (j 3)) 4 (j 4)) 5 (j 5)) (va_up (va_up (va_up (va_up (va_up (va_up (va_up (va_up (va_up (f) 0 (va_cpy (g 0) (f 0) (0) (0) (4))) 1 (va_cpy (g 1) (f 1) 0 0 240)) 2 (va_cpy (g 2) (f 2) 0 0 5)) 3 (va_cpy (g 3) (f 3) 0 0 5)) 4 (va_cpy (g 4) (f 4) (0) (0) (8))) 5 (va_cpy (g 5) (f 5) (0) (0) (8))) 6 (va_cpy (g 6) (f 6) (0) (0) (8))) 7 (va_cpy (g 7) (f 7) (0) (0) (8))) 8 (va_cpy (g 8) (f 8) (0) (0) (8))) ++ sX G b j g) H locs := hw
  refine lv_aload_n E.1 E.2.1 dX2_copyFrom_132 rfl (lv_at hl 1 rfl) ?_
  refine gE2_11 E hw mw_2_16 dX2_copyFrom_133 ?_
  refine lv_iconst (v := nI 0) E.1 E.2.1 dX2_copyFrom_136 (by decide) ?_
  refine lv_aload_n E.1 E.2.1 dX2_copyFrom_137 rfl (lv_at hl 0 rfl) ?_
  refine gD2_11 E hw mw_2_16 dX2_copyFrom_138 ?_
  refine lv_iconst (v := nI 0) E.1 E.2.1 dX2_copyFrom_141 (by decide) ?_
  refine lv_bipush (v := nI 8) E.1 E.2.1 dX2_copyFrom_142 (by decide) ?_
  refine cpI E hl hw mw_4_9 25 11 rfl rfl (by omega) (by omega) (by decide) (Nat.le_of_ble_eq_true rfl) (Nat.le_of_ble_eq_true rfl) dX2_copyFrom_144 (fun H locs hw => ?_)
  replace hw : HB G AA sS.heap (sX G a (upd (upd (upd (upd (upd (upd (i) 0 (j 0)) 1 (j 1)) 2 (j 2)) 3 (j 3)) 4 (j 4)) 5 (j 5)) (va_up (va_up (va_up (va_up (va_up (va_up (va_up (va_up (va_up (va_up (f) 0 (va_cpy (g 0) (f 0) (0) (0) (4))) 1 (va_cpy (g 1) (f 1) 0 0 240)) 2 (va_cpy (g 2) (f 2) 0 0 5)) 3 (va_cpy (g 3) (f 3) 0 0 5)) 4 (va_cpy (g 4) (f 4) (0) (0) (8))) 5 (va_cpy (g 5) (f 5) (0) (0) (8))) 6 (va_cpy (g 6) (f 6) (0) (0) (8))) 7 (va_cpy (g 7) (f 7) (0) (0) (8))) 8 (va_cpy (g 8) (f 8) (0) (0) (8))) 9 (va_cpy (g 9) (f 9) (0) (0) (8))) ++ sX G b j g) H locs := hw
  refine lv_aload_n E.1 E.2.1 dX2_copyFrom_147 rfl (lv_at hl 1 rfl) ?_
  refine gE2_12 E hw mw_2_17 dX2_copyFrom_148 ?_
  refine lv_iconst (v := nI 0) E.1 E.2.1 dX2_copyFrom_151 (by decide) ?_
  refine lv_aload_n E.1 E.2.1 dX2_copyFrom_152 rfl (lv_at hl 0 rfl) ?_
  refine gD2_12 E hw mw_2_17 dX2_copyFrom_153 ?_
  refine lv_iconst (v := nI 0) E.1 E.2.1 dX2_copyFrom_156 (by decide) ?_
  refine lv_bipush (v := nI 32) E.1 E.2.1 dX2_copyFrom_157 (by decide) ?_
  refine cpI E hl hw mw_4_9 26 12 rfl rfl (by omega) (by omega) (by decide) (Nat.le_of_ble_eq_true rfl) (Nat.le_of_ble_eq_true rfl) dX2_copyFrom_159 (fun H locs hw => ?_)
  replace hw : HB G AA sS.heap (sX G a (upd (upd (upd (upd (upd (upd (i) 0 (j 0)) 1 (j 1)) 2 (j 2)) 3 (j 3)) 4 (j 4)) 5 (j 5)) (va_up (va_up (va_up (va_up (va_up (va_up (va_up (va_up (va_up (va_up (va_up (f) 0 (va_cpy (g 0) (f 0) (0) (0) (4))) 1 (va_cpy (g 1) (f 1) 0 0 240)) 2 (va_cpy (g 2) (f 2) 0 0 5)) 3 (va_cpy (g 3) (f 3) 0 0 5)) 4 (va_cpy (g 4) (f 4) (0) (0) (8))) 5 (va_cpy (g 5) (f 5) (0) (0) (8))) 6 (va_cpy (g 6) (f 6) (0) (0) (8))) 7 (va_cpy (g 7) (f 7) (0) (0) (8))) 8 (va_cpy (g 8) (f 8) (0) (0) (8))) 9 (va_cpy (g 9) (f 9) (0) (0) (8))) 10 (va_cpy (g 10) (f 10) (0) (0) (32))) ++ sX G b j g) H locs := hw
  refine lv_aload_n E.1 E.2.1 dX2_copyFrom_162 rfl (lv_at hl 1 rfl) ?_
  refine gE2_13 E hw mw_2_18 dX2_copyFrom_163 ?_
  refine lv_iconst (v := nI 0) E.1 E.2.1 dX2_copyFrom_166 (by decide) ?_
  refine lv_aload_n E.1 E.2.1 dX2_copyFrom_167 rfl (lv_at hl 0 rfl) ?_
  refine gD2_13 E hw mw_2_18 dX2_copyFrom_168 ?_
  refine lv_iconst (v := nI 0) E.1 E.2.1 dX2_copyFrom_171 (by decide) ?_
  refine lv_bipush (v := nI 32) E.1 E.2.1 dX2_copyFrom_172 (by decide) ?_
  refine cpI E hl hw mw_4_9 27 13 rfl rfl (by omega) (by omega) (by decide) (Nat.le_of_ble_eq_true rfl) (Nat.le_of_ble_eq_true rfl) dX2_copyFrom_174 (fun H locs hw => ?_)
  replace hw : HB G AA sS.heap (sX G a (upd (upd (upd (upd (upd (upd (i) 0 (j 0)) 1 (j 1)) 2 (j 2)) 3 (j 3)) 4 (j 4)) 5 (j 5)) (va_up (va_up (va_up (va_up (va_up (va_up (va_up (va_up (va_up (va_up (va_up (va_up (f) 0 (va_cpy (g 0) (f 0) (0) (0) (4))) 1 (va_cpy (g 1) (f 1) 0 0 240)) 2 (va_cpy (g 2) (f 2) 0 0 5)) 3 (va_cpy (g 3) (f 3) 0 0 5)) 4 (va_cpy (g 4) (f 4) (0) (0) (8))) 5 (va_cpy (g 5) (f 5) (0) (0) (8))) 6 (va_cpy (g 6) (f 6) (0) (0) (8))) 7 (va_cpy (g 7) (f 7) (0) (0) (8))) 8 (va_cpy (g 8) (f 8) (0) (0) (8))) 9 (va_cpy (g 9) (f 9) (0) (0) (8))) 10 (va_cpy (g 10) (f 10) (0) (0) (32))) 11 (va_cpy (g 11) (f 11) (0) (0) (32))) ++ sX G b j g) H locs := hw
  replace hw : HB G AA sS.heap (sX G a j g ++ sX G b j g) H locs := hw.scongr2 ⟨rfl, rfl, rfl, rfl, rfl, rfl⟩ (fun q hq => cpy0 hq) (fun q hq => cpy0 hq) (fun q hq => cpy0 hq) (fun q hq => cpy0 hq) (fun q hq => cpy0 hq) (fun q hq => cpy0 hq) (fun q hq => cpy0 hq) (fun q hq => cpy0 hq) (fun q hq => cpy0 hq) (fun q hq => cpy0 hq) (fun q hq => cpy0 hq) (fun q hq => cpy0 hq)
  exact rV E hr hlk (HB.eq hw (rfl)) dX2_copyFrom_177
theorem c_X2_copyN (l : Launch) (G : GP) (a b : Nat → Nat) (N M : NS) : MV l yX2_copyFrom (.code yX2_copyFrom cX2_copyFrom 2 none :: GW) { frames := 2, cells := 0, slots := 0, locals := 39 } [.ref (a 0), .ref (b 0)] G ES (sN G a N ++ sN G b M) (sN G a M ++ sN G b M) := c_X2_copyFrom l G a b _ _ _ _

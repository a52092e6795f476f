theorem YX4_get : YV yX4_get RX4 cX4_get 6 none 3 := ⟨mw_11_22, mw_11_23, mw_1_5, mw_12_0, by decide +kernel⟩
set_option maxHeartbeats 4000000 in
set_option maxRecDepth 100000 in
theorem c_X4_get (l : Launch) (G : GP) (a : Nat → Nat) (N : NS) (x : MX) (k d c : Nat) (hk : k < 2 ^ 31) (hd : d < 8) (hc : c < 4) (hF : FI N) : MV l yX4_get (.code yX4_get cX4_get 6 none :: GW) ({ frames := 3, cells := 0, slots := 0, locals := 72 }) [.ref (a 0), .int (nI (k)), .int (nI (d)), .int (nI (c))] G ES (mN G a (N) (x)) (mN G a (mGet k d c N) (x)) := by
  refine MV.of (own := RX4) rfl rfl (Nat.le_of_ble_eq_true rfl) ?_
  intro pP eE sS mM below meth cC ls AA E hw hl hr hlk hE
  replace hl : lv_has ls 6 [(0, .ref (a 0)), (1, .int (nI (k))), (2, .int (nI (d))), (3, .int (nI (c)))] := hl
  have h6 := hF.1
  have h5 := hF.2.1
  have h0 := hF.f0 hd
  have h1 := hF.f1 hd
  have h4 := hF.f4 hd
  have h5x := hF.f5 hd
  have hV := or_lt16 _ h4 c hc
  have hV5 := or_lt16 _ h5x c hc
  refine lv_aload_n E.1 E.2.1 dX4_get_0 rfl (lv_at hl 0 rfl) ?_
  refine lv_iload_n E.1 E.2.1 dX4_get_1 rfl (lv_at hl 2 rfl) ?_
  refine lv_iconst (v := nI 1) E.1 E.2.1 dX4_get_2 (by decide) ?_
  refine callVI E (c_X4_of l G a (N) (x) d 1 (N (30 + 14 * d + 1)) (by omega) (rfl)) mw_12_1 YX4_of ⟨rfl, rfl⟩ ⟨Nat.le_of_ble_eq_true rfl, Nat.le_of_ble_eq_true rfl⟩ ⟨Nat.zero_le _, Nat.zero_le _⟩ hw 0 rfl rfl rfl hl rfl (Nat.le_of_ble_eq_true rfl) dX4_get_3 (fun H locs hw => ?_)
  refine lv_istore (lv' := [(4, .int (nI (N (30 + 14 * d + 1)))), (0, .ref (a 0)), (1, .int (nI (k))), (2, .int (nI (d))), (3, .int (nI (c)))]) E.1 E.2.1 dX4_get_6 hl (by decide) rfl (fun ls hl => ?_)
  refine lv_aload_n E.1 E.2.1 dX4_get_8 rfl (lv_at hl 1 rfl) ?_
  refine lv_iload_n E.1 E.2.1 dX4_get_9 rfl (lv_at hl 3 rfl) ?_
  refine lv_iconst (v := nI 0) E.1 E.2.1 dX4_get_10 (by decide) ?_
  refine callVI E (c_X4_of l G a (N) (x) d 0 (N (30 + 14 * d + 0)) (by omega) (rfl)) mw_12_1 YX4_of ⟨rfl, rfl⟩ ⟨Nat.le_of_ble_eq_true rfl, Nat.le_of_ble_eq_true rfl⟩ ⟨Nat.zero_le _, Nat.zero_le _⟩ hw 0 rfl rfl rfl hl rfl (Nat.le_of_ble_eq_true rfl) dX4_get_11 (fun H locs hw => ?_)
  refine lv_istore (lv' := [(5, .int (nI (N (30 + 14 * d + 0)))), (4, .int (nI (N (30 + 14 * d + 1)))), (0, .ref (a 0)), (1, .int (nI (k))), (2, .int (nI (d))), (3, .int (nI (c)))]) E.1 E.2.1 dX4_get_14 hl (by decide) rfl (fun ls hl => ?_)
  refine lv_iload_n E.1 E.2.1 dX4_get_16 rfl (lv_at hl 3 rfl) ?_
  by_cases z17_1 : k = 1
  · refine lv_eqi (y := nI 1) (by rw [z17_1]) ?_
    refine lv_tableIn (tgt := 52) E.1 E.2.1 dX4_get_17 (by decide) (by decide) rfl (by decide) ?_
    refine lv_iload E.1 E.2.1 dX4_get_52 (lv_at hl 1 rfl) ?_
    refine lv_if_eqN (tgt := 64) E.1 E.2.1 (by omega) dX4_get_54 (by decide) (fun c54 => ?_) (fun c54 => ?_)
    · skip
      refine lv_aload_n E.1 E.2.1 dX4_get_64 rfl (lv_at hl 2 rfl) ?_
      refine lv_iload_n E.1 E.2.1 dX4_get_65 rfl (lv_at hl 4 rfl) ?_
      refine lv_iconst (v := nI 4) E.1 E.2.1 dX4_get_66 (by decide) ?_
      refine lv_aload_n E.1 E.2.1 dX4_get_67 rfl (lv_at hl 2 rfl) ?_
      refine lv_iload_n E.1 E.2.1 dX4_get_68 rfl (lv_at hl 4 rfl) ?_
      refine lv_iconst (v := nI 4) E.1 E.2.1 dX4_get_69 (by decide) ?_
      refine callVI E (c_X4_of l G a (N) (x) d 4 (N (30 + 14 * d + 4)) (by omega) (rfl)) mw_12_1 YX4_of ⟨rfl, rfl⟩ ⟨Nat.le_of_ble_eq_true rfl, Nat.le_of_ble_eq_true rfl⟩ ⟨Nat.zero_le _, Nat.zero_le _⟩ hw 0 rfl rfl rfl hl rfl (Nat.le_of_ble_eq_true rfl) dX4_get_70 (fun H locs hw => ?_)
      refine lv_iconst (v := nI 1) E.1 E.2.1 dX4_get_73 (by decide) ?_
      refine lv_iload_n E.1 E.2.1 dX4_get_74 rfl (lv_at hl 5 rfl) ?_
      refine lv_ishl E.1 E.2.1 dX4_get_75 (lv_eqi (y := nI (2 ^ c)) (shl_1 _ (by omega)) ?_)
      refine lv_ior E.1 E.2.1 dX4_get_76 (lv_eqi (y := nI (N (30 + 14 * d + 4) ||| 2 ^ c)) (or_nI _ _) ?_)
      refine callVV E (c_X4_book l G a (N) (x) d 4 (N (30 + 14 * d + 4) ||| 2 ^ c) (by omega)) mw_7_19 YX4_book ⟨rfl, rfl⟩ ⟨Nat.le_of_ble_eq_true rfl, Nat.le_of_ble_eq_true rfl⟩ ⟨Nat.zero_le _, Nat.zero_le _⟩ hw 0 rfl rfl rfl hl rfl (Nat.le_of_ble_eq_true rfl) dX4_get_77 (fun H locs hw => ?_)
      refine lv_aload_n E.1 E.2.1 dX4_get_80 rfl (lv_at hl 2 rfl) ?_
      refine lv_iload_n E.1 E.2.1 dX4_get_81 rfl (lv_at hl 4 rfl) ?_
      refine lv_iconst (v := nI 4) E.1 E.2.1 dX4_get_82 (by decide) ?_
      refine callVI E (c_X4_of l G a (un (N) (30 + 14 * d + 4) (N (30 + 14 * d + 4) ||| 2 ^ c)) (x) d 4 (N (30 + 14 * d + 4) ||| 2 ^ c) (by omega) (by rw [un_s])) mw_12_1 YX4_of ⟨rfl, rfl⟩ ⟨Nat.le_of_ble_eq_true rfl, Nat.le_of_ble_eq_true rfl⟩ ⟨Nat.zero_le _, Nat.zero_le _⟩ hw 0 rfl rfl rfl hl rfl (Nat.le_of_ble_eq_true rfl) dX4_get_83 (fun H locs hw => ?_)
      refine lv_iload E.1 E.2.1 dX4_get_86 (lv_at hl 0 rfl) ?_
      refine lv_icmp_neN (tgt := 196) E.1 E.2.1 (by omega) (by omega) dX4_get_88 (by decide) (fun c88 => ?_) (fun c88 => ?_)
      · skip
        exact rV E hr hlk (HB.eq hw (by rw [mGet, if_pos (by omega), mYes, if_pos c54, if_neg c88])) dX4_get_196
      · skip
        refine lv_aload_n E.1 E.2.1 dX4_get_91 rfl (lv_at hl 2 rfl) ?_
        refine lv_iload_n E.1 E.2.1 dX4_get_92 rfl (lv_at hl 4 rfl) ?_
        refine lv_iconst (v := nI 1) E.1 E.2.1 dX4_get_93 (by decide) ?_
        refine lv_iconst (v := nI 1) E.1 E.2.1 dX4_get_94 (by decide) ?_
        refine callVV E (c_X4_book l G a (un (N) (30 + 14 * d + 4) (N (30 + 14 * d + 4) ||| 2 ^ c)) (x) d 1 1 (by omega)) mw_7_19 YX4_book ⟨rfl, rfl⟩ ⟨Nat.le_of_ble_eq_true rfl, Nat.le_of_ble_eq_true rfl⟩ ⟨Nat.zero_le _, Nat.zero_le _⟩ hw 0 rfl rfl rfl hl rfl (Nat.le_of_ble_eq_true rfl) dX4_get_95 (fun H locs hw => ?_)
        refine lv_aload_n E.1 E.2.1 dX4_get_98 rfl (lv_at hl 2 rfl) ?_
        refine lv_iload_n E.1 E.2.1 dX4_get_99 rfl (lv_at hl 4 rfl) ?_
        refine lv_iconst (v := nI 3) E.1 E.2.1 dX4_get_100 (by decide) ?_
        refine lv_aload_n E.1 E.2.1 dX4_get_101 rfl (lv_at hl 2 rfl) ?_
        refine gX4_0 E hw mw_3_8 dX4_get_102 ?_
        refine lv_iconst (v := nI 4) E.1 E.2.1 dX4_get_105 (by decide) ?_
        refine lN4_0 E hw (v := N 4) (by omega) (by rw [un_n (by omega), un_n (by omega)]) dX4_get_106 ?_
        refine callVV E (c_X4_book l G a (un (un (N) (30 + 14 * d + 4) (N (30 + 14 * d + 4) ||| 2 ^ c)) (30 + 14 * d + 1) (1)) (x) d 3 (N 4) (by omega)) mw_7_19 YX4_book ⟨rfl, rfl⟩ ⟨Nat.le_of_ble_eq_true rfl, Nat.le_of_ble_eq_true rfl⟩ ⟨Nat.zero_le _, Nat.zero_le _⟩ hw 0 rfl rfl rfl hl rfl (Nat.le_of_ble_eq_true rfl) dX4_get_107 (fun H locs hw => ?_)
        refine lv_aload_n E.1 E.2.1 dX4_get_110 rfl (lv_at hl 2 rfl) ?_
        refine lv_iconst (v := nI 3) E.1 E.2.1 dX4_get_111 (by decide) ?_
        refine lv_iload_n E.1 E.2.1 dX4_get_112 rfl (lv_at hl 4 rfl) ?_
        refine lv_iconst (v := nI 4) E.1 E.2.1 dX4_get_113 (by decide) ?_
        refine lv_iload E.1 E.2.1 dX4_get_114 (lv_at hl 0 rfl) ?_
        refine callVV E (c_X4_sendAll l G a (un (un (un (N) (30 + 14 * d + 4) (N (30 + 14 * d + 4) ||| 2 ^ c)) (30 + 14 * d + 1) (1)) (30 + 14 * d + 3) (N 4)) (x) 3 d 4 (N (30 + 14 * d + 0)) (by omega) (by omega) (by rw [un_n (by omega), un_n (by omega), un_n (by omega)]; exact h6)) mw_7_23 YX4_sendAll ⟨rfl, rfl⟩ ⟨Nat.le_of_ble_eq_true rfl, Nat.le_of_ble_eq_true rfl⟩ ⟨Nat.zero_le _, Nat.zero_le _⟩ hw 0 rfl rfl rfl hl rfl (Nat.le_of_ble_eq_true rfl) dX4_get_116 (fun H locs hw => ?_)
        refine lv_goto (tgt := 196) E.1 E.2.1 dX4_get_119 (by decide) ?_
        exact rV E hr hlk (HB.eq hw (by rw [mGet, if_pos (by omega), mYes, if_pos c54, if_pos c88])) dX4_get_196
    · skip
      refine lv_aload_n E.1 E.2.1 dX4_get_57 rfl (lv_at hl 2 rfl) ?_
      refine lv_iload_n E.1 E.2.1 dX4_get_58 rfl (lv_at hl 4 rfl) ?_
      refine lv_iload_n E.1 E.2.1 dX4_get_59 rfl (lv_at hl 5 rfl) ?_
      refine callVV E (c_X4_answer l G a (N) (x) d c (by omega) (by omega) (by omega)) mw_12_5 YX4_answer ⟨rfl, rfl⟩ ⟨Nat.le_of_ble_eq_true rfl, Nat.le_of_ble_eq_true rfl⟩ ⟨Nat.zero_le _, Nat.zero_le _⟩ hw 0 rfl rfl rfl hl rfl (Nat.le_of_ble_eq_true rfl) dX4_get_60 (fun H locs hw => ?_)
      exact rV E hr hlk (HB.eq hw (by rw [mGet, if_pos (by omega), mYes, if_neg c54])) dX4_get_63
  by_cases z17_2 : k = 2
  · refine lv_eqi (y := nI 2) (by rw [z17_2]) ?_
    refine lv_tableIn (tgt := 122) E.1 E.2.1 dX4_get_17 (by decide) (by decide) rfl (by decide) ?_
    refine lv_iload E.1 E.2.1 dX4_get_122 (lv_at hl 1 rfl) ?_
    refine lv_if_neN (tgt := 196) E.1 E.2.1 (by omega) dX4_get_124 (by decide) (fun c124 => ?_) (fun c124 => ?_)
    · skip
      exact rV E hr hlk (HB.eq hw (by rw [mGet, if_neg (by omega), if_pos (by omega), mNo, if_neg c124])) dX4_get_196
    · skip
      refine lv_aload_n E.1 E.2.1 dX4_get_127 rfl (lv_at hl 2 rfl) ?_
      refine lv_iload_n E.1 E.2.1 dX4_get_128 rfl (lv_at hl 4 rfl) ?_
      refine lv_iload E.1 E.2.1 dX4_get_129 (lv_at hl 0 rfl) ?_
      refine lv_iconst (v := nI 1) E.1 E.2.1 dX4_get_131 (by decide) ?_
      refine lv_iload_n E.1 E.2.1 dX4_get_132 rfl (lv_at hl 5 rfl) ?_
      refine lv_ishl E.1 E.2.1 dX4_get_133 (lv_eqi (y := nI (2 ^ c)) (shl_1 _ (by omega)) ?_)
      refine lv_iconst (v := -1) E.1 E.2.1 dX4_get_134 (by decide) ?_
      refine lv_ixor E.1 E.2.1 dX4_get_135 ?_
      refine lv_iand E.1 E.2.1 dX4_get_136 (lv_eqi (y := nI (N (30 + 14 * d + 0) &&& (15 ^^^ 2 ^ c))) (andn_nI _ (by omega) _ (pow_lt16 _ (by omega))) ?_)
      refine callVV E (c_X4_tear l G a (N) (x) d (N (30 + 14 * d + 0) &&& (15 ^^^ 2 ^ c)) (by omega) (and_lt16 (by omega)) (by omega)) mw_12_9 YX4_tear ⟨rfl, rfl⟩ ⟨Nat.le_of_ble_eq_true rfl, Nat.le_of_ble_eq_true rfl⟩ ⟨Nat.zero_le _, Nat.zero_le _⟩ hw 0 rfl rfl rfl hl rfl (Nat.le_of_ble_eq_true rfl) dX4_get_137 (fun H locs hw => ?_)
      refine lv_goto (tgt := 196) E.1 E.2.1 dX4_get_140 (by decide) ?_
      exact rV E hr hlk (HB.eq hw (by rw [mGet, if_neg (by omega), if_pos (by omega), mNo, if_pos c124])) dX4_get_196
  by_cases z17_3 : k = 3
  · refine lv_eqi (y := nI 3) (by rw [z17_3]) ?_
    refine lv_tableIn (tgt := 190) E.1 E.2.1 dX4_get_17 (by decide) (by decide) rfl (by decide) ?_
    refine lv_aload_n E.1 E.2.1 dX4_get_190 rfl (lv_at hl 2 rfl) ?_
    refine lv_iload_n E.1 E.2.1 dX4_get_191 rfl (lv_at hl 4 rfl) ?_
    refine lv_iload_n E.1 E.2.1 dX4_get_192 rfl (lv_at hl 5 rfl) ?_
    refine callVV E (c_X4_answer l G a (N) (x) d c (by omega) (by omega) (by omega)) mw_12_5 YX4_answer ⟨rfl, rfl⟩ ⟨Nat.le_of_ble_eq_true rfl, Nat.le_of_ble_eq_true rfl⟩ ⟨Nat.zero_le _, Nat.zero_le _⟩ hw 0 rfl rfl rfl hl rfl (Nat.le_of_ble_eq_true rfl) dX4_get_193 (fun H locs hw => ?_)
    exact rV E hr hlk (HB.eq hw (by rw [mGet, if_neg (by omega), if_neg (by omega), if_neg (by omega)])) dX4_get_196
  by_cases z17_4 : k = 4
  · refine lv_eqi (y := nI 4) (by rw [z17_4]) ?_
    refine lv_tableIn (tgt := 190) E.1 E.2.1 dX4_get_17 (by decide) (by decide) rfl (by decide) ?_
    refine lv_aload_n E.1 E.2.1 dX4_get_190 rfl (lv_at hl 2 rfl) ?_
    refine lv_iload_n E.1 E.2.1 dX4_get_191 rfl (lv_at hl 4 rfl) ?_
    refine lv_iload_n E.1 E.2.1 dX4_get_192 rfl (lv_at hl 5 rfl) ?_
    refine callVV E (c_X4_answer l G a (N) (x) d c (by omega) (by omega) (by omega)) mw_12_5 YX4_answer ⟨rfl, rfl⟩ ⟨Nat.le_of_ble_eq_true rfl, Nat.le_of_ble_eq_true rfl⟩ ⟨Nat.zero_le _, Nat.zero_le _⟩ hw 0 rfl rfl rfl hl rfl (Nat.le_of_ble_eq_true rfl) dX4_get_193 (fun H locs hw => ?_)
    exact rV E hr hlk (HB.eq hw (by rw [mGet, if_neg (by omega), if_neg (by omega), if_neg (by omega)])) dX4_get_196
  by_cases z17_5 : k = 5
  · refine lv_eqi (y := nI 5) (by rw [z17_5]) ?_
    refine lv_tableIn (tgt := 143) E.1 E.2.1 dX4_get_17 (by decide) (by decide) rfl (by decide) ?_
    refine lv_iload E.1 E.2.1 dX4_get_143 (lv_at hl 1 rfl) ?_
    refine lv_iconst (v := nI 1) E.1 E.2.1 dX4_get_145 (by decide) ?_
    refine lv_icmp_neN (tgt := 196) E.1 E.2.1 (by omega) (by omega) dX4_get_146 (by decide) (fun c146 => ?_) (fun c146 => ?_)
    · skip
      exact rV E hr hlk (HB.eq hw (by rw [mGet, if_neg (by omega), if_neg (by omega), if_pos (by omega), mGot, if_neg c146])) dX4_get_196
    · skip
      refine lv_aload_n E.1 E.2.1 dX4_get_149 rfl (lv_at hl 2 rfl) ?_
      refine lv_iload_n E.1 E.2.1 dX4_get_150 rfl (lv_at hl 4 rfl) ?_
      refine lv_iconst (v := nI 5) E.1 E.2.1 dX4_get_151 (by decide) ?_
      refine lv_aload_n E.1 E.2.1 dX4_get_152 rfl (lv_at hl 2 rfl) ?_
      refine lv_iload_n E.1 E.2.1 dX4_get_153 rfl (lv_at hl 4 rfl) ?_
      refine lv_iconst (v := nI 5) E.1 E.2.1 dX4_get_154 (by decide) ?_
      refine callVI E (c_X4_of l G a (N) (x) d 5 (N (30 + 14 * d + 5)) (by omega) (rfl)) mw_12_1 YX4_of ⟨rfl, rfl⟩ ⟨Nat.le_of_ble_eq_true rfl, Nat.le_of_ble_eq_true rfl⟩ ⟨Nat.zero_le _, Nat.zero_le _⟩ hw 0 rfl rfl rfl hl rfl (Nat.le_of_ble_eq_true rfl) dX4_get_155 (fun H locs hw => ?_)
      refine lv_iconst (v := nI 1) E.1 E.2.1 dX4_get_158 (by decide) ?_
      refine lv_iload_n E.1 E.2.1 dX4_get_159 rfl (lv_at hl 5 rfl) ?_
      refine lv_ishl E.1 E.2.1 dX4_get_160 (lv_eqi (y := nI (2 ^ c)) (shl_1 _ (by omega)) ?_)
      refine lv_ior E.1 E.2.1 dX4_get_161 (lv_eqi (y := nI (N (30 + 14 * d + 5) ||| 2 ^ c)) (or_nI _ _) ?_)
      refine callVV E (c_X4_book l G a (N) (x) d 5 (N (30 + 14 * d + 5) ||| 2 ^ c) (by omega)) mw_7_19 YX4_book ⟨rfl, rfl⟩ ⟨Nat.le_of_ble_eq_true rfl, Nat.le_of_ble_eq_true rfl⟩ ⟨Nat.zero_le _, Nat.zero_le _⟩ hw 0 rfl rfl rfl hl rfl (Nat.le_of_ble_eq_true rfl) dX4_get_162 (fun H locs hw => ?_)
      refine lv_aload_n E.1 E.2.1 dX4_get_165 rfl (lv_at hl 2 rfl) ?_
      refine lv_iload_n E.1 E.2.1 dX4_get_166 rfl (lv_at hl 4 rfl) ?_
      refine lv_iconst (v := nI 1) E.1 E.2.1 dX4_get_167 (by decide) ?_
      refine lv_aload_n E.1 E.2.1 dX4_get_168 rfl (lv_at hl 2 rfl) ?_
      refine lv_iload_n E.1 E.2.1 dX4_get_169 rfl (lv_at hl 4 rfl) ?_
      refine lv_iconst (v := nI 5) E.1 E.2.1 dX4_get_170 (by decide) ?_
      refine callVI E (c_X4_of l G a (un (N) (30 + 14 * d + 5) (N (30 + 14 * d + 5) ||| 2 ^ c)) (x) d 5 (N (30 + 14 * d + 5) ||| 2 ^ c) (by omega) (by rw [un_s])) mw_12_1 YX4_of ⟨rfl, rfl⟩ ⟨Nat.le_of_ble_eq_true rfl, Nat.le_of_ble_eq_true rfl⟩ ⟨Nat.zero_le _, Nat.zero_le _⟩ hw 0 rfl rfl rfl hl rfl (Nat.le_of_ble_eq_true rfl) dX4_get_171 (fun H locs hw => ?_)
      refine lv_iload E.1 E.2.1 dX4_get_174 (lv_at hl 0 rfl) ?_
      refine lv_icmp_neN (tgt := 183) E.1 E.2.1 (by omega) (by omega) dX4_get_176 (by decide) (fun c176 => ?_) (fun c176 => ?_)
      · skip
        refine lv_iconst (v := nI 1) E.1 E.2.1 dX4_get_183 (by decide) ?_
        refine callVV E (c_X4_book l G a (un (N) (30 + 14 * d + 5) (N (30 + 14 * d + 5) ||| 2 ^ c)) (x) d 1 1 (by omega)) mw_7_19 YX4_book ⟨rfl, rfl⟩ ⟨Nat.le_of_ble_eq_true rfl, Nat.le_of_ble_eq_true rfl⟩ ⟨Nat.zero_le _, Nat.zero_le _⟩ hw 0 rfl rfl rfl hl rfl (Nat.le_of_ble_eq_true rfl) dX4_get_184 (fun H locs hw => ?_)
        refine lv_goto (tgt := 196) E.1 E.2.1 dX4_get_187 (by decide) ?_
        exact rV E hr hlk (HB.eq hw (by rw [mGet, if_neg (by omega), if_neg (by omega), if_pos (by omega), mGot, if_pos c146, if_neg c176])) dX4_get_196
      · skip
        refine lv_iconst (v := nI 3) E.1 E.2.1 dX4_get_179 (by decide) ?_
        refine lv_goto (tgt := 184) E.1 E.2.1 dX4_get_180 (by decide) ?_
        refine callVV E (c_X4_book l G a (un (N) (30 + 14 * d + 5) (N (30 + 14 * d + 5) ||| 2 ^ c)) (x) d 1 3 (by omega)) mw_7_19 YX4_book ⟨rfl, rfl⟩ ⟨Nat.le_of_ble_eq_true rfl, Nat.le_of_ble_eq_true rfl⟩ ⟨Nat.zero_le _, Nat.zero_le _⟩ hw 0 rfl rfl rfl hl rfl (Nat.le_of_ble_eq_true rfl) dX4_get_184 (fun H locs hw => ?_)
        refine lv_goto (tgt := 196) E.1 E.2.1 dX4_get_187 (by decide) ?_
        exact rV E hr hlk (HB.eq hw (by rw [mGet, if_neg (by omega), if_neg (by omega), if_pos (by omega), mGot, if_pos c146, if_pos c176])) dX4_get_196
  refine lv_tableOutN (tgt := 190) E.1 E.2.1 (by omega) dX4_get_17 (by omega) (by decide) ?_
  refine lv_aload_n E.1 E.2.1 dX4_get_190 rfl (lv_at hl 2 rfl) ?_
  refine lv_iload_n E.1 E.2.1 dX4_get_191 rfl (lv_at hl 4 rfl) ?_
  refine lv_iload_n E.1 E.2.1 dX4_get_192 rfl (lv_at hl 5 rfl) ?_
  refine callVV E (c_X4_answer l G a (N) (x) d c (by omega) (by omega) (by omega)) mw_12_5 YX4_answer ⟨rfl, rfl⟩ ⟨Nat.le_of_ble_eq_true rfl, Nat.le_of_ble_eq_true rfl⟩ ⟨Nat.zero_le _, Nat.zero_le _⟩ hw 0 rfl rfl rfl hl rfl (Nat.le_of_ble_eq_true rfl) dX4_get_193 (fun H locs hw => ?_)
  exact rV E hr hlk (HB.eq hw (by rw [mGet, if_neg (by omega), if_neg (by omega), if_neg (by omega)])) dX4_get_196
theorem YX4_become : YV yX4_become RX4 cX4_become 4 none 3 := ⟨mw_12_18, mw_12_19, mw_1_5, mw_12_20, by decide +kernel⟩
set_option maxHeartbeats 4000000 in
set_option maxRecDepth 100000 in
theorem c_X4_become (l : Launch) (G : GP) (a : Nat → Nat) (N : NS) (x : MX) (d c v : Nat) (hd : d < 8) (hc : c < 4) : MV l yX4_become (.code yX4_become cX4_become 4 none :: GW) ({ frames := 1, cells := 0, slots := 0, locals := 23 }) [.ref (a 0), .int (nI (d)), .int (nI (c)), .int (nI (v))] G ES (mN G a (N) (x)) (mN G a (un N (30 + 14 * d + (6 + c)) v) (x)) := by
  refine MV.of (own := RX4) rfl rfl (Nat.le_of_ble_eq_true rfl) ?_
  intro pP eE sS mM below meth cC ls AA E hw hl hr hlk hE
  replace hl : lv_has ls 4 [(0, .ref (a 0)), (1, .int (nI (d))), (2, .int (nI (c))), (3, .int (nI (v)))] := hl
  refine lv_aload_n E.1 E.2.1 dX4_become_0 rfl (lv_at hl 0 rfl) ?_
  refine lv_iload_n E.1 E.2.1 dX4_become_1 rfl (lv_at hl 1 rfl) ?_
  refine lv_bipush (v := nI 6) E.1 E.2.1 dX4_become_2 (by decide) ?_
  refine lv_iload_n E.1 E.2.1 dX4_become_4 rfl (lv_at hl 2 rfl) ?_
  refine lv_addN E.1 E.2.1 dX4_become_5 ?_
  refine lv_iload_n E.1 E.2.1 dX4_become_6 rfl (lv_at hl 3 rfl) ?_
  refine callVV E (c_X4_book l G a (N) (x) d (6 + c) v (by omega)) mw_7_19 YX4_book ⟨rfl, rfl⟩ ⟨Nat.le_of_ble_eq_true rfl, Nat.le_of_ble_eq_true rfl⟩ ⟨Nat.zero_le _, Nat.zero_le _⟩ hw 0 rfl rfl rfl hl rfl (Nat.le_of_ble_eq_true rfl) dX4_become_7 (fun H locs hw => ?_)
  exact rV E hr hlk (HB.eq hw (rfl)) dX4_become_10
theorem YX4_getBy : YV yX4_getBy RX4 cX4_getBy 6 none 4 := ⟨mw_12_14, mw_12_15, mw_1_5, mw_12_16, by decide +kernel⟩
set_option maxHeartbeats 4000000 in
set_option maxRecDepth 100000 in
theorem c_X4_getBy (l : Launch) (G : GP) (a : Nat → Nat) (N : NS) (x : MX) (c k d f : Nat) (hc : c < 4) (hk : k < 2 ^ 31) (hd : d < 8) (hf : f < 5) (hF : FI N) : MV l yX4_getBy (.code yX4_getBy cX4_getBy 6 none :: GW) ({ frames := 2, cells := 0, slots := 0, locals := 46 }) [.ref (a 0), .int (nI (c)), .int (nI (k)), .int (nI (d)), .int (nI (f))] G ES (mN G a (N) (x)) (mN G a (mGetBy c k d f N) (x)) := by
  refine MV.of (own := RX4) rfl rfl (Nat.le_of_ble_eq_true rfl) ?_
  intro pP eE sS mM below meth cC ls AA E hw hl hr hlk hE
  replace hl : lv_has ls 6 [(0, .ref (a 0)), (1, .int (nI (c))), (2, .int (nI (k))), (3, .int (nI (d))), (4, .int (nI (f)))] := hl
  have h6 := hF.1
  have h5 := hF.2.1
  have h7 := hF.f6 hd hc
  have h8 := hF.wl hc
  refine lv_aload_n E.1 E.2.1 dX4_getBy_0 rfl (lv_at hl 0 rfl) ?_
  refine lv_iload_n E.1 E.2.1 dX4_getBy_1 rfl (lv_at hl 3 rfl) ?_
  refine lv_bipush (v := nI 6) E.1 E.2.1 dX4_getBy_2 (by decide) ?_
  refine lv_iload_n E.1 E.2.1 dX4_getBy_4 rfl (lv_at hl 1 rfl) ?_
  refine lv_addN E.1 E.2.1 dX4_getBy_5 ?_
  refine callVI E (c_X4_of l G a (N) (x) d (6 + c) (N (30 + 14 * d + (6 + c))) (by omega) (rfl)) mw_12_1 YX4_of ⟨rfl, rfl⟩ ⟨Nat.le_of_ble_eq_true rfl, Nat.le_of_ble_eq_true rfl⟩ ⟨Nat.zero_le _, Nat.zero_le _⟩ hw 0 rfl rfl rfl hl rfl (Nat.le_of_ble_eq_true rfl) dX4_getBy_6 (fun H locs hw => ?_)
  refine lv_istore (lv' := [(5, .int (nI (N (30 + 14 * d + (6 + c))))), (0, .ref (a 0)), (1, .int (nI (c))), (2, .int (nI (k))), (3, .int (nI (d))), (4, .int (nI (f)))]) E.1 E.2.1 dX4_getBy_9 hl (by decide) rfl (fun ls hl => ?_)
  refine lv_iload_n E.1 E.2.1 dX4_getBy_11 rfl (lv_at hl 3 rfl) ?_
  by_cases z12_0 : k = 0
  · refine lv_eqi (y := nI 0) (by rw [z12_0]) ?_
    refine lv_tableIn (tgt := 48) E.1 E.2.1 dX4_getBy_12 (by decide) (by decide) rfl (by decide) ?_
    refine lv_iload E.1 E.2.1 dX4_getBy_48 (lv_at hl 0 rfl) ?_
    refine lv_if_neN (tgt := 91) E.1 E.2.1 (by omega) dX4_getBy_50 (by decide) (fun c50 => ?_) (fun c50 => ?_)
    · skip
      refine lv_iload E.1 E.2.1 dX4_getBy_91 (lv_at hl 0 rfl) ?_
      refine lv_if_neN (tgt := 103) E.1 E.2.1 (by omega) dX4_getBy_93 (by decide) (fun c93 => ?_) (fun c93 => ?_)
      · skip
        refine lv_aload_n E.1 E.2.1 dX4_getBy_103 rfl (lv_at hl 1 rfl) ?_
        refine lv_iload_n E.1 E.2.1 dX4_getBy_104 rfl (lv_at hl 4 rfl) ?_
        refine lv_bipush (v := nI 6) E.1 E.2.1 dX4_getBy_105 (by decide) ?_
        refine lv_iload_n E.1 E.2.1 dX4_getBy_107 rfl (lv_at hl 2 rfl) ?_
        refine lv_addN E.1 E.2.1 dX4_getBy_108 ?_
        refine callVI E (c_X4_of l G a (N) (x) d (6 + c) (N (30 + 14 * d + (6 + c))) (by omega) (rfl)) mw_12_1 YX4_of ⟨rfl, rfl⟩ ⟨Nat.le_of_ble_eq_true rfl, Nat.le_of_ble_eq_true rfl⟩ ⟨Nat.zero_le _, Nat.zero_le _⟩ hw 0 rfl rfl rfl hl rfl (Nat.le_of_ble_eq_true rfl) dX4_getBy_109 (fun H locs hw => ?_)
        refine lv_iconst (v := nI 2) E.1 E.2.1 dX4_getBy_112 (by decide) ?_
        refine lv_icmp_eqN (tgt := 266) E.1 E.2.1 (by omega) (by omega) dX4_getBy_113 (by decide) (fun c113 => ?_) (fun c113 => ?_)
        · skip
          exact rV E hr hlk (HB.eq hw (by rw [mGetBy, if_pos (by omega), mAsk, if_neg (by omega), if_pos (by omega)])) dX4_getBy_266
        · skip
          refine lv_aload_n E.1 E.2.1 dX4_getBy_116 rfl (lv_at hl 1 rfl) ?_
          refine lv_aload_n E.1 E.2.1 dX4_getBy_117 rfl (lv_at hl 1 rfl) ?_
          refine lv_iload_n E.1 E.2.1 dX4_getBy_118 rfl (lv_at hl 4 rfl) ?_
          refine lv_bipush (v := nI 6) E.1 E.2.1 dX4_getBy_119 (by decide) ?_
          refine lv_iload_n E.1 E.2.1 dX4_getBy_121 rfl (lv_at hl 2 rfl) ?_
          refine lv_addN E.1 E.2.1 dX4_getBy_122 ?_
          refine callVI E (c_X4_of l G a (N) (x) d (6 + c) (N (30 + 14 * d + (6 + c))) (by omega) (rfl)) mw_12_1 YX4_of ⟨rfl, rfl⟩ ⟨Nat.le_of_ble_eq_true rfl, Nat.le_of_ble_eq_true rfl⟩ ⟨Nat.zero_le _, Nat.zero_le _⟩ hw 0 rfl rfl rfl hl rfl (Nat.le_of_ble_eq_true rfl) dX4_getBy_123 (fun H locs hw => ?_)
          refine lv_iconst (v := nI 1) E.1 E.2.1 dX4_getBy_126 (by decide) ?_
          refine lv_icmp_neN (tgt := 134) E.1 E.2.1 (by omega) (by omega) dX4_getBy_127 (by decide) (fun c127 => ?_) (fun c127 => ?_)
          · skip
            refine lv_iconst (v := nI 2) E.1 E.2.1 dX4_getBy_134 (by decide) ?_
            refine lv_iload_n E.1 E.2.1 dX4_getBy_135 rfl (lv_at hl 4 rfl) ?_
            refine lv_iload_n E.1 E.2.1 dX4_getBy_136 rfl (lv_at hl 2 rfl) ?_
            refine lv_iconst (v := nI 4) E.1 E.2.1 dX4_getBy_137 (by decide) ?_
            refine callVV E (c_X4_send l G a (N) (x) 2 d c 4 (by omega) (by first | exact h6 | (rw [un_n (by omega), un_n (by omega)]; exact h6) | (rw [un_n (by omega)]; exact h6))) mw_8_6 YX4_send ⟨rfl, rfl⟩ ⟨Nat.le_of_ble_eq_true rfl, Nat.le_of_ble_eq_true rfl⟩ ⟨Nat.zero_le _, Nat.zero_le _⟩ hw 0 rfl rfl rfl hl rfl (Nat.le_of_ble_eq_true rfl) dX4_getBy_138 (fun H locs hw => ?_)
            refine lv_goto (tgt := 266) E.1 E.2.1 dX4_getBy_141 (by decide) ?_
            exact rV E hr hlk (HB.eq hw (by rw [mGetBy, if_pos (by omega), mAsk, if_neg (by omega), if_neg (by omega), if_neg (by omega)])) dX4_getBy_266
          · skip
            refine lv_iconst (v := nI 1) E.1 E.2.1 dX4_getBy_130 (by decide) ?_
            refine lv_goto (tgt := 135) E.1 E.2.1 dX4_getBy_131 (by decide) ?_
            refine lv_iload_n E.1 E.2.1 dX4_getBy_135 rfl (lv_at hl 4 rfl) ?_
            refine lv_iload_n E.1 E.2.1 dX4_getBy_136 rfl (lv_at hl 2 rfl) ?_
            refine lv_iconst (v := nI 4) E.1 E.2.1 dX4_getBy_137 (by decide) ?_
            refine callVV E (c_X4_send l G a (N) (x) 1 d c 4 (by omega) (by first | exact h6 | (rw [un_n (by omega), un_n (by omega)]; exact h6) | (rw [un_n (by omega)]; exact h6))) mw_8_6 YX4_send ⟨rfl, rfl⟩ ⟨Nat.le_of_ble_eq_true rfl, Nat.le_of_ble_eq_true rfl⟩ ⟨Nat.zero_le _, Nat.zero_le _⟩ hw 0 rfl rfl rfl hl rfl (Nat.le_of_ble_eq_true rfl) dX4_getBy_138 (fun H locs hw => ?_)
            refine lv_goto (tgt := 266) E.1 E.2.1 dX4_getBy_141 (by decide) ?_
            exact rV E hr hlk (HB.eq hw (by rw [mGetBy, if_pos (by omega), mAsk, if_neg (by omega), if_neg (by omega), if_pos (by omega)])) dX4_getBy_266
      · exact absurd c93 c50
    · skip
      refine lv_aload_n E.1 E.2.1 dX4_getBy_53 rfl (lv_at hl 1 rfl) ?_
      refine gX4_0 E hw mw_3_8 dX4_getBy_54 ?_
      refine lv_bipush (v := nI 15) E.1 E.2.1 dX4_getBy_57 (by decide) ?_
      refine lv_iload_n E.1 E.2.1 dX4_getBy_59 rfl (lv_at hl 2 rfl) ?_
      refine lv_addN E.1 E.2.1 dX4_getBy_60 ?_
      refine lN4_0 E hw (v := N (15 + c)) (by omega) (rfl) dX4_getBy_61 ?_
      refine lv_iconst (v := nI 1) E.1 E.2.1 dX4_getBy_62 (by decide) ?_
      refine lv_icmp_neN (tgt := 91) E.1 E.2.1 (by omega) (by omega) dX4_getBy_63 (by decide) (fun c63 => ?_) (fun c63 => ?_)
      · skip
        refine lv_iload E.1 E.2.1 dX4_getBy_91 (lv_at hl 0 rfl) ?_
        refine lv_if_neN (tgt := 103) E.1 E.2.1 (by omega) dX4_getBy_93 (by decide) (fun c93 => ?_) (fun c93 => ?_)
        · exact absurd c50 c93
        · skip
          refine lv_aload_n E.1 E.2.1 dX4_getBy_96 rfl (lv_at hl 1 rfl) ?_
          refine lv_iload_n E.1 E.2.1 dX4_getBy_97 rfl (lv_at hl 4 rfl) ?_
          refine lv_iload_n E.1 E.2.1 dX4_getBy_98 rfl (lv_at hl 2 rfl) ?_
          refine lv_iconst (v := nI 3) E.1 E.2.1 dX4_getBy_99 (by decide) ?_
          refine callVV E (c_X4_become l G a (N) (x) d c 3 (by omega) (by omega)) mw_12_17 YX4_become ⟨rfl, rfl⟩ ⟨Nat.le_of_ble_eq_true rfl, Nat.le_of_ble_eq_true rfl⟩ ⟨Nat.zero_le _, Nat.zero_le _⟩ hw 0 rfl rfl rfl hl rfl (Nat.le_of_ble_eq_true rfl) dX4_getBy_100 (fun H locs hw => ?_)
          refine lv_aload_n E.1 E.2.1 dX4_getBy_103 rfl (lv_at hl 1 rfl) ?_
          refine lv_iload_n E.1 E.2.1 dX4_getBy_104 rfl (lv_at hl 4 rfl) ?_
          refine lv_bipush (v := nI 6) E.1 E.2.1 dX4_getBy_105 (by decide) ?_
          refine lv_iload_n E.1 E.2.1 dX4_getBy_107 rfl (lv_at hl 2 rfl) ?_
          refine lv_addN E.1 E.2.1 dX4_getBy_108 ?_
          refine callVI E (c_X4_of l G a (un (N) (30 + 14 * d + (6 + c)) (3)) (x) d (6 + c) (3) (by omega) (by rw [un_s])) mw_12_1 YX4_of ⟨rfl, rfl⟩ ⟨Nat.le_of_ble_eq_true rfl, Nat.le_of_ble_eq_true rfl⟩ ⟨Nat.zero_le _, Nat.zero_le _⟩ hw 0 rfl rfl rfl hl rfl (Nat.le_of_ble_eq_true rfl) dX4_getBy_109 (fun H locs hw => ?_)
          refine lv_iconst (v := nI 2) E.1 E.2.1 dX4_getBy_112 (by decide) ?_
          refine lv_icmp_eqN (tgt := 266) E.1 E.2.1 (by omega) (by omega) dX4_getBy_113 (by decide) (fun c113 => ?_) (fun c113 => ?_)
          · exact absurd c113 (by decide)
          · skip
            refine lv_aload_n E.1 E.2.1 dX4_getBy_116 rfl (lv_at hl 1 rfl) ?_
            refine lv_aload_n E.1 E.2.1 dX4_getBy_117 rfl (lv_at hl 1 rfl) ?_
            refine lv_iload_n E.1 E.2.1 dX4_getBy_118 rfl (lv_at hl 4 rfl) ?_
            refine lv_bipush (v := nI 6) E.1 E.2.1 dX4_getBy_119 (by decide) ?_
            refine lv_iload_n E.1 E.2.1 dX4_getBy_121 rfl (lv_at hl 2 rfl) ?_
            refine lv_addN E.1 E.2.1 dX4_getBy_122 ?_
            refine callVI E (c_X4_of l G a (un (N) (30 + 14 * d + (6 + c)) (3)) (x) d (6 + c) (3) (by omega) (by rw [un_s])) mw_12_1 YX4_of ⟨rfl, rfl⟩ ⟨Nat.le_of_ble_eq_true rfl, Nat.le_of_ble_eq_true rfl⟩ ⟨Nat.zero_le _, Nat.zero_le _⟩ hw 0 rfl rfl rfl hl rfl (Nat.le_of_ble_eq_true rfl) dX4_getBy_123 (fun H locs hw => ?_)
            refine lv_iconst (v := nI 1) E.1 E.2.1 dX4_getBy_126 (by decide) ?_
            refine lv_icmp_neN (tgt := 134) E.1 E.2.1 (by omega) (by omega) dX4_getBy_127 (by decide) (fun c127 => ?_) (fun c127 => ?_)
            · skip
              refine lv_iconst (v := nI 2) E.1 E.2.1 dX4_getBy_134 (by decide) ?_
              refine lv_iload_n E.1 E.2.1 dX4_getBy_135 rfl (lv_at hl 4 rfl) ?_
              refine lv_iload_n E.1 E.2.1 dX4_getBy_136 rfl (lv_at hl 2 rfl) ?_
              refine lv_iconst (v := nI 4) E.1 E.2.1 dX4_getBy_137 (by decide) ?_
              refine callVV E (c_X4_send l G a (un (N) (30 + 14 * d + (6 + c)) (3)) (x) 2 d c 4 (by omega) (by first | exact h6 | (rw [un_n (by omega), un_n (by omega)]; exact h6) | (rw [un_n (by omega)]; exact h6))) mw_8_6 YX4_send ⟨rfl, rfl⟩ ⟨Nat.le_of_ble_eq_true rfl, Nat.le_of_ble_eq_true rfl⟩ ⟨Nat.zero_le _, Nat.zero_le _⟩ hw 0 rfl rfl rfl hl rfl (Nat.le_of_ble_eq_true rfl) dX4_getBy_138 (fun H locs hw => ?_)
              refine lv_goto (tgt := 266) E.1 E.2.1 dX4_getBy_141 (by decide) ?_
              exact rV E hr hlk (HB.eq hw (by rw [mGetBy, if_pos (by omega), mAsk, if_pos (by omega), if_neg (by omega)])) dX4_getBy_266
            · exact absurd c127 (by decide)
      · skip
        refine lv_aload_n E.1 E.2.1 dX4_getBy_66 rfl (lv_at hl 1 rfl) ?_
        refine lv_iload_n E.1 E.2.1 dX4_getBy_67 rfl (lv_at hl 4 rfl) ?_
        refine lv_bipush (v := nI 10) E.1 E.2.1 dX4_getBy_68 (by decide) ?_
        refine lv_iload_n E.1 E.2.1 dX4_getBy_70 rfl (lv_at hl 2 rfl) ?_
        refine lv_addN E.1 E.2.1 dX4_getBy_71 ?_
        refine lv_aload_n E.1 E.2.1 dX4_getBy_72 rfl (lv_at hl 1 rfl) ?_
        refine gX4_0 E hw mw_3_8 dX4_getBy_73 ?_
        refine lv_iconst (v := nI 4) E.1 E.2.1 dX4_getBy_76 (by decide) ?_
        refine lN4_0 E hw (v := N 4) (by omega) (rfl) dX4_getBy_77 ?_
        refine callVV E (c_X4_book l G a (N) (x) d (10 + c) (N 4) (by omega)) mw_7_19 YX4_book ⟨rfl, rfl⟩ ⟨Nat.le_of_ble_eq_true rfl, Nat.le_of_ble_eq_true rfl⟩ ⟨Nat.zero_le _, Nat.zero_le _⟩ hw 0 rfl rfl rfl hl rfl (Nat.le_of_ble_eq_true rfl) dX4_getBy_78 (fun H locs hw => ?_)
        refine lv_aload_n E.1 E.2.1 dX4_getBy_81 rfl (lv_at hl 1 rfl) ?_
        refine lv_iload_n E.1 E.2.1 dX4_getBy_82 rfl (lv_at hl 4 rfl) ?_
        refine lv_iload_n E.1 E.2.1 dX4_getBy_83 rfl (lv_at hl 2 rfl) ?_
        refine lv_iconst (v := nI 1) E.1 E.2.1 dX4_getBy_84 (by decide) ?_
        refine callVV E (c_X4_become l G a (un (N) (30 + 14 * d + (10 + c)) (N 4)) (x) d c 1 (by omega) (by omega)) mw_12_17 YX4_become ⟨rfl, rfl⟩ ⟨Nat.le_of_ble_eq_true rfl, Nat.le_of_ble_eq_true rfl⟩ ⟨Nat.zero_le _, Nat.zero_le _⟩ hw 0 rfl rfl rfl hl rfl (Nat.le_of_ble_eq_true rfl) dX4_getBy_85 (fun H locs hw => ?_)
        refine lv_goto (tgt := 103) E.1 E.2.1 dX4_getBy_88 (by decide) ?_
        refine lv_aload_n E.1 E.2.1 dX4_getBy_103 rfl (lv_at hl 1 rfl) ?_
        refine lv_iload_n E.1 E.2.1 dX4_getBy_104 rfl (lv_at hl 4 rfl) ?_
        refine lv_bipush (v := nI 6) E.1 E.2.1 dX4_getBy_105 (by decide) ?_
        refine lv_iload_n E.1 E.2.1 dX4_getBy_107 rfl (lv_at hl 2 rfl) ?_
        refine lv_addN E.1 E.2.1 dX4_getBy_108 ?_
        refine callVI E (c_X4_of l G a (un (un (N) (30 + 14 * d + (10 + c)) (N 4)) (30 + 14 * d + (6 + c)) (1)) (x) d (6 + c) (1) (by omega) (by rw [un_s])) mw_12_1 YX4_of ⟨rfl, rfl⟩ ⟨Nat.le_of_ble_eq_true rfl, Nat.le_of_ble_eq_true rfl⟩ ⟨Nat.zero_le _, Nat.zero_le _⟩ hw 0 rfl rfl rfl hl rfl (Nat.le_of_ble_eq_true rfl) dX4_getBy_109 (fun H locs hw => ?_)
        refine lv_iconst (v := nI 2) E.1 E.2.1 dX4_getBy_112 (by decide) ?_
        refine lv_icmp_eqN (tgt := 266) E.1 E.2.1 (by omega) (by omega) dX4_getBy_113 (by decide) (fun c113 => ?_) (fun c113 => ?_)
        · exact absurd c113 (by decide)
        · skip
          refine lv_aload_n E.1 E.2.1 dX4_getBy_116 rfl (lv_at hl 1 rfl) ?_
          refine lv_aload_n E.1 E.2.1 dX4_getBy_117 rfl (lv_at hl 1 rfl) ?_
          refine lv_iload_n E.1 E.2.1 dX4_getBy_118 rfl (lv_at hl 4 rfl) ?_
          refine lv_bipush (v := nI 6) E.1 E.2.1 dX4_getBy_119 (by decide) ?_
          refine lv_iload_n E.1 E.2.1 dX4_getBy_121 rfl (lv_at hl 2 rfl) ?_
          refine lv_addN E.1 E.2.1 dX4_getBy_122 ?_
          refine callVI E (c_X4_of l G a (un (un (N) (30 + 14 * d + (10 + c)) (N 4)) (30 + 14 * d + (6 + c)) (1)) (x) d (6 + c) (1) (by omega) (by rw [un_s])) mw_12_1 YX4_of ⟨rfl, rfl⟩ ⟨Nat.le_of_ble_eq_true rfl, Nat.le_of_ble_eq_true rfl⟩ ⟨Nat.zero_le _, Nat.zero_le _⟩ hw 0 rfl rfl rfl hl rfl (Nat.le_of_ble_eq_true rfl) dX4_getBy_123 (fun H locs hw => ?_)
          refine lv_iconst (v := nI 1) E.1 E.2.1 dX4_getBy_126 (by decide) ?_
          refine lv_icmp_neN (tgt := 134) E.1 E.2.1 (by omega) (by omega) dX4_getBy_127 (by decide) (fun c127 => ?_) (fun c127 => ?_)
          · exact absurd c127 (by decide)
          · skip
            refine lv_iconst (v := nI 1) E.1 E.2.1 dX4_getBy_130 (by decide) ?_
            refine lv_goto (tgt := 135) E.1 E.2.1 dX4_getBy_131 (by decide) ?_
            refine lv_iload_n E.1 E.2.1 dX4_getBy_135 rfl (lv_at hl 4 rfl) ?_
            refine lv_iload_n E.1 E.2.1 dX4_getBy_136 rfl (lv_at hl 2 rfl) ?_
            refine lv_iconst (v := nI 4) E.1 E.2.1 dX4_getBy_137 (by decide) ?_
            refine callVV E (c_X4_send l G a (un (un (N) (30 + 14 * d + (10 + c)) (N 4)) (30 + 14 * d + (6 + c)) (1)) (x) 1 d c 4 (by omega) (by first | exact h6 | (rw [un_n (by omega), un_n (by omega)]; exact h6) | (rw [un_n (by omega)]; exact h6))) mw_8_6 YX4_send ⟨rfl, rfl⟩ ⟨Nat.le_of_ble_eq_true rfl, Nat.le_of_ble_eq_true rfl⟩ ⟨Nat.zero_le _, Nat.zero_le _⟩ hw 0 rfl rfl rfl hl rfl (Nat.le_of_ble_eq_true rfl) dX4_getBy_138 (fun H locs hw => ?_)
            refine lv_goto (tgt := 266) E.1 E.2.1 dX4_getBy_141 (by decide) ?_
            exact rV E hr hlk (HB.eq hw (by rw [mGetBy, if_pos (by omega), mAsk, if_pos (by omega), if_pos (by omega)])) dX4_getBy_266
  by_cases z12_1 : k = 1
  · refine lv_eqi (y := nI 1) (by rw [z12_1]) ?_
    refine lv_tableIn (tgt := 202) E.1 E.2.1 dX4_getBy_12 (by decide) (by decide) rfl (by decide) ?_
    refine lv_iload E.1 E.2.1 dX4_getBy_202 (lv_at hl 0 rfl) ?_
    refine lv_if_neN (tgt := 214) E.1 E.2.1 (by omega) dX4_getBy_204 (by decide) (fun c204 => ?_) (fun c204 => ?_)
    · skip
      refine lv_aload_n E.1 E.2.1 dX4_getBy_214 rfl (lv_at hl 1 rfl) ?_
      refine lv_iload_n E.1 E.2.1 dX4_getBy_215 rfl (lv_at hl 4 rfl) ?_
      refine lv_bipush (v := nI 6) E.1 E.2.1 dX4_getBy_216 (by decide) ?_
      refine lv_iload_n E.1 E.2.1 dX4_getBy_218 rfl (lv_at hl 2 rfl) ?_
      refine lv_addN E.1 E.2.1 dX4_getBy_219 ?_
      refine callVI E (c_X4_of l G a (N) (x) d (6 + c) (N (30 + 14 * d + (6 + c))) (by omega) (rfl)) mw_12_1 YX4_of ⟨rfl, rfl⟩ ⟨Nat.le_of_ble_eq_true rfl, Nat.le_of_ble_eq_true rfl⟩ ⟨Nat.zero_le _, Nat.zero_le _⟩ hw 0 rfl rfl rfl hl rfl (Nat.le_of_ble_eq_true rfl) dX4_getBy_220 (fun H locs hw => ?_)
      refine lv_iconst (v := nI 2) E.1 E.2.1 dX4_getBy_223 (by decide) ?_
      refine lv_icmp_eqN (tgt := 240) E.1 E.2.1 (by omega) (by omega) dX4_getBy_224 (by decide) (fun c224 => ?_) (fun c224 => ?_)
      · skip
        refine lv_aload_n E.1 E.2.1 dX4_getBy_240 rfl (lv_at hl 1 rfl) ?_
        refine lv_aload_n E.1 E.2.1 dX4_getBy_241 rfl (lv_at hl 1 rfl) ?_
        refine lv_iload_n E.1 E.2.1 dX4_getBy_242 rfl (lv_at hl 4 rfl) ?_
        refine lv_bipush (v := nI 6) E.1 E.2.1 dX4_getBy_243 (by decide) ?_
        refine lv_iload_n E.1 E.2.1 dX4_getBy_245 rfl (lv_at hl 2 rfl) ?_
        refine lv_addN E.1 E.2.1 dX4_getBy_246 ?_
        refine callVI E (c_X4_of l G a (N) (x) d (6 + c) (N (30 + 14 * d + (6 + c))) (by omega) (rfl)) mw_12_1 YX4_of ⟨rfl, rfl⟩ ⟨Nat.le_of_ble_eq_true rfl, Nat.le_of_ble_eq_true rfl⟩ ⟨Nat.zero_le _, Nat.zero_le _⟩ hw 0 rfl rfl rfl hl rfl (Nat.le_of_ble_eq_true rfl) dX4_getBy_247 (fun H locs hw => ?_)
        refine lv_iconst (v := nI 2) E.1 E.2.1 dX4_getBy_250 (by decide) ?_
        refine lv_icmp_neN (tgt := 258) E.1 E.2.1 (by omega) (by omega) dX4_getBy_251 (by decide) (fun c251 => ?_) (fun c251 => ?_)
        · exact absurd c224 c251
        · skip
          refine lv_iconst (v := nI 3) E.1 E.2.1 dX4_getBy_254 (by decide) ?_
          refine lv_goto (tgt := 259) E.1 E.2.1 dX4_getBy_255 (by decide) ?_
          refine lv_iload_n E.1 E.2.1 dX4_getBy_259 rfl (lv_at hl 4 rfl) ?_
          refine lv_iload_n E.1 E.2.1 dX4_getBy_260 rfl (lv_at hl 2 rfl) ?_
          refine lv_iload E.1 E.2.1 dX4_getBy_261 (lv_at hl 5 rfl) ?_
          refine callVV E (c_X4_send l G a (N) (x) 3 d c f (by omega) (by first | exact h6 | (rw [un_n (by omega)]; exact h6))) mw_8_6 YX4_send ⟨rfl, rfl⟩ ⟨Nat.le_of_ble_eq_true rfl, Nat.le_of_ble_eq_true rfl⟩ ⟨Nat.zero_le _, Nat.zero_le _⟩ hw 0 rfl rfl rfl hl rfl (Nat.le_of_ble_eq_true rfl) dX4_getBy_263 (fun H locs hw => ?_)
          exact rV E hr hlk (HB.eq hw (by rw [mGetBy, if_neg (by omega), if_neg (by omega), if_neg (by omega), mWhatC, if_neg (by omega), if_pos (by omega)])) dX4_getBy_266
      · skip
        refine lv_aload_n E.1 E.2.1 dX4_getBy_227 rfl (lv_at hl 1 rfl) ?_
        refine lv_iload_n E.1 E.2.1 dX4_getBy_228 rfl (lv_at hl 4 rfl) ?_
        refine lv_bipush (v := nI 6) E.1 E.2.1 dX4_getBy_229 (by decide) ?_
        refine lv_iload_n E.1 E.2.1 dX4_getBy_231 rfl (lv_at hl 2 rfl) ?_
        refine lv_addN E.1 E.2.1 dX4_getBy_232 ?_
        refine callVI E (c_X4_of l G a (N) (x) d (6 + c) (N (30 + 14 * d + (6 + c))) (by omega) (rfl)) mw_12_1 YX4_of ⟨rfl, rfl⟩ ⟨Nat.le_of_ble_eq_true rfl, Nat.le_of_ble_eq_true rfl⟩ ⟨Nat.zero_le _, Nat.zero_le _⟩ hw 0 rfl rfl rfl hl rfl (Nat.le_of_ble_eq_true rfl) dX4_getBy_233 (fun H locs hw => ?_)
        refine lv_iconst (v := nI 3) E.1 E.2.1 dX4_getBy_236 (by decide) ?_
        refine lv_icmp_neN (tgt := 266) E.1 E.2.1 (by omega) (by omega) dX4_getBy_237 (by decide) (fun c237 => ?_) (fun c237 => ?_)
        · skip
          exact rV E hr hlk (HB.eq hw (by rw [mGetBy, if_neg (by omega), if_neg (by omega), if_neg (by omega), mWhatC, if_neg (by omega), if_neg (by omega), if_neg (by omega)])) dX4_getBy_266
        · skip
          refine lv_aload_n E.1 E.2.1 dX4_getBy_240 rfl (lv_at hl 1 rfl) ?_
          refine lv_aload_n E.1 E.2.1 dX4_getBy_241 rfl (lv_at hl 1 rfl) ?_
          refine lv_iload_n E.1 E.2.1 dX4_getBy_242 rfl (lv_at hl 4 rfl) ?_
          refine lv_bipush (v := nI 6) E.1 E.2.1 dX4_getBy_243 (by decide) ?_
          refine lv_iload_n E.1 E.2.1 dX4_getBy_245 rfl (lv_at hl 2 rfl) ?_
          refine lv_addN E.1 E.2.1 dX4_getBy_246 ?_
          refine callVI E (c_X4_of l G a (N) (x) d (6 + c) (N (30 + 14 * d + (6 + c))) (by omega) (rfl)) mw_12_1 YX4_of ⟨rfl, rfl⟩ ⟨Nat.le_of_ble_eq_true rfl, Nat.le_of_ble_eq_true rfl⟩ ⟨Nat.zero_le _, Nat.zero_le _⟩ hw 0 rfl rfl rfl hl rfl (Nat.le_of_ble_eq_true rfl) dX4_getBy_247 (fun H locs hw => ?_)
          refine lv_iconst (v := nI 2) E.1 E.2.1 dX4_getBy_250 (by decide) ?_
          refine lv_icmp_neN (tgt := 258) E.1 E.2.1 (by omega) (by omega) dX4_getBy_251 (by decide) (fun c251 => ?_) (fun c251 => ?_)
          · skip
            refine lv_iconst (v := nI 4) E.1 E.2.1 dX4_getBy_258 (by decide) ?_
            refine lv_iload_n E.1 E.2.1 dX4_getBy_259 rfl (lv_at hl 4 rfl) ?_
            refine lv_iload_n E.1 E.2.1 dX4_getBy_260 rfl (lv_at hl 2 rfl) ?_
            refine lv_iload E.1 E.2.1 dX4_getBy_261 (lv_at hl 5 rfl) ?_
            refine callVV E (c_X4_send l G a (N) (x) 4 d c f (by omega) (by first | exact h6 | (rw [un_n (by omega)]; exact h6))) mw_8_6 YX4_send ⟨rfl, rfl⟩ ⟨Nat.le_of_ble_eq_true rfl, Nat.le_of_ble_eq_true rfl⟩ ⟨Nat.zero_le _, Nat.zero_le _⟩ hw 0 rfl rfl rfl hl rfl (Nat.le_of_ble_eq_true rfl) dX4_getBy_263 (fun H locs hw => ?_)
            exact rV E hr hlk (HB.eq hw (by rw [mGetBy, if_neg (by omega), if_neg (by omega), if_neg (by omega), mWhatC, if_neg (by omega), if_neg (by omega), if_pos (by omega)])) dX4_getBy_266
          · exact absurd c251 c224
    · skip
      refine lv_aload_n E.1 E.2.1 dX4_getBy_207 rfl (lv_at hl 1 rfl) ?_
      refine lv_iload_n E.1 E.2.1 dX4_getBy_208 rfl (lv_at hl 4 rfl) ?_
      refine lv_iload_n E.1 E.2.1 dX4_getBy_209 rfl (lv_at hl 2 rfl) ?_
      refine lv_iconst (v := nI 3) E.1 E.2.1 dX4_getBy_210 (by decide) ?_
      refine callVV E (c_X4_become l G a (N) (x) d c 3 (by omega) (by omega)) mw_12_17 YX4_become ⟨rfl, rfl⟩ ⟨Nat.le_of_ble_eq_true rfl, Nat.le_of_ble_eq_true rfl⟩ ⟨Nat.zero_le _, Nat.zero_le _⟩ hw 0 rfl rfl rfl hl rfl (Nat.le_of_ble_eq_true rfl) dX4_getBy_211 (fun H locs hw => ?_)
      refine lv_aload_n E.1 E.2.1 dX4_getBy_214 rfl (lv_at hl 1 rfl) ?_
      refine lv_iload_n E.1 E.2.1 dX4_getBy_215 rfl (lv_at hl 4 rfl) ?_
      refine lv_bipush (v := nI 6) E.1 E.2.1 dX4_getBy_216 (by decide) ?_
      refine lv_iload_n E.1 E.2.1 dX4_getBy_218 rfl (lv_at hl 2 rfl) ?_
      refine lv_addN E.1 E.2.1 dX4_getBy_219 ?_
      refine callVI E (c_X4_of l G a (un (N) (30 + 14 * d + (6 + c)) (3)) (x) d (6 + c) (3) (by omega) (by rw [un_s])) mw_12_1 YX4_of ⟨rfl, rfl⟩ ⟨Nat.le_of_ble_eq_true rfl, Nat.le_of_ble_eq_true rfl⟩ ⟨Nat.zero_le _, Nat.zero_le _⟩ hw 0 rfl rfl rfl hl rfl (Nat.le_of_ble_eq_true rfl) dX4_getBy_220 (fun H locs hw => ?_)
      refine lv_iconst (v := nI 2) E.1 E.2.1 dX4_getBy_223 (by decide) ?_
      refine lv_icmp_eqN (tgt := 240) E.1 E.2.1 (by omega) (by omega) dX4_getBy_224 (by decide) (fun c224 => ?_) (fun c224 => ?_)
      · exact absurd c224 (by decide)
      · skip
        refine lv_aload_n E.1 E.2.1 dX4_getBy_227 rfl (lv_at hl 1 rfl) ?_
        refine lv_iload_n E.1 E.2.1 dX4_getBy_228 rfl (lv_at hl 4 rfl) ?_
        refine lv_bipush (v := nI 6) E.1 E.2.1 dX4_getBy_229 (by decide) ?_
        refine lv_iload_n E.1 E.2.1 dX4_getBy_231 rfl (lv_at hl 2 rfl) ?_
        refine lv_addN E.1 E.2.1 dX4_getBy_232 ?_
        refine callVI E (c_X4_of l G a (un (N) (30 + 14 * d + (6 + c)) (3)) (x) d (6 + c) (3) (by omega) (by rw [un_s])) mw_12_1 YX4_of ⟨rfl, rfl⟩ ⟨Nat.le_of_ble_eq_true rfl, Nat.le_of_ble_eq_true rfl⟩ ⟨Nat.zero_le _, Nat.zero_le _⟩ hw 0 rfl rfl rfl hl rfl (Nat.le_of_ble_eq_true rfl) dX4_getBy_233 (fun H locs hw => ?_)
        refine lv_iconst (v := nI 3) E.1 E.2.1 dX4_getBy_236 (by decide) ?_
        refine lv_icmp_neN (tgt := 266) E.1 E.2.1 (by omega) (by omega) dX4_getBy_237 (by decide) (fun c237 => ?_) (fun c237 => ?_)
        · exact absurd c237 (by decide)
        · skip
          refine lv_aload_n E.1 E.2.1 dX4_getBy_240 rfl (lv_at hl 1 rfl) ?_
          refine lv_aload_n E.1 E.2.1 dX4_getBy_241 rfl (lv_at hl 1 rfl) ?_
          refine lv_iload_n E.1 E.2.1 dX4_getBy_242 rfl (lv_at hl 4 rfl) ?_
          refine lv_bipush (v := nI 6) E.1 E.2.1 dX4_getBy_243 (by decide) ?_
          refine lv_iload_n E.1 E.2.1 dX4_getBy_245 rfl (lv_at hl 2 rfl) ?_
          refine lv_addN E.1 E.2.1 dX4_getBy_246 ?_
          refine callVI E (c_X4_of l G a (un (N) (30 + 14 * d + (6 + c)) (3)) (x) d (6 + c) (3) (by omega) (by rw [un_s])) mw_12_1 YX4_of ⟨rfl, rfl⟩ ⟨Nat.le_of_ble_eq_true rfl, Nat.le_of_ble_eq_true rfl⟩ ⟨Nat.zero_le _, Nat.zero_le _⟩ hw 0 rfl rfl rfl hl rfl (Nat.le_of_ble_eq_true rfl) dX4_getBy_247 (fun H locs hw => ?_)
          refine lv_iconst (v := nI 2) E.1 E.2.1 dX4_getBy_250 (by decide) ?_
          refine lv_icmp_neN (tgt := 258) E.1 E.2.1 (by omega) (by omega) dX4_getBy_251 (by decide) (fun c251 => ?_) (fun c251 => ?_)
          · skip
            refine lv_iconst (v := nI 4) E.1 E.2.1 dX4_getBy_258 (by decide) ?_
            refine lv_iload_n E.1 E.2.1 dX4_getBy_259 rfl (lv_at hl 4 rfl) ?_
            refine lv_iload_n E.1 E.2.1 dX4_getBy_260 rfl (lv_at hl 2 rfl) ?_
            refine lv_iload E.1 E.2.1 dX4_getBy_261 (lv_at hl 5 rfl) ?_
            refine callVV E (c_X4_send l G a (un (N) (30 + 14 * d + (6 + c)) (3)) (x) 4 d c f (by omega) (by first | exact h6 | (rw [un_n (by omega)]; exact h6))) mw_8_6 YX4_send ⟨rfl, rfl⟩ ⟨Nat.le_of_ble_eq_true rfl, Nat.le_of_ble_eq_true rfl⟩ ⟨Nat.zero_le _, Nat.zero_le _⟩ hw 0 rfl rfl rfl hl rfl (Nat.le_of_ble_eq_true rfl) dX4_getBy_263 (fun H locs hw => ?_)
            exact rV E hr hlk (HB.eq hw (by rw [mGetBy, if_neg (by omega), if_neg (by omega), if_neg (by omega), mWhatC, if_pos (by omega)])) dX4_getBy_266
          · exact absurd c251 (by decide)
  by_cases z12_2 : k = 2
  · refine lv_eqi (y := nI 2) (by rw [z12_2]) ?_
    refine lv_tableIn (tgt := 202) E.1 E.2.1 dX4_getBy_12 (by decide) (by decide) rfl (by decide) ?_
    refine lv_iload E.1 E.2.1 dX4_getBy_202 (lv_at hl 0 rfl) ?_
    refine lv_if_neN (tgt := 214) E.1 E.2.1 (by omega) dX4_getBy_204 (by decide) (fun c204 => ?_) (fun c204 => ?_)
    · skip
      refine lv_aload_n E.1 E.2.1 dX4_getBy_214 rfl (lv_at hl 1 rfl) ?_
      refine lv_iload_n E.1 E.2.1 dX4_getBy_215 rfl (lv_at hl 4 rfl) ?_
      refine lv_bipush (v := nI 6) E.1 E.2.1 dX4_getBy_216 (by decide) ?_
      refine lv_iload_n E.1 E.2.1 dX4_getBy_218 rfl (lv_at hl 2 rfl) ?_
      refine lv_addN E.1 E.2.1 dX4_getBy_219 ?_
      refine callVI E (c_X4_of l G a (N) (x) d (6 + c) (N (30 + 14 * d + (6 + c))) (by omega) (rfl)) mw_12_1 YX4_of ⟨rfl, rfl⟩ ⟨Nat.le_of_ble_eq_true rfl, Nat.le_of_ble_eq_true rfl⟩ ⟨Nat.zero_le _, Nat.zero_le _⟩ hw 0 rfl rfl rfl hl rfl (Nat.le_of_ble_eq_true rfl) dX4_getBy_220 (fun H locs hw => ?_)
      refine lv_iconst (v := nI 2) E.1 E.2.1 dX4_getBy_223 (by decide) ?_
      refine lv_icmp_eqN (tgt := 240) E.1 E.2.1 (by omega) (by omega) dX4_getBy_224 (by decide) (fun c224 => ?_) (fun c224 => ?_)
      · skip
        refine lv_aload_n E.1 E.2.1 dX4_getBy_240 rfl (lv_at hl 1 rfl) ?_
        refine lv_aload_n E.1 E.2.1 dX4_getBy_241 rfl (lv_at hl 1 rfl) ?_
        refine lv_iload_n E.1 E.2.1 dX4_getBy_242 rfl (lv_at hl 4 rfl) ?_
        refine lv_bipush (v := nI 6) E.1 E.2.1 dX4_getBy_243 (by decide) ?_
        refine lv_iload_n E.1 E.2.1 dX4_getBy_245 rfl (lv_at hl 2 rfl) ?_
        refine lv_addN E.1 E.2.1 dX4_getBy_246 ?_
        refine callVI E (c_X4_of l G a (N) (x) d (6 + c) (N (30 + 14 * d + (6 + c))) (by omega) (rfl)) mw_12_1 YX4_of ⟨rfl, rfl⟩ ⟨Nat.le_of_ble_eq_true rfl, Nat.le_of_ble_eq_true rfl⟩ ⟨Nat.zero_le _, Nat.zero_le _⟩ hw 0 rfl rfl rfl hl rfl (Nat.le_of_ble_eq_true rfl) dX4_getBy_247 (fun H locs hw => ?_)
        refine lv_iconst (v := nI 2) E.1 E.2.1 dX4_getBy_250 (by decide) ?_
        refine lv_icmp_neN (tgt := 258) E.1 E.2.1 (by omega) (by omega) dX4_getBy_251 (by decide) (fun c251 => ?_) (fun c251 => ?_)
        · exact absurd c224 c251
        · skip
          refine lv_iconst (v := nI 3) E.1 E.2.1 dX4_getBy_254 (by decide) ?_
          refine lv_goto (tgt := 259) E.1 E.2.1 dX4_getBy_255 (by decide) ?_
          refine lv_iload_n E.1 E.2.1 dX4_getBy_259 rfl (lv_at hl 4 rfl) ?_
          refine lv_iload_n E.1 E.2.1 dX4_getBy_260 rfl (lv_at hl 2 rfl) ?_
          refine lv_iload E.1 E.2.1 dX4_getBy_261 (lv_at hl 5 rfl) ?_
          refine callVV E (c_X4_send l G a (N) (x) 3 d c f (by omega) (by first | exact h6 | (rw [un_n (by omega)]; exact h6))) mw_8_6 YX4_send ⟨rfl, rfl⟩ ⟨Nat.le_of_ble_eq_true rfl, Nat.le_of_ble_eq_true rfl⟩ ⟨Nat.zero_le _, Nat.zero_le _⟩ hw 0 rfl rfl rfl hl rfl (Nat.le_of_ble_eq_true rfl) dX4_getBy_263 (fun H locs hw => ?_)
          exact rV E hr hlk (HB.eq hw (by rw [mGetBy, if_neg (by omega), if_neg (by omega), if_neg (by omega), mWhatC, if_neg (by omega), if_pos (by omega)])) dX4_getBy_266
      · skip
        refine lv_aload_n E.1 E.2.1 dX4_getBy_227 rfl (lv_at hl 1 rfl) ?_
        refine lv_iload_n E.1 E.2.1 dX4_getBy_228 rfl (lv_at hl 4 rfl) ?_
        refine lv_bipush (v := nI 6) E.1 E.2.1 dX4_getBy_229 (by decide) ?_
        refine lv_iload_n E.1 E.2.1 dX4_getBy_231 rfl (lv_at hl 2 rfl) ?_
        refine lv_addN E.1 E.2.1 dX4_getBy_232 ?_
        refine callVI E (c_X4_of l G a (N) (x) d (6 + c) (N (30 + 14 * d + (6 + c))) (by omega) (rfl)) mw_12_1 YX4_of ⟨rfl, rfl⟩ ⟨Nat.le_of_ble_eq_true rfl, Nat.le_of_ble_eq_true rfl⟩ ⟨Nat.zero_le _, Nat.zero_le _⟩ hw 0 rfl rfl rfl hl rfl (Nat.le_of_ble_eq_true rfl) dX4_getBy_233 (fun H locs hw => ?_)
        refine lv_iconst (v := nI 3) E.1 E.2.1 dX4_getBy_236 (by decide) ?_
        refine lv_icmp_neN (tgt := 266) E.1 E.2.1 (by omega) (by omega) dX4_getBy_237 (by decide) (fun c237 => ?_) (fun c237 => ?_)
        · skip
          exact rV E hr hlk (HB.eq hw (by rw [mGetBy, if_neg (by omega), if_neg (by omega), if_neg (by omega), mWhatC, if_neg (by omega), if_neg (by omega), if_neg (by omega)])) dX4_getBy_266
        · skip
          refine lv_aload_n E.1 E.2.1 dX4_getBy_240 rfl (lv_at hl 1 rfl) ?_
          refine lv_aload_n E.1 E.2.1 dX4_getBy_241 rfl (lv_at hl 1 rfl) ?_
          refine lv_iload_n E.1 E.2.1 dX4_getBy_242 rfl (lv_at hl 4 rfl) ?_
          refine lv_bipush (v := nI 6) E.1 E.2.1 dX4_getBy_243 (by decide) ?_
          refine lv_iload_n E.1 E.2.1 dX4_getBy_245 rfl (lv_at hl 2 rfl) ?_
          refine lv_addN E.1 E.2.1 dX4_getBy_246 ?_
          refine callVI E (c_X4_of l G a (N) (x) d (6 + c) (N (30 + 14 * d + (6 + c))) (by omega) (rfl)) mw_12_1 YX4_of ⟨rfl, rfl⟩ ⟨Nat.le_of_ble_eq_true rfl, Nat.le_of_ble_eq_true rfl⟩ ⟨Nat.zero_le _, Nat.zero_le _⟩ hw 0 rfl rfl rfl hl rfl (Nat.le_of_ble_eq_true rfl) dX4_getBy_247 (fun H locs hw => ?_)
          refine lv_iconst (v := nI 2) E.1 E.2.1 dX4_getBy_250 (by decide) ?_
          refine lv_icmp_neN (tgt := 258) E.1 E.2.1 (by omega) (by omega) dX4_getBy_251 (by decide) (fun c251 => ?_) (fun c251 => ?_)
          · skip
            refine lv_iconst (v := nI 4) E.1 E.2.1 dX4_getBy_258 (by decide) ?_
            refine lv_iload_n E.1 E.2.1 dX4_getBy_259 rfl (lv_at hl 4 rfl) ?_
            refine lv_iload_n E.1 E.2.1 dX4_getBy_260 rfl (lv_at hl 2 rfl) ?_
            refine lv_iload E.1 E.2.1 dX4_getBy_261 (lv_at hl 5 rfl) ?_
            refine callVV E (c_X4_send l G a (N) (x) 4 d c f (by omega) (by first | exact h6 | (rw [un_n (by omega)]; exact h6))) mw_8_6 YX4_send ⟨rfl, rfl⟩ ⟨Nat.le_of_ble_eq_true rfl, Nat.le_of_ble_eq_true rfl⟩ ⟨Nat.zero_le _, Nat.zero_le _⟩ hw 0 rfl rfl rfl hl rfl (Nat.le_of_ble_eq_true rfl) dX4_getBy_263 (fun H locs hw => ?_)
            exact rV E hr hlk (HB.eq hw (by rw [mGetBy, if_neg (by omega), if_neg (by omega), if_neg (by omega), mWhatC, if_neg (by omega), if_neg (by omega), if_pos (by omega)])) dX4_getBy_266
          · exact absurd c251 c224
    · skip
      refine lv_aload_n E.1 E.2.1 dX4_getBy_207 rfl (lv_at hl 1 rfl) ?_
      refine lv_iload_n E.1 E.2.1 dX4_getBy_208 rfl (lv_at hl 4 rfl) ?_
      refine lv_iload_n E.1 E.2.1 dX4_getBy_209 rfl (lv_at hl 2 rfl) ?_
      refine lv_iconst (v := nI 3) E.1 E.2.1 dX4_getBy_210 (by decide) ?_
      refine callVV E (c_X4_become l G a (N) (x) d c 3 (by omega) (by omega)) mw_12_17 YX4_become ⟨rfl, rfl⟩ ⟨Nat.le_of_ble_eq_true rfl, Nat.le_of_ble_eq_true rfl⟩ ⟨Nat.zero_le _, Nat.zero_le _⟩ hw 0 rfl rfl rfl hl rfl (Nat.le_of_ble_eq_true rfl) dX4_getBy_211 (fun H locs hw => ?_)
      refine lv_aload_n E.1 E.2.1 dX4_getBy_214 rfl (lv_at hl 1 rfl) ?_
      refine lv_iload_n E.1 E.2.1 dX4_getBy_215 rfl (lv_at hl 4 rfl) ?_
      refine lv_bipush (v := nI 6) E.1 E.2.1 dX4_getBy_216 (by decide) ?_
      refine lv_iload_n E.1 E.2.1 dX4_getBy_218 rfl (lv_at hl 2 rfl) ?_
      refine lv_addN E.1 E.2.1 dX4_getBy_219 ?_
      refine callVI E (c_X4_of l G a (un (N) (30 + 14 * d + (6 + c)) (3)) (x) d (6 + c) (3) (by omega) (by rw [un_s])) mw_12_1 YX4_of ⟨rfl, rfl⟩ ⟨Nat.le_of_ble_eq_true rfl, Nat.le_of_ble_eq_true rfl⟩ ⟨Nat.zero_le _, Nat.zero_le _⟩ hw 0 rfl rfl rfl hl rfl (Nat.le_of_ble_eq_true rfl) dX4_getBy_220 (fun H locs hw => ?_)
      refine lv_iconst (v := nI 2) E.1 E.2.1 dX4_getBy_223 (by decide) ?_
      refine lv_icmp_eqN (tgt := 240) E.1 E.2.1 (by omega) (by omega) dX4_getBy_224 (by decide) (fun c224 => ?_) (fun c224 => ?_)
      · exact absurd c224 (by decide)
      · skip
        refine lv_aload_n E.1 E.2.1 dX4_getBy_227 rfl (lv_at hl 1 rfl) ?_
        refine lv_iload_n E.1 E.2.1 dX4_getBy_228 rfl (lv_at hl 4 rfl) ?_
        refine lv_bipush (v := nI 6) E.1 E.2.1 dX4_getBy_229 (by decide) ?_
        refine lv_iload_n E.1 E.2.1 dX4_getBy_231 rfl (lv_at hl 2 rfl) ?_
        refine lv_addN E.1 E.2.1 dX4_getBy_232 ?_
        refine callVI E (c_X4_of l G a (un (N) (30 + 14 * d + (6 + c)) (3)) (x) d (6 + c) (3) (by omega) (by rw [un_s])) mw_12_1 YX4_of ⟨rfl, rfl⟩ ⟨Nat.le_of_ble_eq_true rfl, Nat.le_of_ble_eq_true rfl⟩ ⟨Nat.zero_le _, Nat.zero_le _⟩ hw 0 rfl rfl rfl hl rfl (Nat.le_of_ble_eq_true rfl) dX4_getBy_233 (fun H locs hw => ?_)
        refine lv_iconst (v := nI 3) E.1 E.2.1 dX4_getBy_236 (by decide) ?_
        refine lv_icmp_neN (tgt := 266) E.1 E.2.1 (by omega) (by omega) dX4_getBy_237 (by decide) (fun c237 => ?_) (fun c237 => ?_)
        · exact absurd c237 (by decide)
        · skip
          refine lv_aload_n E.1 E.2.1 dX4_getBy_240 rfl (lv_at hl 1 rfl) ?_
          refine lv_aload_n E.1 E.2.1 dX4_getBy_241 rfl (lv_at hl 1 rfl) ?_
          refine lv_iload_n E.1 E.2.1 dX4_getBy_242 rfl (lv_at hl 4 rfl) ?_
          refine lv_bipush (v := nI 6) E.1 E.2.1 dX4_getBy_243 (by decide) ?_
          refine lv_iload_n E.1 E.2.1 dX4_getBy_245 rfl (lv_at hl 2 rfl) ?_
          refine lv_addN E.1 E.2.1 dX4_getBy_246 ?_
          refine callVI E (c_X4_of l G a (un (N) (30 + 14 * d + (6 + c)) (3)) (x) d (6 + c) (3) (by omega) (by rw [un_s])) mw_12_1 YX4_of ⟨rfl, rfl⟩ ⟨Nat.le_of_ble_eq_true rfl, Nat.le_of_ble_eq_true rfl⟩ ⟨Nat.zero_le _, Nat.zero_le _⟩ hw 0 rfl rfl rfl hl rfl (Nat.le_of_ble_eq_true rfl) dX4_getBy_247 (fun H locs hw => ?_)
          refine lv_iconst (v := nI 2) E.1 E.2.1 dX4_getBy_250 (by decide) ?_
          refine lv_icmp_neN (tgt := 258) E.1 E.2.1 (by omega) (by omega) dX4_getBy_251 (by decide) (fun c251 => ?_) (fun c251 => ?_)
          · skip
            refine lv_iconst (v := nI 4) E.1 E.2.1 dX4_getBy_258 (by decide) ?_
            refine lv_iload_n E.1 E.2.1 dX4_getBy_259 rfl (lv_at hl 4 rfl) ?_
            refine lv_iload_n E.1 E.2.1 dX4_getBy_260 rfl (lv_at hl 2 rfl) ?_
            refine lv_iload E.1 E.2.1 dX4_getBy_261 (lv_at hl 5 rfl) ?_
            refine callVV E (c_X4_send l G a (un (N) (30 + 14 * d + (6 + c)) (3)) (x) 4 d c f (by omega) (by first | exact h6 | (rw [un_n (by omega)]; exact h6))) mw_8_6 YX4_send ⟨rfl, rfl⟩ ⟨Nat.le_of_ble_eq_true rfl, Nat.le_of_ble_eq_true rfl⟩ ⟨Nat.zero_le _, Nat.zero_le _⟩ hw 0 rfl rfl rfl hl rfl (Nat.le_of_ble_eq_true rfl) dX4_getBy_263 (fun H locs hw => ?_)
            exact rV E hr hlk (HB.eq hw (by rw [mGetBy, if_neg (by omega), if_neg (by omega), if_neg (by omega), mWhatC, if_pos (by omega)])) dX4_getBy_266
          · exact absurd c251 (by decide)
  by_cases z12_3 : k = 3
  · refine lv_eqi (y := nI 3) (by rw [z12_3]) ?_
    refine lv_tableIn (tgt := 144) E.1 E.2.1 dX4_getBy_12 (by decide) (by decide) rfl (by decide) ?_
    refine lv_iload E.1 E.2.1 dX4_getBy_144 (lv_at hl 0 rfl) ?_
    refine lv_iconst (v := nI 1) E.1 E.2.1 dX4_getBy_146 (by decide) ?_
    refine lv_icmp_neN (tgt := 157) E.1 E.2.1 (by omega) (by omega) dX4_getBy_147 (by decide) (fun c147 => ?_) (fun c147 => ?_)
    · skip
      refine lv_aload_n E.1 E.2.1 dX4_getBy_157 rfl (lv_at hl 1 rfl) ?_
      refine lv_iload_n E.1 E.2.1 dX4_getBy_158 rfl (lv_at hl 4 rfl) ?_
      refine lv_bipush (v := nI 6) E.1 E.2.1 dX4_getBy_159 (by decide) ?_
      refine lv_iload_n E.1 E.2.1 dX4_getBy_161 rfl (lv_at hl 2 rfl) ?_
      refine lv_addN E.1 E.2.1 dX4_getBy_162 ?_
      refine callVI E (c_X4_of l G a (N) (x) d (6 + c) (N (30 + 14 * d + (6 + c))) (by omega) (rfl)) mw_12_1 YX4_of ⟨rfl, rfl⟩ ⟨Nat.le_of_ble_eq_true rfl, Nat.le_of_ble_eq_true rfl⟩ ⟨Nat.zero_le _, Nat.zero_le _⟩ hw 0 rfl rfl rfl hl rfl (Nat.le_of_ble_eq_true rfl) dX4_getBy_163 (fun H locs hw => ?_)
      refine lv_iconst (v := nI 2) E.1 E.2.1 dX4_getBy_166 (by decide) ?_
      refine lv_icmp_neN (tgt := 266) E.1 E.2.1 (by omega) (by omega) dX4_getBy_167 (by decide) (fun c167 => ?_) (fun c167 => ?_)
      · skip
        exact rV E hr hlk (HB.eq hw (by rw [mGetBy, if_neg (by omega), if_pos (by omega), mPosts, if_neg (by omega), if_neg (by omega)])) dX4_getBy_266
      · skip
        refine lv_aload_n E.1 E.2.1 dX4_getBy_170 rfl (lv_at hl 1 rfl) ?_
        refine lv_iconst (v := nI 5) E.1 E.2.1 dX4_getBy_171 (by decide) ?_
        refine lv_iload_n E.1 E.2.1 dX4_getBy_172 rfl (lv_at hl 4 rfl) ?_
        refine lv_iload_n E.1 E.2.1 dX4_getBy_173 rfl (lv_at hl 2 rfl) ?_
        refine lv_iconst (v := nI 4) E.1 E.2.1 dX4_getBy_174 (by decide) ?_
        refine callVV E (c_X4_send l G a (N) (x) 5 d c 4 (by omega) (by first | exact h6 | (rw [un_n (by omega)]; exact h6))) mw_8_6 YX4_send ⟨rfl, rfl⟩ ⟨Nat.le_of_ble_eq_true rfl, Nat.le_of_ble_eq_true rfl⟩ ⟨Nat.zero_le _, Nat.zero_le _⟩ hw 0 rfl rfl rfl hl rfl (Nat.le_of_ble_eq_true rfl) dX4_getBy_175 (fun H locs hw => ?_)
        refine lv_goto (tgt := 266) E.1 E.2.1 dX4_getBy_178 (by decide) ?_
        exact rV E hr hlk (HB.eq hw (by rw [mGetBy, if_neg (by omega), if_pos (by omega), mPosts, if_neg (by omega), if_pos (by omega)])) dX4_getBy_266
    · skip
      refine lv_aload_n E.1 E.2.1 dX4_getBy_150 rfl (lv_at hl 1 rfl) ?_
      refine lv_iload_n E.1 E.2.1 dX4_getBy_151 rfl (lv_at hl 4 rfl) ?_
      refine lv_iload_n E.1 E.2.1 dX4_getBy_152 rfl (lv_at hl 2 rfl) ?_
      refine lv_iconst (v := nI 2) E.1 E.2.1 dX4_getBy_153 (by decide) ?_
      refine callVV E (c_X4_become l G a (N) (x) d c 2 (by omega) (by omega)) mw_12_17 YX4_become ⟨rfl, rfl⟩ ⟨Nat.le_of_ble_eq_true rfl, Nat.le_of_ble_eq_true rfl⟩ ⟨Nat.zero_le _, Nat.zero_le _⟩ hw 0 rfl rfl rfl hl rfl (Nat.le_of_ble_eq_true rfl) dX4_getBy_154 (fun H locs hw => ?_)
      refine lv_aload_n E.1 E.2.1 dX4_getBy_157 rfl (lv_at hl 1 rfl) ?_
      refine lv_iload_n E.1 E.2.1 dX4_getBy_158 rfl (lv_at hl 4 rfl) ?_
      refine lv_bipush (v := nI 6) E.1 E.2.1 dX4_getBy_159 (by decide) ?_
      refine lv_iload_n E.1 E.2.1 dX4_getBy_161 rfl (lv_at hl 2 rfl) ?_
      refine lv_addN E.1 E.2.1 dX4_getBy_162 ?_
      refine callVI E (c_X4_of l G a (un (N) (30 + 14 * d + (6 + c)) (2)) (x) d (6 + c) (2) (by omega) (by rw [un_s])) mw_12_1 YX4_of ⟨rfl, rfl⟩ ⟨Nat.le_of_ble_eq_true rfl, Nat.le_of_ble_eq_true rfl⟩ ⟨Nat.zero_le _, Nat.zero_le _⟩ hw 0 rfl rfl rfl hl rfl (Nat.le_of_ble_eq_true rfl) dX4_getBy_163 (fun H locs hw => ?_)
      refine lv_iconst (v := nI 2) E.1 E.2.1 dX4_getBy_166 (by decide) ?_
      refine lv_icmp_neN (tgt := 266) E.1 E.2.1 (by omega) (by omega) dX4_getBy_167 (by decide) (fun c167 => ?_) (fun c167 => ?_)
      · exact absurd c167 (by decide)
      · skip
        refine lv_aload_n E.1 E.2.1 dX4_getBy_170 rfl (lv_at hl 1 rfl) ?_
        refine lv_iconst (v := nI 5) E.1 E.2.1 dX4_getBy_171 (by decide) ?_
        refine lv_iload_n E.1 E.2.1 dX4_getBy_172 rfl (lv_at hl 4 rfl) ?_
        refine lv_iload_n E.1 E.2.1 dX4_getBy_173 rfl (lv_at hl 2 rfl) ?_
        refine lv_iconst (v := nI 4) E.1 E.2.1 dX4_getBy_174 (by decide) ?_
        refine callVV E (c_X4_send l G a (un (N) (30 + 14 * d + (6 + c)) (2)) (x) 5 d c 4 (by omega) (by first | exact h6 | (rw [un_n (by omega)]; exact h6))) mw_8_6 YX4_send ⟨rfl, rfl⟩ ⟨Nat.le_of_ble_eq_true rfl, Nat.le_of_ble_eq_true rfl⟩ ⟨Nat.zero_le _, Nat.zero_le _⟩ hw 0 rfl rfl rfl hl rfl (Nat.le_of_ble_eq_true rfl) dX4_getBy_175 (fun H locs hw => ?_)
        refine lv_goto (tgt := 266) E.1 E.2.1 dX4_getBy_178 (by decide) ?_
        exact rV E hr hlk (HB.eq hw (by rw [mGetBy, if_neg (by omega), if_pos (by omega), mPosts, if_pos (by omega)])) dX4_getBy_266
  by_cases z12_4 : k = 4
  · refine lv_eqi (y := nI 4) (by rw [z12_4]) ?_
    refine lv_tableIn (tgt := 181) E.1 E.2.1 dX4_getBy_12 (by decide) (by decide) rfl (by decide) ?_
    refine lv_iload E.1 E.2.1 dX4_getBy_181 (lv_at hl 0 rfl) ?_
    refine lv_if_eqN (tgt := 192) E.1 E.2.1 (by omega) dX4_getBy_183 (by decide) (fun c183 => ?_) (fun c183 => ?_)
    · skip
      refine lv_aload_n E.1 E.2.1 dX4_getBy_192 rfl (lv_at hl 1 rfl) ?_
      refine lv_iload_n E.1 E.2.1 dX4_getBy_193 rfl (lv_at hl 4 rfl) ?_
      refine lv_iload_n E.1 E.2.1 dX4_getBy_194 rfl (lv_at hl 2 rfl) ?_
      refine lv_iconst (v := nI 3) E.1 E.2.1 dX4_getBy_195 (by decide) ?_
      refine callVV E (c_X4_become l G a (N) (x) d c 3 (by omega) (by omega)) mw_12_17 YX4_become ⟨rfl, rfl⟩ ⟨Nat.le_of_ble_eq_true rfl, Nat.le_of_ble_eq_true rfl⟩ ⟨Nat.zero_le _, Nat.zero_le _⟩ hw 0 rfl rfl rfl hl rfl (Nat.le_of_ble_eq_true rfl) dX4_getBy_196 (fun H locs hw => ?_)
      refine lv_goto (tgt := 266) E.1 E.2.1 dX4_getBy_199 (by decide) ?_
      exact rV E hr hlk (HB.eq hw (by rw [mGetBy, if_neg (by omega), if_neg (by omega), if_pos (by omega), mTears, if_pos (by omega)])) dX4_getBy_266
    · skip
      refine lv_iload E.1 E.2.1 dX4_getBy_186 (lv_at hl 0 rfl) ?_
      refine lv_iconst (v := nI 1) E.1 E.2.1 dX4_getBy_188 (by decide) ?_
      refine lv_icmp_neN (tgt := 266) E.1 E.2.1 (by omega) (by omega) dX4_getBy_189 (by decide) (fun c189 => ?_) (fun c189 => ?_)
      · skip
        exact rV E hr hlk (HB.eq hw (by rw [mGetBy, if_neg (by omega), if_neg (by omega), if_pos (by omega), mTears, if_neg (by omega)])) dX4_getBy_266
      · skip
        refine lv_aload_n E.1 E.2.1 dX4_getBy_192 rfl (lv_at hl 1 rfl) ?_
        refine lv_iload_n E.1 E.2.1 dX4_getBy_193 rfl (lv_at hl 4 rfl) ?_
        refine lv_iload_n E.1 E.2.1 dX4_getBy_194 rfl (lv_at hl 2 rfl) ?_
        refine lv_iconst (v := nI 3) E.1 E.2.1 dX4_getBy_195 (by decide) ?_
        refine callVV E (c_X4_become l G a (N) (x) d c 3 (by omega) (by omega)) mw_12_17 YX4_become ⟨rfl, rfl⟩ ⟨Nat.le_of_ble_eq_true rfl, Nat.le_of_ble_eq_true rfl⟩ ⟨Nat.zero_le _, Nat.zero_le _⟩ hw 0 rfl rfl rfl hl rfl (Nat.le_of_ble_eq_true rfl) dX4_getBy_196 (fun H locs hw => ?_)
        refine lv_goto (tgt := 266) E.1 E.2.1 dX4_getBy_199 (by decide) ?_
        exact rV E hr hlk (HB.eq hw (by rw [mGetBy, if_neg (by omega), if_neg (by omega), if_pos (by omega), mTears, if_pos (by omega)])) dX4_getBy_266
  refine lv_tableOutN (tgt := 202) E.1 E.2.1 (by omega) dX4_getBy_12 (by omega) (by decide) ?_
  refine lv_iload E.1 E.2.1 dX4_getBy_202 (lv_at hl 0 rfl) ?_
  refine lv_if_neN (tgt := 214) E.1 E.2.1 (by omega) dX4_getBy_204 (by decide) (fun c204 => ?_) (fun c204 => ?_)
  · skip
    refine lv_aload_n E.1 E.2.1 dX4_getBy_214 rfl (lv_at hl 1 rfl) ?_
    refine lv_iload_n E.1 E.2.1 dX4_getBy_215 rfl (lv_at hl 4 rfl) ?_
    refine lv_bipush (v := nI 6) E.1 E.2.1 dX4_getBy_216 (by decide) ?_
    refine lv_iload_n E.1 E.2.1 dX4_getBy_218 rfl (lv_at hl 2 rfl) ?_
    refine lv_addN E.1 E.2.1 dX4_getBy_219 ?_
    refine callVI E (c_X4_of l G a (N) (x) d (6 + c) (N (30 + 14 * d + (6 + c))) (by omega) (rfl)) mw_12_1 YX4_of ⟨rfl, rfl⟩ ⟨Nat.le_of_ble_eq_true rfl, Nat.le_of_ble_eq_true rfl⟩ ⟨Nat.zero_le _, Nat.zero_le _⟩ hw 0 rfl rfl rfl hl rfl (Nat.le_of_ble_eq_true rfl) dX4_getBy_220 (fun H locs hw => ?_)
    refine lv_iconst (v := nI 2) E.1 E.2.1 dX4_getBy_223 (by decide) ?_
    refine lv_icmp_eqN (tgt := 240) E.1 E.2.1 (by omega) (by omega) dX4_getBy_224 (by decide) (fun c224 => ?_) (fun c224 => ?_)
    · skip
      refine lv_aload_n E.1 E.2.1 dX4_getBy_240 rfl (lv_at hl 1 rfl) ?_
      refine lv_aload_n E.1 E.2.1 dX4_getBy_241 rfl (lv_at hl 1 rfl) ?_
      refine lv_iload_n E.1 E.2.1 dX4_getBy_242 rfl (lv_at hl 4 rfl) ?_
      refine lv_bipush (v := nI 6) E.1 E.2.1 dX4_getBy_243 (by decide) ?_
      refine lv_iload_n E.1 E.2.1 dX4_getBy_245 rfl (lv_at hl 2 rfl) ?_
      refine lv_addN E.1 E.2.1 dX4_getBy_246 ?_
      refine callVI E (c_X4_of l G a (N) (x) d (6 + c) (N (30 + 14 * d + (6 + c))) (by omega) (rfl)) mw_12_1 YX4_of ⟨rfl, rfl⟩ ⟨Nat.le_of_ble_eq_true rfl, Nat.le_of_ble_eq_true rfl⟩ ⟨Nat.zero_le _, Nat.zero_le _⟩ hw 0 rfl rfl rfl hl rfl (Nat.le_of_ble_eq_true rfl) dX4_getBy_247 (fun H locs hw => ?_)
      refine lv_iconst (v := nI 2) E.1 E.2.1 dX4_getBy_250 (by decide) ?_
      refine lv_icmp_neN (tgt := 258) E.1 E.2.1 (by omega) (by omega) dX4_getBy_251 (by decide) (fun c251 => ?_) (fun c251 => ?_)
      · exact absurd c224 c251
      · skip
        refine lv_iconst (v := nI 3) E.1 E.2.1 dX4_getBy_254 (by decide) ?_
        refine lv_goto (tgt := 259) E.1 E.2.1 dX4_getBy_255 (by decide) ?_
        refine lv_iload_n E.1 E.2.1 dX4_getBy_259 rfl (lv_at hl 4 rfl) ?_
        refine lv_iload_n E.1 E.2.1 dX4_getBy_260 rfl (lv_at hl 2 rfl) ?_
        refine lv_iload E.1 E.2.1 dX4_getBy_261 (lv_at hl 5 rfl) ?_
        refine callVV E (c_X4_send l G a (N) (x) 3 d c f (by omega) (by first | exact h6 | (rw [un_n (by omega)]; exact h6))) mw_8_6 YX4_send ⟨rfl, rfl⟩ ⟨Nat.le_of_ble_eq_true rfl, Nat.le_of_ble_eq_true rfl⟩ ⟨Nat.zero_le _, Nat.zero_le _⟩ hw 0 rfl rfl rfl hl rfl (Nat.le_of_ble_eq_true rfl) dX4_getBy_263 (fun H locs hw => ?_)
        exact rV E hr hlk (HB.eq hw (by rw [mGetBy, if_neg (by omega), if_neg (by omega), if_neg (by omega), mWhatC, if_neg (by omega), if_pos (by omega)])) dX4_getBy_266
    · skip
      refine lv_aload_n E.1 E.2.1 dX4_getBy_227 rfl (lv_at hl 1 rfl) ?_
      refine lv_iload_n E.1 E.2.1 dX4_getBy_228 rfl (lv_at hl 4 rfl) ?_
      refine lv_bipush (v := nI 6) E.1 E.2.1 dX4_getBy_229 (by decide) ?_
      refine lv_iload_n E.1 E.2.1 dX4_getBy_231 rfl (lv_at hl 2 rfl) ?_
      refine lv_addN E.1 E.2.1 dX4_getBy_232 ?_
      refine callVI E (c_X4_of l G a (N) (x) d (6 + c) (N (30 + 14 * d + (6 + c))) (by omega) (rfl)) mw_12_1 YX4_of ⟨rfl, rfl⟩ ⟨Nat.le_of_ble_eq_true rfl, Nat.le_of_ble_eq_true rfl⟩ ⟨Nat.zero_le _, Nat.zero_le _⟩ hw 0 rfl rfl rfl hl rfl (Nat.le_of_ble_eq_true rfl) dX4_getBy_233 (fun H locs hw => ?_)
      refine lv_iconst (v := nI 3) E.1 E.2.1 dX4_getBy_236 (by decide) ?_
      refine lv_icmp_neN (tgt := 266) E.1 E.2.1 (by omega) (by omega) dX4_getBy_237 (by decide) (fun c237 => ?_) (fun c237 => ?_)
      · skip
        exact rV E hr hlk (HB.eq hw (by rw [mGetBy, if_neg (by omega), if_neg (by omega), if_neg (by omega), mWhatC, if_neg (by omega), if_neg (by omega), if_neg (by omega)])) dX4_getBy_266
      · skip
        refine lv_aload_n E.1 E.2.1 dX4_getBy_240 rfl (lv_at hl 1 rfl) ?_
        refine lv_aload_n E.1 E.2.1 dX4_getBy_241 rfl (lv_at hl 1 rfl) ?_
        refine lv_iload_n E.1 E.2.1 dX4_getBy_242 rfl (lv_at hl 4 rfl) ?_
        refine lv_bipush (v := nI 6) E.1 E.2.1 dX4_getBy_243 (by decide) ?_
        refine lv_iload_n E.1 E.2.1 dX4_getBy_245 rfl (lv_at hl 2 rfl) ?_
        refine lv_addN E.1 E.2.1 dX4_getBy_246 ?_
        refine callVI E (c_X4_of l G a (N) (x) d (6 + c) (N (30 + 14 * d + (6 + c))) (by omega) (rfl)) mw_12_1 YX4_of ⟨rfl, rfl⟩ ⟨Nat.le_of_ble_eq_true rfl, Nat.le_of_ble_eq_true rfl⟩ ⟨Nat.zero_le _, Nat.zero_le _⟩ hw 0 rfl rfl rfl hl rfl (Nat.le_of_ble_eq_true rfl) dX4_getBy_247 (fun H locs hw => ?_)
        refine lv_iconst (v := nI 2) E.1 E.2.1 dX4_getBy_250 (by decide) ?_
        refine lv_icmp_neN (tgt := 258) E.1 E.2.1 (by omega) (by omega) dX4_getBy_251 (by decide) (fun c251 => ?_) (fun c251 => ?_)
        · skip
          refine lv_iconst (v := nI 4) E.1 E.2.1 dX4_getBy_258 (by decide) ?_
          refine lv_iload_n E.1 E.2.1 dX4_getBy_259 rfl (lv_at hl 4 rfl) ?_
          refine lv_iload_n E.1 E.2.1 dX4_getBy_260 rfl (lv_at hl 2 rfl) ?_
          refine lv_iload E.1 E.2.1 dX4_getBy_261 (lv_at hl 5 rfl) ?_
          refine callVV E (c_X4_send l G a (N) (x) 4 d c f (by omega) (by first | exact h6 | (rw [un_n (by omega)]; exact h6))) mw_8_6 YX4_send ⟨rfl, rfl⟩ ⟨Nat.le_of_ble_eq_true rfl, Nat.le_of_ble_eq_true rfl⟩ ⟨Nat.zero_le _, Nat.zero_le _⟩ hw 0 rfl rfl rfl hl rfl (Nat.le_of_ble_eq_true rfl) dX4_getBy_263 (fun H locs hw => ?_)
          exact rV E hr hlk (HB.eq hw (by rw [mGetBy, if_neg (by omega), if_neg (by omega), if_neg (by omega), mWhatC, if_neg (by omega), if_neg (by omega), if_pos (by omega)])) dX4_getBy_266
        · exact absurd c251 c224
  · skip
    refine lv_aload_n E.1 E.2.1 dX4_getBy_207 rfl (lv_at hl 1 rfl) ?_
    refine lv_iload_n E.1 E.2.1 dX4_getBy_208 rfl (lv_at hl 4 rfl) ?_
    refine lv_iload_n E.1 E.2.1 dX4_getBy_209 rfl (lv_at hl 2 rfl) ?_
    refine lv_iconst (v := nI 3) E.1 E.2.1 dX4_getBy_210 (by decide) ?_
    refine callVV E (c_X4_become l G a (N) (x) d c 3 (by omega) (by omega)) mw_12_17 YX4_become ⟨rfl, rfl⟩ ⟨Nat.le_of_ble_eq_true rfl, Nat.le_of_ble_eq_true rfl⟩ ⟨Nat.zero_le _, Nat.zero_le _⟩ hw 0 rfl rfl rfl hl rfl (Nat.le_of_ble_eq_true rfl) dX4_getBy_211 (fun H locs hw => ?_)
    refine lv_aload_n E.1 E.2.1 dX4_getBy_214 rfl (lv_at hl 1 rfl) ?_
    refine lv_iload_n E.1 E.2.1 dX4_getBy_215 rfl (lv_at hl 4 rfl) ?_
    refine lv_bipush (v := nI 6) E.1 E.2.1 dX4_getBy_216 (by decide) ?_
    refine lv_iload_n E.1 E.2.1 dX4_getBy_218 rfl (lv_at hl 2 rfl) ?_
    refine lv_addN E.1 E.2.1 dX4_getBy_219 ?_
    refine callVI E (c_X4_of l G a (un (N) (30 + 14 * d + (6 + c)) (3)) (x) d (6 + c) (3) (by omega) (by rw [un_s])) mw_12_1 YX4_of ⟨rfl, rfl⟩ ⟨Nat.le_of_ble_eq_true rfl, Nat.le_of_ble_eq_true rfl⟩ ⟨Nat.zero_le _, Nat.zero_le _⟩ hw 0 rfl rfl rfl hl rfl (Nat.le_of_ble_eq_true rfl) dX4_getBy_220 (fun H locs hw => ?_)
    refine lv_iconst (v := nI 2) E.1 E.2.1 dX4_getBy_223 (by decide) ?_
    refine lv_icmp_eqN (tgt := 240) E.1 E.2.1 (by omega) (by omega) dX4_getBy_224 (by decide) (fun c224 => ?_) (fun c224 => ?_)
    · exact absurd c224 (by decide)
    · skip
      refine lv_aload_n E.1 E.2.1 dX4_getBy_227 rfl (lv_at hl 1 rfl) ?_
      refine lv_iload_n E.1 E.2.1 dX4_getBy_228 rfl (lv_at hl 4 rfl) ?_
      refine lv_bipush (v := nI 6) E.1 E.2.1 dX4_getBy_229 (by decide) ?_
      refine lv_iload_n E.1 E.2.1 dX4_getBy_231 rfl (lv_at hl 2 rfl) ?_
      refine lv_addN E.1 E.2.1 dX4_getBy_232 ?_
      refine callVI E (c_X4_of l G a (un (N) (30 + 14 * d + (6 + c)) (3)) (x) d (6 + c) (3) (by omega) (by rw [un_s])) mw_12_1 YX4_of ⟨rfl, rfl⟩ ⟨Nat.le_of_ble_eq_true rfl, Nat.le_of_ble_eq_true rfl⟩ ⟨Nat.zero_le _, Nat.zero_le _⟩ hw 0 rfl rfl rfl hl rfl (Nat.le_of_ble_eq_true rfl) dX4_getBy_233 (fun H locs hw => ?_)
      refine lv_iconst (v := nI 3) E.1 E.2.1 dX4_getBy_236 (by decide) ?_
      refine lv_icmp_neN (tgt := 266) E.1 E.2.1 (by omega) (by omega) dX4_getBy_237 (by decide) (fun c237 => ?_) (fun c237 => ?_)
      · exact absurd c237 (by decide)
      · skip
        refine lv_aload_n E.1 E.2.1 dX4_getBy_240 rfl (lv_at hl 1 rfl) ?_
        refine lv_aload_n E.1 E.2.1 dX4_getBy_241 rfl (lv_at hl 1 rfl) ?_
        refine lv_iload_n E.1 E.2.1 dX4_getBy_242 rfl (lv_at hl 4 rfl) ?_
        refine lv_bipush (v := nI 6) E.1 E.2.1 dX4_getBy_243 (by decide) ?_
        refine lv_iload_n E.1 E.2.1 dX4_getBy_245 rfl (lv_at hl 2 rfl) ?_
        refine lv_addN E.1 E.2.1 dX4_getBy_246 ?_
        refine callVI E (c_X4_of l G a (un (N) (30 + 14 * d + (6 + c)) (3)) (x) d (6 + c) (3) (by omega) (by rw [un_s])) mw_12_1 YX4_of ⟨rfl, rfl⟩ ⟨Nat.le_of_ble_eq_true rfl, Nat.le_of_ble_eq_true rfl⟩ ⟨Nat.zero_le _, Nat.zero_le _⟩ hw 0 rfl rfl rfl hl rfl (Nat.le_of_ble_eq_true rfl) dX4_getBy_247 (fun H locs hw => ?_)
        refine lv_iconst (v := nI 2) E.1 E.2.1 dX4_getBy_250 (by decide) ?_
        refine lv_icmp_neN (tgt := 258) E.1 E.2.1 (by omega) (by omega) dX4_getBy_251 (by decide) (fun c251 => ?_) (fun c251 => ?_)
        · skip
          refine lv_iconst (v := nI 4) E.1 E.2.1 dX4_getBy_258 (by decide) ?_
          refine lv_iload_n E.1 E.2.1 dX4_getBy_259 rfl (lv_at hl 4 rfl) ?_
          refine lv_iload_n E.1 E.2.1 dX4_getBy_260 rfl (lv_at hl 2 rfl) ?_
          refine lv_iload E.1 E.2.1 dX4_getBy_261 (lv_at hl 5 rfl) ?_
          refine callVV E (c_X4_send l G a (un (N) (30 + 14 * d + (6 + c)) (3)) (x) 4 d c f (by omega) (by first | exact h6 | (rw [un_n (by omega)]; exact h6))) mw_8_6 YX4_send ⟨rfl, rfl⟩ ⟨Nat.le_of_ble_eq_true rfl, Nat.le_of_ble_eq_true rfl⟩ ⟨Nat.zero_le _, Nat.zero_le _⟩ hw 0 rfl rfl rfl hl rfl (Nat.le_of_ble_eq_true rfl) dX4_getBy_263 (fun H locs hw => ?_)
          exact rV E hr hlk (HB.eq hw (by rw [mGetBy, if_neg (by omega), if_neg (by omega), if_neg (by omega), mWhatC, if_pos (by omega)])) dX4_getBy_266
        · exact absurd c251 (by decide)
theorem YX4_deliverNow : YV yX4_deliverNow RX4 cX4_deliverNow 7 none 1 := ⟨mw_11_14, mw_11_15, mw_1_5, mw_11_16, by decide +kernel⟩
set_option maxHeartbeats 4000000 in
set_option maxRecDepth 100000 in
theorem c_X4_deliverNow (l : Launch) (G : GP) (a : Nat → Nat) (N : NS) (x : MX) (p k d f t : Nat) (hp : p < N 6) (hF : FI N) (ek : N (150 + 4 * p) = k) (ed : N (150 + 4 * p + 1) = d) (ef : N (150 + 4 * p + 2) = f) (et : N (150 + 4 * p + 3) = t) (hk : k < 2 ^ 31) (hd : d < 8) (hf : f < 5) (ht : t < 5) (hft : t = 4 → f < 4) : MV l yX4_deliverNow (.code yX4_deliverNow cX4_deliverNow 7 none :: GW) ({ frames := 4, cells := 0, slots := 0, locals := 97 }) [.ref (a 0), .int (nI (p))] G ES (mN G a (N) (x)) (mN G a (mDlv p N) (x)) := by
  refine MV.of (own := RX4) rfl rfl (Nat.le_of_ble_eq_true rfl) ?_
  intro pP eE sS mM below meth cC ls AA E hw hl hr hlk hE
  replace hl : lv_has ls 7 [(0, .ref (a 0)), (1, .int (nI (p)))] := hl
  have h6 := hF.1
  have h5 := hF.2.1
  have hi := hF.il ht
  refine lv_sipush (v := nI 150) E.1 E.2.1 dX4_deliverNow_0 (by decide) ?_
  refine lv_iconst (v := nI 4) E.1 E.2.1 dX4_deliverNow_3 (by decide) ?_
  refine lv_iload_n E.1 E.2.1 dX4_deliverNow_4 rfl (lv_at hl 1 rfl) ?_
  refine lv_mulN E.1 E.2.1 dX4_deliverNow_5 ?_
  refine lv_addN E.1 E.2.1 dX4_deliverNow_6 ?_
  refine lv_istore_n (lv' := [(2, .int (nI (150 + 4 * p))), (0, .ref (a 0)), (1, .int (nI (p)))]) E.1 E.2.1 dX4_deliverNow_7 rfl hl (by decide) rfl (fun ls hl => ?_)
  refine lv_aload_n E.1 E.2.1 dX4_deliverNow_8 rfl (lv_at hl 1 rfl) ?_
  refine gX4_0 E hw mw_3_8 dX4_deliverNow_9 ?_
  refine lv_iload_n E.1 E.2.1 dX4_deliverNow_12 rfl (lv_at hl 0 rfl) ?_
  refine lN4_0 E hw (v := k) (by omega) (ek) dX4_deliverNow_13 ?_
  refine lv_istore_n (lv' := [(3, .int (nI (k))), (2, .int (nI (150 + 4 * p))), (0, .ref (a 0)), (1, .int (nI (p)))]) E.1 E.2.1 dX4_deliverNow_14 rfl hl (by decide) rfl (fun ls hl => ?_)
  refine lv_aload_n E.1 E.2.1 dX4_deliverNow_15 rfl (lv_at hl 2 rfl) ?_
  refine gX4_0 E hw mw_3_8 dX4_deliverNow_16 ?_
  refine lv_iload_n E.1 E.2.1 dX4_deliverNow_19 rfl (lv_at hl 1 rfl) ?_
  refine lv_iconst (v := nI 1) E.1 E.2.1 dX4_deliverNow_20 (by decide) ?_
  refine lv_addN E.1 E.2.1 dX4_deliverNow_21 ?_
  refine lN4_0 E hw (v := d) (by omega) (ed) dX4_deliverNow_22 ?_
  refine lv_istore (lv' := [(4, .int (nI (d))), (3, .int (nI (k))), (2, .int (nI (150 + 4 * p))), (0, .ref (a 0)), (1, .int (nI (p)))]) E.1 E.2.1 dX4_deliverNow_23 hl (by decide) rfl (fun ls hl => ?_)
  refine lv_aload_n E.1 E.2.1 dX4_deliverNow_25 rfl (lv_at hl 3 rfl) ?_
  refine gX4_0 E hw mw_3_8 dX4_deliverNow_26 ?_
  refine lv_iload_n E.1 E.2.1 dX4_deliverNow_29 rfl (lv_at hl 2 rfl) ?_
  refine lv_iconst (v := nI 2) E.1 E.2.1 dX4_deliverNow_30 (by decide) ?_
  refine lv_addN E.1 E.2.1 dX4_deliverNow_31 ?_
  refine lN4_0 E hw (v := f) (by omega) (ef) dX4_deliverNow_32 ?_
  refine lv_istore (lv' := [(5, .int (nI (f))), (4, .int (nI (d))), (3, .int (nI (k))), (2, .int (nI (150 + 4 * p))), (0, .ref (a 0)), (1, .int (nI (p)))]) E.1 E.2.1 dX4_deliverNow_33 hl (by decide) rfl (fun ls hl => ?_)
  refine lv_aload_n E.1 E.2.1 dX4_deliverNow_35 rfl (lv_at hl 4 rfl) ?_
  refine gX4_0 E hw mw_3_8 dX4_deliverNow_36 ?_
  refine lv_iload_n E.1 E.2.1 dX4_deliverNow_39 rfl (lv_at hl 3 rfl) ?_
  refine lv_iconst (v := nI 3) E.1 E.2.1 dX4_deliverNow_40 (by decide) ?_
  refine lv_addN E.1 E.2.1 dX4_deliverNow_41 ?_
  refine lN4_0 E hw (v := t) (by omega) (et) dX4_deliverNow_42 ?_
  refine lv_istore (lv' := [(6, .int (nI (t))), (5, .int (nI (f))), (4, .int (nI (d))), (3, .int (nI (k))), (2, .int (nI (150 + 4 * p))), (0, .ref (a 0)), (1, .int (nI (p)))]) E.1 E.2.1 dX4_deliverNow_43 hl (by decide) rfl (fun ls hl => ?_)
  refine lv_aload_n E.1 E.2.1 dX4_deliverNow_45 rfl (lv_at hl 5 rfl) ?_
  refine lv_iload_n E.1 E.2.1 dX4_deliverNow_46 rfl (lv_at hl 6 rfl) ?_
  refine callVV E (c_X4_drop l G a (N) (x) p (by omega) (by omega)) mw_11_17 YX4_drop ⟨rfl, rfl⟩ ⟨Nat.le_of_ble_eq_true rfl, Nat.le_of_ble_eq_true rfl⟩ ⟨Nat.zero_le _, Nat.zero_le _⟩ hw 0 rfl rfl rfl hl rfl (Nat.le_of_ble_eq_true rfl) dX4_deliverNow_47 (fun H locs hw => ?_)
  refine lv_aload_n E.1 E.2.1 dX4_deliverNow_50 rfl (lv_at hl 5 rfl) ?_
  refine lv_iload E.1 E.2.1 dX4_deliverNow_51 (lv_at hl 0 rfl) ?_
  refine callVI E (c_X4_isIll l G a (mDrop p (N)) (x) t (N (10 + t)) (by omega) (mDrop_n (by omega) (by omega)) (by omega)) mw_7_15 YX4_isIll ⟨rfl, rfl⟩ ⟨Nat.le_of_ble_eq_true rfl, Nat.le_of_ble_eq_true rfl⟩ ⟨Nat.zero_le _, Nat.zero_le _⟩ hw 0 rfl rfl rfl hl rfl (Nat.le_of_ble_eq_true rfl) dX4_deliverNow_53 (fun H locs hw => ?_)
  refine lv_if_eqB (tgt := 71) E.1 E.2.1 dX4_deliverNow_56 (by decide) (fun c56 => ?_) (fun c56 => ?_)
  · skip
    refine lv_aload_n E.1 E.2.1 dX4_deliverNow_71 rfl (lv_at hl 5 rfl) ?_
    refine gX4_0 E hw mw_3_8 dX4_deliverNow_72 ?_
    refine lv_bipush (v := nI 7) E.1 E.2.1 dX4_deliverNow_75 (by decide) ?_
    refine lv_dup2_11 E.1 E.2.1 dX4_deliverNow_77 rfl rfl ?_
    refine lN4_0 E hw (v := mDrop p N 7) (by omega) (rfl) dX4_deliverNow_78 ?_
    refine lv_iconst (v := nI 1) E.1 E.2.1 dX4_deliverNow_79 (by decide) ?_
    refine lv_addN E.1 E.2.1 dX4_deliverNow_80 ?_
    refine sN4_0 E hw (by omega) dX4_deliverNow_81 (fun H locs hw => ?_)
    refine lv_aload_n E.1 E.2.1 dX4_deliverNow_82 rfl (lv_at hl 5 rfl) ?_
    refine gX4_0 E hw mw_3_8 dX4_deliverNow_83 ?_
    refine lv_bipush (v := nI 20) E.1 E.2.1 dX4_deliverNow_86 (by decide) ?_
    refine lv_iload E.1 E.2.1 dX4_deliverNow_88 (lv_at hl 0 rfl) ?_
    refine lv_addN E.1 E.2.1 dX4_deliverNow_90 ?_
    refine lv_dup2_11 E.1 E.2.1 dX4_deliverNow_91 rfl rfl ?_
    refine lN4_0 E hw (v := mDrop p N (20 + t)) (by omega) (un_n (by omega)) dX4_deliverNow_92 ?_
    refine lv_iconst (v := nI 1) E.1 E.2.1 dX4_deliverNow_93 (by decide) ?_
    refine lv_addN E.1 E.2.1 dX4_deliverNow_94 ?_
    refine sN4_0 E hw (by omega) dX4_deliverNow_95 (fun H locs hw => ?_)
    replace hw : HB G AA sS.heap (mN G a (mTo t (mDrop p N)) (x)) H locs := HB.eq hw (rfl)
    refine lv_iload E.1 E.2.1 dX4_deliverNow_96 (lv_at hl 0 rfl) ?_
    refine lv_iconst (v := nI 4) E.1 E.2.1 dX4_deliverNow_98 (by decide) ?_
    refine lv_icmp_neN (tgt := 114) E.1 E.2.1 (by omega) (by omega) dX4_deliverNow_99 (by decide) (fun c99 => ?_) (fun c99 => ?_)
    · skip
      refine lv_aload_n E.1 E.2.1 dX4_deliverNow_114 rfl (lv_at hl 5 rfl) ?_
      refine lv_iload E.1 E.2.1 dX4_deliverNow_115 (lv_at hl 0 rfl) ?_
      refine lv_iload_n E.1 E.2.1 dX4_deliverNow_117 rfl (lv_at hl 3 rfl) ?_
      refine lv_iload E.1 E.2.1 dX4_deliverNow_118 (lv_at hl 2 rfl) ?_
      refine lv_iload E.1 E.2.1 dX4_deliverNow_120 (lv_at hl 1 rfl) ?_
      refine callVV E (c_X4_getBy l G a (mTo t (mDrop p N)) (x) t k d f (by omega) (by omega) (by omega) (by omega) (hF.drp.tto ht)) mw_12_13 YX4_getBy ⟨rfl, rfl⟩ ⟨Nat.le_of_ble_eq_true rfl, Nat.le_of_ble_eq_true rfl⟩ ⟨Nat.zero_le _, Nat.zero_le _⟩ hw 0 rfl rfl rfl hl rfl (Nat.le_of_ble_eq_true rfl) dX4_deliverNow_122 (fun H locs hw => ?_)
      exact rV E hr hlk (HB.eq hw (by rw [mDlv, ek, ed, ef, et, if_neg c56, if_neg c99])) dX4_deliverNow_125
    · skip
      refine lv_aload_n E.1 E.2.1 dX4_deliverNow_102 rfl (lv_at hl 5 rfl) ?_
      refine lv_iload_n E.1 E.2.1 dX4_deliverNow_103 rfl (lv_at hl 3 rfl) ?_
      refine lv_iload E.1 E.2.1 dX4_deliverNow_104 (lv_at hl 2 rfl) ?_
      refine lv_iload E.1 E.2.1 dX4_deliverNow_106 (lv_at hl 1 rfl) ?_
      refine callVV E (c_X4_get l G a (mTo t (mDrop p N)) (x) k d f (by omega) (by omega) (by omega) (hF.drp.tto ht)) mw_11_21 YX4_get ⟨rfl, rfl⟩ ⟨Nat.le_of_ble_eq_true rfl, Nat.le_of_ble_eq_true rfl⟩ ⟨Nat.zero_le _, Nat.zero_le _⟩ hw 0 rfl rfl rfl hl rfl (Nat.le_of_ble_eq_true rfl) dX4_deliverNow_108 (fun H locs hw => ?_)
      refine lv_goto (tgt := 125) E.1 E.2.1 dX4_deliverNow_111 (by decide) ?_
      exact rV E hr hlk (HB.eq hw (by rw [mDlv, ek, ed, ef, et, if_neg c56, if_pos c99])) dX4_deliverNow_125
  · skip
    refine lv_aload_n E.1 E.2.1 dX4_deliverNow_59 rfl (lv_at hl 5 rfl) ?_
    refine gX4_0 E hw mw_3_8 dX4_deliverNow_60 ?_
    refine lv_bipush (v := nI 8) E.1 E.2.1 dX4_deliverNow_63 (by decide) ?_
    refine lv_dup2_11 E.1 E.2.1 dX4_deliverNow_65 rfl rfl ?_
    refine lN4_0 E hw (v := N 8) (by omega) (by rw [mDrop_n (by omega) (by omega)]) dX4_deliverNow_66 ?_
    refine lv_iconst (v := nI 1) E.1 E.2.1 dX4_deliverNow_67 (by decide) ?_
    refine lv_addN E.1 E.2.1 dX4_deliverNow_68 ?_
    refine sN4_0 E hw (by omega) dX4_deliverNow_69 (fun H locs hw => ?_)
    exact rV E hr hlk (HB.eq hw (by rw [mDlv, ek, ed, ef, et, if_pos c56])) dX4_deliverNow_70
theorem YX4_isTime : YS yX4_isTime RX4 cX4_isTime 2 (some .boolean) 2 := ⟨mw_17_16, mw_1_5, mw_17_17, by decide +kernel⟩
set_option maxHeartbeats 4000000 in
set_option maxRecDepth 100000 in
theorem c_X4_isTime (l : Launch) (G : GP) (s e : Int32) (he : ¬ e = 0) : MI l yX4_isTime (.code yX4_isTime cX4_isTime 2 (some .boolean) :: GW) ({ frames := 0, cells := 0, slots := 0, locals := 0 }) [.int (s), .int (e)] G ES ([]) ([]) (zb (isTm s e)) := by
  refine MI.of (own := RX4) rfl rfl (Nat.le_of_ble_eq_true rfl) ?_
  intro pP eE sS mM below meth cC ls AA E hw hl hr hlk hE
  replace hl : lv_has ls 2 [(0, .int (s)), (1, .int (e))] := hl
  refine lv_iload_n E.1 E.2.1 dX4_isTime_0 rfl (lv_at hl 0 rfl) ?_
  refine lv_if_le (tgt := 14) E.1 E.2.1 dX4_isTime_1 (by decide) (fun c1 => ?_) (fun c1 => ?_)
  · skip
    refine lv_iconst (v := nI 0) E.1 E.2.1 dX4_isTime_14 (by decide) ?_
    exact rZ E hr hlk (HB.eq hw (rfl)) ((zb_f (fun z => z.1 c1)).symm) rfl dX4_isTime_15
  · skip
    refine lv_iload_n E.1 E.2.1 dX4_isTime_4 rfl (lv_at hl 0 rfl) ?_
    refine lv_iload_n E.1 E.2.1 dX4_isTime_5 rfl (lv_at hl 1 rfl) ?_
    refine lv_irem E.1 E.2.1 dX4_isTime_6 he ?_
    refine lv_if_ne (tgt := 14) E.1 E.2.1 dX4_isTime_7 (by decide) (fun c7 => ?_) (fun c7 => ?_)
    · skip
      refine lv_iconst (v := nI 0) E.1 E.2.1 dX4_isTime_14 (by decide) ?_
      exact rZ E hr hlk (HB.eq hw (rfl)) ((zb_f (fun z => c7 z.2)).symm) rfl dX4_isTime_15
    · skip
      refine lv_iconst (v := nI 1) E.1 E.2.1 dX4_isTime_10 (by decide) ?_
      refine lv_goto (tgt := 15) E.1 E.2.1 dX4_isTime_11 (by decide) ?_
      exact rZ E hr hlk (HB.eq hw (rfl)) ((zb_t ⟨c1, c7⟩).symm) rfl dX4_isTime_15
theorem YX4_passBetween : YV yX4_passBetween RX4 cX4_passBetween 3 none 1 := ⟨mw_17_12, mw_17_13, mw_1_5, mw_17_14, by decide +kernel⟩
set_option maxHeartbeats 4000000 in
set_option maxRecDepth 100000 in
theorem c_X4_passBetween (l : Launch) (G : GP) (a : Nat → Nat) (N : NS) (x : MX) (d : Nat) (hd : d < 8) (hF : FI N) : MV l yX4_passBetween (.code yX4_passBetween cX4_passBetween 3 none :: GW) ({ frames := 3, cells := 0, slots := 0, locals := 72 }) [.ref (a 0), .int (nI (d))] G ES (mN G a (N) (x)) (mN G a (mPassB d N) (x)) := by
  refine MV.of (own := RX4) rfl rfl (Nat.le_of_ble_eq_true rfl) ?_
  intro pP eE sS mM below meth cC ls AA E hw hl hr hlk hE
  replace hl : lv_has ls 3 [(0, .ref (a 0)), (1, .int (nI (d)))] := hl
  have h6 := hF.1
  have h5 := hF.2.1
  have h0 := hF.f0 hd
  have h1 := hF.f1 hd
  have h4 := hF.f4 hd
  have h5x := hF.f5 hd
  have hs0 := hF.2.2.1 0 (by decide)
  have hs2 := hF.2.2.1 2 (by decide)
  refine lv_aload_n E.1 E.2.1 dX4_passBetween_0 rfl (lv_at hl 0 rfl) ?_
  refine lv_iload_n E.1 E.2.1 dX4_passBetween_1 rfl (lv_at hl 1 rfl) ?_
  refine lv_iconst (v := nI 0) E.1 E.2.1 dX4_passBetween_2 (by decide) ?_
  refine callVI E (c_X4_of l G a (N) (x) d 0 (N (30 + 14 * d + 0)) (by omega) (rfl)) mw_12_1 YX4_of ⟨rfl, rfl⟩ ⟨Nat.le_of_ble_eq_true rfl, Nat.le_of_ble_eq_true rfl⟩ ⟨Nat.zero_le _, Nat.zero_le _⟩ hw 0 rfl rfl rfl hl rfl (Nat.le_of_ble_eq_true rfl) dX4_passBetween_3 (fun H locs hw => ?_)
  refine lv_istore_n (lv' := [(2, .int (nI (N (30 + 14 * d + 0)))), (0, .ref (a 0)), (1, .int (nI (d)))]) E.1 E.2.1 dX4_passBetween_6 rfl hl (by decide) rfl (fun ls hl => ?_)
  refine lv_aload_n E.1 E.2.1 dX4_passBetween_7 rfl (lv_at hl 1 rfl) ?_
  refine lv_iload_n E.1 E.2.1 dX4_passBetween_8 rfl (lv_at hl 2 rfl) ?_
  refine lv_iconst (v := nI 1) E.1 E.2.1 dX4_passBetween_9 (by decide) ?_
  refine callVI E (c_X4_of l G a (N) (x) d 1 (N (30 + 14 * d + 1)) (by omega) (rfl)) mw_12_1 YX4_of ⟨rfl, rfl⟩ ⟨Nat.le_of_ble_eq_true rfl, Nat.le_of_ble_eq_true rfl⟩ ⟨Nat.zero_le _, Nat.zero_le _⟩ hw 0 rfl rfl rfl hl rfl (Nat.le_of_ble_eq_true rfl) dX4_passBetween_10 (fun H locs hw => ?_)
  refine lv_if_neN (tgt := 47) E.1 E.2.1 (by omega) dX4_passBetween_13 (by decide) (fun c13 => ?_) (fun c13 => ?_)
  · skip
    refine lv_aload_n E.1 E.2.1 dX4_passBetween_47 rfl (lv_at hl 1 rfl) ?_
    refine lv_iload_n E.1 E.2.1 dX4_passBetween_48 rfl (lv_at hl 2 rfl) ?_
    refine lv_iconst (v := nI 1) E.1 E.2.1 dX4_passBetween_49 (by decide) ?_
    refine callVI E (c_X4_of l G a (N) (x) d 1 (N (30 + 14 * d + 1)) (by omega) (rfl)) mw_12_1 YX4_of ⟨rfl, rfl⟩ ⟨Nat.le_of_ble_eq_true rfl, Nat.le_of_ble_eq_true rfl⟩ ⟨Nat.zero_le _, Nat.zero_le _⟩ hw 0 rfl rfl rfl hl rfl (Nat.le_of_ble_eq_true rfl) dX4_passBetween_50 (fun H locs hw => ?_)
    refine lv_iconst (v := nI 1) E.1 E.2.1 dX4_passBetween_53 (by decide) ?_
    refine lv_icmp_neN (tgt := 99) E.1 E.2.1 (by omega) (by omega) dX4_passBetween_54 (by decide) (fun c54 => ?_) (fun c54 => ?_)
    · skip
      exact rV E hr hlk (HB.eq hw (by rw [mPassB, if_neg (fun z => by omega), if_neg (fun z => by omega)])) dX4_passBetween_99
    · skip
      refine lv_aload_n E.1 E.2.1 dX4_passBetween_57 rfl (lv_at hl 1 rfl) ?_
      refine gX4_0 E hw mw_3_8 dX4_passBetween_58 ?_
      refine lv_iconst (v := nI 4) E.1 E.2.1 dX4_passBetween_61 (by decide) ?_
      refine lN4_0 E hw (v := N 4) (by omega) (rfl) dX4_passBetween_62 ?_
      refine lv_aload_n E.1 E.2.1 dX4_passBetween_63 rfl (lv_at hl 1 rfl) ?_
      refine lv_iload_n E.1 E.2.1 dX4_passBetween_64 rfl (lv_at hl 2 rfl) ?_
      refine lv_iconst (v := nI 3) E.1 E.2.1 dX4_passBetween_65 (by decide) ?_
      refine callVI E (c_X4_of l G a (N) (x) d 3 (N (30 + 14 * d + 3)) (by omega) (rfl)) mw_12_1 YX4_of ⟨rfl, rfl⟩ ⟨Nat.le_of_ble_eq_true rfl, Nat.le_of_ble_eq_true rfl⟩ ⟨Nat.zero_le _, Nat.zero_le _⟩ hw 0 rfl rfl rfl hl rfl (Nat.le_of_ble_eq_true rfl) dX4_passBetween_66 (fun H locs hw => ?_)
      refine lv_isub E.1 E.2.1 dX4_passBetween_69 ?_
      refine lv_aload_n E.1 E.2.1 dX4_passBetween_70 rfl (lv_at hl 1 rfl) ?_
      refine gX4_0 E hw mw_3_8 dX4_passBetween_71 ?_
      refine lv_iconst (v := nI 2) E.1 E.2.1 dX4_passBetween_74 (by decide) ?_
      refine lN4_0 E hw (v := N 2) (by omega) (rfl) dX4_passBetween_75 ?_
      refine callSI E (c_X4_isTime l G (nI (N 4) - nI (N (30 + 14 * d + 3))) (nI (N 2)) (fun z => absurd ((nI_eq0 (by omega)).mp z) (by omega))) mw_17_15 YX4_isTime ⟨rfl, rfl⟩ ⟨Nat.le_of_ble_eq_true rfl, Nat.le_of_ble_eq_true rfl⟩ ⟨Nat.zero_le _, Nat.zero_le _⟩ hw (w := []) (w' := []) (rr := mN G a (N) (x)) (big' := mN G a (N) (x)) (List.Perm.refl _) (List.Perm.refl _) rfl hl rfl (Nat.le_of_ble_eq_true rfl) dX4_passBetween_76 (fun H locs hw => ?_)
      refine lv_if_eqB (tgt := 99) E.1 E.2.1 dX4_passBetween_79 (by decide) (fun c79 => ?_) (fun c79 => ?_)
      · skip
        exact rV E hr hlk (HB.eq hw (by rw [mPassB, if_neg (fun z => by omega), if_neg (fun z => c79 z.2)])) dX4_passBetween_99
      · skip
        refine lv_aload_n E.1 E.2.1 dX4_passBetween_82 rfl (lv_at hl 1 rfl) ?_
        refine lv_iconst (v := nI 3) E.1 E.2.1 dX4_passBetween_83 (by decide) ?_
        refine lv_iload_n E.1 E.2.1 dX4_passBetween_84 rfl (lv_at hl 2 rfl) ?_
        refine lv_iconst (v := nI 4) E.1 E.2.1 dX4_passBetween_85 (by decide) ?_
        refine lv_iload_n E.1 E.2.1 dX4_passBetween_86 rfl (lv_at hl 0 rfl) ?_
        refine lv_aload_n E.1 E.2.1 dX4_passBetween_87 rfl (lv_at hl 1 rfl) ?_
        refine lv_iload_n E.1 E.2.1 dX4_passBetween_88 rfl (lv_at hl 2 rfl) ?_
        refine lv_iconst (v := nI 5) E.1 E.2.1 dX4_passBetween_89 (by decide) ?_
        refine callVI E (c_X4_of l G a (N) (x) d 5 (N (30 + 14 * d + 5)) (by omega) (rfl)) mw_12_1 YX4_of ⟨rfl, rfl⟩ ⟨Nat.le_of_ble_eq_true rfl, Nat.le_of_ble_eq_true rfl⟩ ⟨Nat.zero_le _, Nat.zero_le _⟩ hw 0 rfl rfl rfl hl rfl (Nat.le_of_ble_eq_true rfl) dX4_passBetween_90 (fun H locs hw => ?_)
        refine lv_iconst (v := -1) E.1 E.2.1 dX4_passBetween_93 (by decide) ?_
        refine lv_ixor E.1 E.2.1 dX4_passBetween_94 ?_
        refine lv_iand E.1 E.2.1 dX4_passBetween_95 (lv_eqi (y := nI (N (30 + 14 * d + 0) &&& (15 ^^^ N (30 + 14 * d + 5)))) (andn_nI _ (by omega) _ (by omega)) ?_)
        refine callVV E (c_X4_sendAll l G a (N) (x) 3 d 4 (N (30 + 14 * d + 0) &&& (15 ^^^ N (30 + 14 * d + 5))) (by omega) (and_lt16 (by omega)) (by omega)) mw_7_23 YX4_sendAll ⟨rfl, rfl⟩ ⟨Nat.le_of_ble_eq_true rfl, Nat.le_of_ble_eq_true rfl⟩ ⟨Nat.zero_le _, Nat.zero_le _⟩ hw 0 rfl rfl rfl hl rfl (Nat.le_of_ble_eq_true rfl) dX4_passBetween_96 (fun H locs hw => ?_)
        exact rV E hr hlk (HB.eq hw (by rw [mPassB, if_neg (fun z => by omega), if_pos ⟨c54, c79⟩])) dX4_passBetween_99
  · skip
    refine lv_aload_n E.1 E.2.1 dX4_passBetween_16 rfl (lv_at hl 1 rfl) ?_
    refine gX4_0 E hw mw_3_8 dX4_passBetween_17 ?_
    refine lv_iconst (v := nI 4) E.1 E.2.1 dX4_passBetween_20 (by decide) ?_
    refine lN4_0 E hw (v := N 4) (by omega) (rfl) dX4_passBetween_21 ?_
    refine lv_aload_n E.1 E.2.1 dX4_passBetween_22 rfl (lv_at hl 1 rfl) ?_
    refine lv_iload_n E.1 E.2.1 dX4_passBetween_23 rfl (lv_at hl 2 rfl) ?_
    refine lv_iconst (v := nI 2) E.1 E.2.1 dX4_passBetween_24 (by decide) ?_
    refine callVI E (c_X4_of l G a (N) (x) d 2 (N (30 + 14 * d + 2)) (by omega) (rfl)) mw_12_1 YX4_of ⟨rfl, rfl⟩ ⟨Nat.le_of_ble_eq_true rfl, Nat.le_of_ble_eq_true rfl⟩ ⟨Nat.zero_le _, Nat.zero_le _⟩ hw 0 rfl rfl rfl hl rfl (Nat.le_of_ble_eq_true rfl) dX4_passBetween_25 (fun H locs hw => ?_)
    refine lv_isub E.1 E.2.1 dX4_passBetween_28 ?_
    refine lv_aload_n E.1 E.2.1 dX4_passBetween_29 rfl (lv_at hl 1 rfl) ?_
    refine gX4_0 E hw mw_3_8 dX4_passBetween_30 ?_
    refine lv_iconst (v := nI 0) E.1 E.2.1 dX4_passBetween_33 (by decide) ?_
    refine lN4_0 E hw (v := N 0) (by omega) (rfl) dX4_passBetween_34 ?_
    refine lv_icmp_lt (tgt := 47) E.1 E.2.1 dX4_passBetween_35 (by decide) (fun c35 => ?_) (fun c35 => ?_)
    · skip
      refine lv_aload_n E.1 E.2.1 dX4_passBetween_47 rfl (lv_at hl 1 rfl) ?_
      refine lv_iload_n E.1 E.2.1 dX4_passBetween_48 rfl (lv_at hl 2 rfl) ?_
      refine lv_iconst (v := nI 1) E.1 E.2.1 dX4_passBetween_49 (by decide) ?_
      refine callVI E (c_X4_of l G a (N) (x) d 1 (N (30 + 14 * d + 1)) (by omega) (rfl)) mw_12_1 YX4_of ⟨rfl, rfl⟩ ⟨Nat.le_of_ble_eq_true rfl, Nat.le_of_ble_eq_true rfl⟩ ⟨Nat.zero_le _, Nat.zero_le _⟩ hw 0 rfl rfl rfl hl rfl (Nat.le_of_ble_eq_true rfl) dX4_passBetween_50 (fun H locs hw => ?_)
      refine lv_iconst (v := nI 1) E.1 E.2.1 dX4_passBetween_53 (by decide) ?_
      refine lv_icmp_neN (tgt := 99) E.1 E.2.1 (by omega) (by omega) dX4_passBetween_54 (by decide) (fun c54 => ?_) (fun c54 => ?_)
      · skip
        exact rV E hr hlk (HB.eq hw (by rw [mPassB, if_neg (fun z => z.2 c35), if_neg (fun z => by omega)])) dX4_passBetween_99
      · skip
        refine lv_aload_n E.1 E.2.1 dX4_passBetween_57 rfl (lv_at hl 1 rfl) ?_
        refine gX4_0 E hw mw_3_8 dX4_passBetween_58 ?_
        refine lv_iconst (v := nI 4) E.1 E.2.1 dX4_passBetween_61 (by decide) ?_
        refine lN4_0 E hw (v := N 4) (by omega) (rfl) dX4_passBetween_62 ?_
        refine lv_aload_n E.1 E.2.1 dX4_passBetween_63 rfl (lv_at hl 1 rfl) ?_
        refine lv_iload_n E.1 E.2.1 dX4_passBetween_64 rfl (lv_at hl 2 rfl) ?_
        refine lv_iconst (v := nI 3) E.1 E.2.1 dX4_passBetween_65 (by decide) ?_
        refine callVI E (c_X4_of l G a (N) (x) d 3 (N (30 + 14 * d + 3)) (by omega) (rfl)) mw_12_1 YX4_of ⟨rfl, rfl⟩ ⟨Nat.le_of_ble_eq_true rfl, Nat.le_of_ble_eq_true rfl⟩ ⟨Nat.zero_le _, Nat.zero_le _⟩ hw 0 rfl rfl rfl hl rfl (Nat.le_of_ble_eq_true rfl) dX4_passBetween_66 (fun H locs hw => ?_)
        refine lv_isub E.1 E.2.1 dX4_passBetween_69 ?_
        refine lv_aload_n E.1 E.2.1 dX4_passBetween_70 rfl (lv_at hl 1 rfl) ?_
        refine gX4_0 E hw mw_3_8 dX4_passBetween_71 ?_
        refine lv_iconst (v := nI 2) E.1 E.2.1 dX4_passBetween_74 (by decide) ?_
        refine lN4_0 E hw (v := N 2) (by omega) (rfl) dX4_passBetween_75 ?_
        refine callSI E (c_X4_isTime l G (nI (N 4) - nI (N (30 + 14 * d + 3))) (nI (N 2)) (fun z => absurd ((nI_eq0 (by omega)).mp z) (by omega))) mw_17_15 YX4_isTime ⟨rfl, rfl⟩ ⟨Nat.le_of_ble_eq_true rfl, Nat.le_of_ble_eq_true rfl⟩ ⟨Nat.zero_le _, Nat.zero_le _⟩ hw (w := []) (w' := []) (rr := mN G a (N) (x)) (big' := mN G a (N) (x)) (List.Perm.refl _) (List.Perm.refl _) rfl hl rfl (Nat.le_of_ble_eq_true rfl) dX4_passBetween_76 (fun H locs hw => ?_)
        refine lv_if_eqB (tgt := 99) E.1 E.2.1 dX4_passBetween_79 (by decide) (fun c79 => ?_) (fun c79 => ?_)
        · skip
          exact rV E hr hlk (HB.eq hw (by rw [mPassB, if_neg (fun z => z.2 c35), if_neg (fun z => c79 z.2)])) dX4_passBetween_99
        · skip
          refine lv_aload_n E.1 E.2.1 dX4_passBetween_82 rfl (lv_at hl 1 rfl) ?_
          refine lv_iconst (v := nI 3) E.1 E.2.1 dX4_passBetween_83 (by decide) ?_
          refine lv_iload_n E.1 E.2.1 dX4_passBetween_84 rfl (lv_at hl 2 rfl) ?_
          refine lv_iconst (v := nI 4) E.1 E.2.1 dX4_passBetween_85 (by decide) ?_
          refine lv_iload_n E.1 E.2.1 dX4_passBetween_86 rfl (lv_at hl 0 rfl) ?_
          refine lv_aload_n E.1 E.2.1 dX4_passBetween_87 rfl (lv_at hl 1 rfl) ?_
          refine lv_iload_n E.1 E.2.1 dX4_passBetween_88 rfl (lv_at hl 2 rfl) ?_
          refine lv_iconst (v := nI 5) E.1 E.2.1 dX4_passBetween_89 (by decide) ?_
          refine callVI E (c_X4_of l G a (N) (x) d 5 (N (30 + 14 * d + 5)) (by omega) (rfl)) mw_12_1 YX4_of ⟨rfl, rfl⟩ ⟨Nat.le_of_ble_eq_true rfl, Nat.le_of_ble_eq_true rfl⟩ ⟨Nat.zero_le _, Nat.zero_le _⟩ hw 0 rfl rfl rfl hl rfl (Nat.le_of_ble_eq_true rfl) dX4_passBetween_90 (fun H locs hw => ?_)
          refine lv_iconst (v := -1) E.1 E.2.1 dX4_passBetween_93 (by decide) ?_
          refine lv_ixor E.1 E.2.1 dX4_passBetween_94 ?_
          refine lv_iand E.1 E.2.1 dX4_passBetween_95 (lv_eqi (y := nI (N (30 + 14 * d + 0) &&& (15 ^^^ N (30 + 14 * d + 5)))) (andn_nI _ (by omega) _ (by omega)) ?_)
          refine callVV E (c_X4_sendAll l G a (N) (x) 3 d 4 (N (30 + 14 * d + 0) &&& (15 ^^^ N (30 + 14 * d + 5))) (by omega) (and_lt16 (by omega)) (by omega)) mw_7_23 YX4_sendAll ⟨rfl, rfl⟩ ⟨Nat.le_of_ble_eq_true rfl, Nat.le_of_ble_eq_true rfl⟩ ⟨Nat.zero_le _, Nat.zero_le _⟩ hw 0 rfl rfl rfl hl rfl (Nat.le_of_ble_eq_true rfl) dX4_passBetween_96 (fun H locs hw => ?_)
          exact rV E hr hlk (HB.eq hw (by rw [mPassB, if_neg (fun z => z.2 c35), if_pos ⟨c54, c79⟩])) dX4_passBetween_99
    · skip
      refine lv_aload_n E.1 E.2.1 dX4_passBetween_38 rfl (lv_at hl 1 rfl) ?_
      refine lv_iload_n E.1 E.2.1 dX4_passBetween_39 rfl (lv_at hl 2 rfl) ?_
      refine lv_iload_n E.1 E.2.1 dX4_passBetween_40 rfl (lv_at hl 0 rfl) ?_
      refine callVV E (c_X4_tear l G a (N) (x) d (N (30 + 14 * d + 0)) (by omega) (by omega) (by omega)) mw_12_9 YX4_tear ⟨rfl, rfl⟩ ⟨Nat.le_of_ble_eq_true rfl, Nat.le_of_ble_eq_true rfl⟩ ⟨Nat.zero_le _, Nat.zero_le _⟩ hw 0 rfl rfl rfl hl rfl (Nat.le_of_ble_eq_true rfl) dX4_passBetween_41 (fun H locs hw => ?_)
      refine lv_goto (tgt := 99) E.1 E.2.1 dX4_passBetween_44 (by decide) ?_
      exact rV E hr hlk (HB.eq hw (by rw [mPassB, if_pos ⟨c13, c35⟩])) dX4_passBetween_99
theorem YX4_passClerk : YV yX4_passClerk RX4 cX4_passClerk 4 none 2 := ⟨mw_17_19, mw_17_20, mw_1_5, mw_17_21, by decide +kernel⟩
set_option maxHeartbeats 4000000 in
set_option maxRecDepth 100000 in
theorem c_X4_passClerk (l : Launch) (G : GP) (a : Nat → Nat) (N : NS) (x : MX) (c d : Nat) (hc : c < 4) (hd : d < 8) (hF : FI N) : MV l yX4_passClerk (.code yX4_passClerk cX4_passClerk 4 none :: GW) ({ frames := 2, cells := 0, slots := 0, locals := 50 }) [.ref (a 0), .int (nI (c)), .int (nI (d))] G ES (mN G a (N) (x)) (mN G a (mPassC c d N) (x)) := by
  refine MV.of (own := RX4) rfl rfl (Nat.le_of_ble_eq_true rfl) ?_
  intro pP eE sS mM below meth cC ls AA E hw hl hr hlk hE
  replace hl : lv_has ls 4 [(0, .ref (a 0)), (1, .int (nI (c))), (2, .int (nI (d)))] := hl
  have h6 := hF.1
  have h5 := hF.2.1
  have h0 := hF.f0 hd
  have h1 := hF.f1 hd
  have h4 := hF.f4 hd
  have h5x := hF.f5 hd
  have h7 := hF.f6 hd hc
  have hs1 := hF.2.2.1 1 (by decide)
  have hs3 := hF.2.2.2.1
  refine lv_aload_n E.1 E.2.1 dX4_passClerk_0 rfl (lv_at hl 0 rfl) ?_
  refine lv_iload_n E.1 E.2.1 dX4_passClerk_1 rfl (lv_at hl 2 rfl) ?_
  refine lv_iload_n E.1 E.2.1 dX4_passClerk_2 rfl (lv_at hl 1 rfl) ?_
  refine callVI E (c_X4_isPart l G a (N) (x) d c (N (30 + 14 * d + 0)) (by omega) (by omega) (rfl) (by omega)) mw_15_7 YX4_isPart ⟨rfl, rfl⟩ ⟨Nat.le_of_ble_eq_true rfl, Nat.le_of_ble_eq_true rfl⟩ ⟨Nat.zero_le _, Nat.zero_le _⟩ hw 0 rfl rfl rfl hl rfl (Nat.le_of_ble_eq_true rfl) dX4_passClerk_3 (fun H locs hw => ?_)
  refine lv_if_eqB (tgt := 54) E.1 E.2.1 dX4_passClerk_6 (by decide) (fun c6 => ?_) (fun c6 => ?_)
  · skip
    refine lv_iconst (v := nI 0) E.1 E.2.1 dX4_passClerk_54 (by decide) ?_
    refine lv_istore_n (lv' := [(3, .int (nI (0))), (0, .ref (a 0)), (1, .int (nI (c))), (2, .int (nI (d)))]) E.1 E.2.1 dX4_passClerk_55 rfl hl (by decide) rfl (fun ls hl => ?_)
    refine lv_iload_n E.1 E.2.1 dX4_passClerk_56 rfl (lv_at hl 0 rfl) ?_
    refine lv_if_eqN (tgt := 103) E.1 E.2.1 (by omega) dX4_passClerk_57 (by decide) (fun c57 => ?_) (fun c57 => ?_)
    · skip
      exact rV E hr hlk (HB.eq hw (by rw [mPassC, if_neg (fun z => c6 z.1)])) dX4_passClerk_103
    · exact absurd c57 (by decide)
  · skip
    refine lv_aload_n E.1 E.2.1 dX4_passClerk_9 rfl (lv_at hl 0 rfl) ?_
    refine lv_iload_n E.1 E.2.1 dX4_passClerk_10 rfl (lv_at hl 2 rfl) ?_
    refine lv_bipush (v := nI 6) E.1 E.2.1 dX4_passClerk_11 (by decide) ?_
    refine lv_iload_n E.1 E.2.1 dX4_passClerk_13 rfl (lv_at hl 1 rfl) ?_
    refine lv_addN E.1 E.2.1 dX4_passClerk_14 ?_
    refine callVI E (c_X4_of l G a (N) (x) d (6 + c) (N (30 + 14 * d + (6 + c))) (by omega) (rfl)) mw_12_1 YX4_of ⟨rfl, rfl⟩ ⟨Nat.le_of_ble_eq_true rfl, Nat.le_of_ble_eq_true rfl⟩ ⟨Nat.zero_le _, Nat.zero_le _⟩ hw 0 rfl rfl rfl hl rfl (Nat.le_of_ble_eq_true rfl) dX4_passClerk_15 (fun H locs hw => ?_)
    refine lv_iconst (v := nI 1) E.1 E.2.1 dX4_passClerk_18 (by decide) ?_
    refine lv_icmp_neN (tgt := 54) E.1 E.2.1 (by omega) (by omega) dX4_passClerk_19 (by decide) (fun c19 => ?_) (fun c19 => ?_)
    · skip
      refine lv_iconst (v := nI 0) E.1 E.2.1 dX4_passClerk_54 (by decide) ?_
      refine lv_istore_n (lv' := [(3, .int (nI (0))), (0, .ref (a 0)), (1, .int (nI (c))), (2, .int (nI (d)))]) E.1 E.2.1 dX4_passClerk_55 rfl hl (by decide) rfl (fun ls hl => ?_)
      refine lv_iload_n E.1 E.2.1 dX4_passClerk_56 rfl (lv_at hl 0 rfl) ?_
      refine lv_if_eqN (tgt := 103) E.1 E.2.1 (by omega) dX4_passClerk_57 (by decide) (fun c57 => ?_) (fun c57 => ?_)
      · skip
        exact rV E hr hlk (HB.eq hw (by rw [mPassC, if_neg (fun z => c19 z.2.1)])) dX4_passClerk_103
      · exact absurd c57 (by decide)
    · skip
      refine lv_aload_n E.1 E.2.1 dX4_passClerk_22 rfl (lv_at hl 0 rfl) ?_
      refine gX4_0 E hw mw_3_8 dX4_passClerk_23 ?_
      refine lv_iconst (v := nI 4) E.1 E.2.1 dX4_passClerk_26 (by decide) ?_
      refine lN4_0 E hw (v := N 4) (by omega) (rfl) dX4_passClerk_27 ?_
      refine lv_aload_n E.1 E.2.1 dX4_passClerk_28 rfl (lv_at hl 0 rfl) ?_
      refine lv_iload_n E.1 E.2.1 dX4_passClerk_29 rfl (lv_at hl 2 rfl) ?_
      refine lv_bipush (v := nI 10) E.1 E.2.1 dX4_passClerk_30 (by decide) ?_
      refine lv_iload_n E.1 E.2.1 dX4_passClerk_32 rfl (lv_at hl 1 rfl) ?_
      refine lv_addN E.1 E.2.1 dX4_passClerk_33 ?_
      refine callVI E (c_X4_of l G a (N) (x) d (10 + c) (N (30 + 14 * d + (10 + c))) (by omega) (rfl)) mw_12_1 YX4_of ⟨rfl, rfl⟩ ⟨Nat.le_of_ble_eq_true rfl, Nat.le_of_ble_eq_true rfl⟩ ⟨Nat.zero_le _, Nat.zero_le _⟩ hw 0 rfl rfl rfl hl rfl (Nat.le_of_ble_eq_true rfl) dX4_passClerk_34 (fun H locs hw => ?_)
      refine lv_isub E.1 E.2.1 dX4_passClerk_37 ?_
      refine lv_aload_n E.1 E.2.1 dX4_passClerk_38 rfl (lv_at hl 0 rfl) ?_
      refine gX4_0 E hw mw_3_8 dX4_passClerk_39 ?_
      refine lv_iconst (v := nI 1) E.1 E.2.1 dX4_passClerk_42 (by decide) ?_
      refine lN4_0 E hw (v := N 1) (by omega) (rfl) dX4_passClerk_43 ?_
      refine callSI E (c_X4_isTime l G (nI (N 4) - nI (N (30 + 14 * d + (10 + c)))) (nI (N 1)) (fun z => absurd ((nI_eq0 (by omega)).mp z) (by omega))) mw_17_15 YX4_isTime ⟨rfl, rfl⟩ ⟨Nat.le_of_ble_eq_true rfl, Nat.le_of_ble_eq_true rfl⟩ ⟨Nat.zero_le _, Nat.zero_le _⟩ hw (w := []) (w' := []) (rr := mN G a (N) (x)) (big' := mN G a (N) (x)) (List.Perm.refl _) (List.Perm.refl _) rfl hl rfl (Nat.le_of_ble_eq_true rfl) dX4_passClerk_44 (fun H locs hw => ?_)
      refine lv_if_eqB (tgt := 54) E.1 E.2.1 dX4_passClerk_47 (by decide) (fun c47 => ?_) (fun c47 => ?_)
      · skip
        refine lv_iconst (v := nI 0) E.1 E.2.1 dX4_passClerk_54 (by decide) ?_
        refine lv_istore_n (lv' := [(3, .int (nI (0))), (0, .ref (a 0)), (1, .int (nI (c))), (2, .int (nI (d)))]) E.1 E.2.1 dX4_passClerk_55 rfl hl (by decide) rfl (fun ls hl => ?_)
        refine lv_iload_n E.1 E.2.1 dX4_passClerk_56 rfl (lv_at hl 0 rfl) ?_
        refine lv_if_eqN (tgt := 103) E.1 E.2.1 (by omega) dX4_passClerk_57 (by decide) (fun c57 => ?_) (fun c57 => ?_)
        · skip
          exact rV E hr hlk (HB.eq hw (by rw [mPassC, if_neg (fun z => c47 z.2.2)])) dX4_passClerk_103
        · exact absurd c57 (by decide)
      · skip
        refine lv_iconst (v := nI 1) E.1 E.2.1 dX4_passClerk_50 (by decide) ?_
        refine lv_goto (tgt := 55) E.1 E.2.1 dX4_passClerk_51 (by decide) ?_
        refine lv_istore_n (lv' := [(3, .int (nI (1))), (0, .ref (a 0)), (1, .int (nI (c))), (2, .int (nI (d)))]) E.1 E.2.1 dX4_passClerk_55 rfl hl (by decide) rfl (fun ls hl => ?_)
        refine lv_iload_n E.1 E.2.1 dX4_passClerk_56 rfl (lv_at hl 0 rfl) ?_
        refine lv_if_eqN (tgt := 103) E.1 E.2.1 (by omega) dX4_passClerk_57 (by decide) (fun c57 => ?_) (fun c57 => ?_)
        · exact absurd c57 (by decide)
        · skip
          refine lv_aload_n E.1 E.2.1 dX4_passClerk_60 rfl (lv_at hl 1 rfl) ?_
          refine lv_bipush (v := nI 6) E.1 E.2.1 dX4_passClerk_61 (by decide) ?_
          refine lv_iload_n E.1 E.2.1 dX4_passClerk_63 rfl (lv_at hl 3 rfl) ?_
          refine lv_iload_n E.1 E.2.1 dX4_passClerk_64 rfl (lv_at hl 2 rfl) ?_
          refine lv_iconst (v := nI 4) E.1 E.2.1 dX4_passClerk_65 (by decide) ?_
          refine callVV E (c_X4_send l G a (N) (x) 6 d c 4 (by omega) (by omega)) mw_8_6 YX4_send ⟨rfl, rfl⟩ ⟨Nat.le_of_ble_eq_true rfl, Nat.le_of_ble_eq_true rfl⟩ ⟨Nat.zero_le _, Nat.zero_le _⟩ hw 0 rfl rfl rfl hl rfl (Nat.le_of_ble_eq_true rfl) dX4_passClerk_66 (fun H locs hw => ?_)
          refine lv_aload_n E.1 E.2.1 dX4_passClerk_69 rfl (lv_at hl 1 rfl) ?_
          refine lv_bipush (v := nI 6) E.1 E.2.1 dX4_passClerk_70 (by decide) ?_
          refine lv_iload_n E.1 E.2.1 dX4_passClerk_72 rfl (lv_at hl 3 rfl) ?_
          refine lv_iload_n E.1 E.2.1 dX4_passClerk_73 rfl (lv_at hl 2 rfl) ?_
          refine lv_aload_n E.1 E.2.1 dX4_passClerk_74 rfl (lv_at hl 1 rfl) ?_
          refine gX4_0 E hw mw_3_8 dX4_passClerk_75 ?_
          refine lv_iconst (v := nI 3) E.1 E.2.1 dX4_passClerk_78 (by decide) ?_
          refine lN4_0 E hw (v := N 3) (by omega) (mSend_n (by omega) h6 (by omega) (by omega) (by omega)) dX4_passClerk_79 ?_
          refine lv_iconst (v := nI 1) E.1 E.2.1 dX4_passClerk_80 (by decide) ?_
          refine lv_icmp_neN (tgt := 99) E.1 E.2.1 (by omega) (by omega) dX4_passClerk_81 (by decide) (fun c81 => ?_) (fun c81 => ?_)
          · skip
            refine lv_iconst (v := nI 0) E.1 E.2.1 dX4_passClerk_99 (by decide) ?_
            refine callVV E (c_X4_sendAll l G a (mSend 6 d c 4 (N)) (x) 6 d c 0 (by omega) (by first | exact and_lt16 (by omega) | decide) (mSend_6 (by omega) h6)) mw_7_23 YX4_sendAll ⟨rfl, rfl⟩ ⟨Nat.le_of_ble_eq_true rfl, Nat.le_of_ble_eq_true rfl⟩ ⟨Nat.zero_le _, Nat.zero_le _⟩ hw 0 rfl rfl rfl hl rfl (Nat.le_of_ble_eq_true rfl) dX4_passClerk_100 (fun H locs hw => ?_)
            exact rV E hr hlk (HB.eq hw (by rw [mPassC, if_pos ⟨c6, c19, c47⟩, if_neg c81])) dX4_passClerk_103
          · skip
            refine lv_aload_n E.1 E.2.1 dX4_passClerk_84 rfl (lv_at hl 1 rfl) ?_
            refine lv_iload_n E.1 E.2.1 dX4_passClerk_85 rfl (lv_at hl 3 rfl) ?_
            refine lv_iconst (v := nI 0) E.1 E.2.1 dX4_passClerk_86 (by decide) ?_
            refine callVI E (c_X4_of l G a (mSend 6 d c 4 (N)) (x) d 0 (N (30 + 14 * d + 0)) (by omega) (mSend_n (by omega) h6 (by omega) (by omega) (by omega))) mw_12_1 YX4_of ⟨rfl, rfl⟩ ⟨Nat.le_of_ble_eq_true rfl, Nat.le_of_ble_eq_true rfl⟩ ⟨Nat.zero_le _, Nat.zero_le _⟩ hw 0 rfl rfl rfl hl rfl (Nat.le_of_ble_eq_true rfl) dX4_passClerk_87 (fun H locs hw => ?_)
            refine lv_iconst (v := nI 1) E.1 E.2.1 dX4_passClerk_90 (by decide) ?_
            refine lv_iload_n E.1 E.2.1 dX4_passClerk_91 rfl (lv_at hl 2 rfl) ?_
            refine lv_ishl E.1 E.2.1 dX4_passClerk_92 (lv_eqi (y := nI (2 ^ c)) (shl_1 _ (by omega)) ?_)
            refine lv_iconst (v := -1) E.1 E.2.1 dX4_passClerk_93 (by decide) ?_
            refine lv_ixor E.1 E.2.1 dX4_passClerk_94 ?_
            refine lv_iand E.1 E.2.1 dX4_passClerk_95 (lv_eqi (y := nI (N (30 + 14 * d + 0) &&& (15 ^^^ 2 ^ c))) (andn_nI _ (by omega) _ (pow_lt16 _ (by omega))) ?_)
            refine lv_goto (tgt := 100) E.1 E.2.1 dX4_passClerk_96 (by decide) ?_
            refine callVV E (c_X4_sendAll l G a (mSend 6 d c 4 (N)) (x) 6 d c (N (30 + 14 * d + 0) &&& (15 ^^^ 2 ^ c)) (by omega) (by first | exact and_lt16 (by omega) | decide) (mSend_6 (by omega) h6)) mw_7_23 YX4_sendAll ⟨rfl, rfl⟩ ⟨Nat.le_of_ble_eq_true rfl, Nat.le_of_ble_eq_true rfl⟩ ⟨Nat.zero_le _, Nat.zero_le _⟩ hw 0 rfl rfl rfl hl rfl (Nat.le_of_ble_eq_true rfl) dX4_passClerk_100 (fun H locs hw => ?_)
            exact rV E hr hlk (HB.eq hw (by rw [mPassC, if_pos ⟨c6, c19, c47⟩, if_pos c81])) dX4_passClerk_103
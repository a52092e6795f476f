theorem s7_to {t j : Nat} {M : NS} (h1 : j ≠ 7) : un M (20 + t) (M (20 + t) + 1) j = mTo t M j := by
  unfold mTo
  by_cases z : j = 20 + t
  · subst z; rw [un_s, un_s]
  · rw [un_n z, un_n z, un_n h1]
theorem sa_0 {k d f : Nat} {N : NS} : sa k d f 0 4 N = N := by
  rw [sa, sa, sa, sa, sa]; simp [Nat.zero_testBit]
theorem YX2_handOver : YV yX2_handOver RX2 cX2_handOver 6 (some .int) 1 := ⟨mw_8_15, mw_8_16, mw_1_15, mw_8_17, by decide +kernel⟩
set_option maxHeartbeats 4000000 in
set_option maxRecDepth 100000 in
theorem c_X2_handOver_bad (l : Launch) (G : GP) (a : Nat → Nat) (N : NS) (p : Int32) (h : ¬ (0 ≤ p ∧ p < nI (N 6))) : MI l yX2_handOver (.code yX2_handOver cX2_handOver 6 (some .int) :: GW) ({ frames := 1, cells := 0, slots := 0, locals := 21 }) [.ref (a 0), .int (p)] G ES (sN G a (N)) (sN G a (N)) (-1) := by
  refine MI.of (own := RX2) rfl rfl (Nat.le_of_ble_eq_true rfl) ?_
  intro pP eE sS mM below meth cC ls AA E hw hl hr hlk hE
  replace hl : lv_has ls 6 [(0, .ref (a 0)), (1, .int (p))] := hl
  refine lv_aload_n E.1 E.2.1 dX2_handOver_0 rfl (lv_at hl 0 rfl) ?_
  refine gX2_5 E hw mw_2_10 dX2_handOver_1 ?_
  refine lv_iload_n E.1 E.2.1 dX2_handOver_4 rfl (lv_at hl 1 rfl) ?_
  refine callVI E (c_X1_has l G a (N) (p)) mw_8_21 YX1_has ⟨rfl, rfl⟩ ⟨Nat.le_of_ble_eq_true rfl, Nat.le_of_ble_eq_true rfl⟩ ⟨Nat.zero_le _, Nat.zero_le _⟩ hw 2 rfl rfl rfl hl rfl (Nat.le_of_ble_eq_true rfl) dX2_handOver_5 (fun H locs hw => ?_)
  refine lv_if_neB (tgt := 13) E.1 E.2.1 dX2_handOver_8 (by decide) (fun c8 => ?_) (fun c8 => ?_)
  · exact absurd c8 h
  · skip
    refine lv_iconst (v := -1) E.1 E.2.1 dX2_handOver_11 (by decide) ?_
    exact rI E hr hlk (HB.eq hw (rfl)) (rfl) dX2_handOver_12
set_option maxHeartbeats 4000000 in
set_option maxRecDepth 100000 in
theorem c_X2_handOver (l : Launch) (G : GP) (a : Nat → Nat) (N : NS) (p k d f t : Nat) (hI : Inv N) (hp : p < N 6) (ek : N (150 + 4 * p + 0) = k) (ed : N (150 + 4 * p + 1) = d) (ef : N (150 + 4 * p + 2) = f) (et : N (150 + 4 * p + 3) = t) (hm : mok (N (30 + 14 * d + 0)) (N 5) k d f t) : MI l yX2_handOver (.code yX2_handOver cX2_handOver 6 (some .int) :: GW) ({ frames := 3, cells := 0, slots := 0, locals := 72 }) [.ref (a 0), .int (nI (p))] G ES (sN G a (N)) (sN G a (mDlv p N)) (nI (mDlv p N 6)) := by
  refine MI.of (own := RX2) rfl rfl (Nat.le_of_ble_eq_true rfl) ?_
  intro pP eE sS mM below meth cC ls AA E hw hl hr hlk hE
  replace hl : lv_has ls 6 [(0, .ref (a 0)), (1, .int (nI (p)))] := hl
  replace ek : N (150 + 4 * p) = k := ek
  obtain ⟨g1, g2, g3, g4, g5, g6, g7, g9, g10⟩ := hm
  have hF := hI.1
  have h6 := hF.1
  have h5 := hF.2.1
  have hd : d < 8 := by omega
  have hi := hF.il g4
  have hFT : FI (mTo t (mDrop p N)) := hF.drp.tto g4
  have eT0 : mTo t (mDrop p N) (30 + 14 * d + 0) = N (30 + 14 * d + 0) := by unfold mTo; rw [un_n (by omega), un_n (by omega), mDrop_n (by omega) (by omega)]
  have p125 : k = 1 ∨ k = 2 ∨ k = 5 → t = 4 ∧ f < 4 := g7
  have p034 : k = 0 ∨ k = 3 ∨ k = 4 → t < 4 := g9
  have p6 : k = 6 → f < 4 := g10
  refine lv_aload_n E.1 E.2.1 dX2_handOver_0 rfl (lv_at hl 0 rfl) ?_
  refine gX2_5 E hw mw_2_10 dX2_handOver_1 ?_
  refine lv_iload_n E.1 E.2.1 dX2_handOver_4 rfl (lv_at hl 1 rfl) ?_
  refine callVI E (c_X1_has l G a (N) (nI (p))) mw_8_21 YX1_has ⟨rfl, rfl⟩ ⟨Nat.le_of_ble_eq_true rfl, Nat.le_of_ble_eq_true rfl⟩ ⟨Nat.zero_le _, Nat.zero_le _⟩ hw 2 rfl rfl rfl hl rfl (Nat.le_of_ble_eq_true rfl) dX2_handOver_5 (fun H locs hw => ?_)
  refine lv_if_neB (tgt := 13) E.1 E.2.1 dX2_handOver_8 (by decide) (fun c8 => ?_) (fun c8 => ?_)
  · skip
    refine lv_aload_n E.1 E.2.1 dX2_handOver_13 rfl (lv_at hl 0 rfl) ?_
    refine gX2_5 E hw mw_2_10 dX2_handOver_14 ?_
    refine lv_iload_n E.1 E.2.1 dX2_handOver_17 rfl (lv_at hl 1 rfl) ?_
    refine lv_iconst (v := nI 0) E.1 E.2.1 dX2_handOver_18 (by decide) ?_
    refine callVI E (c_X1_part l G a (N) p 0 (k) (by omega) (ek)) mw_9_1 YX1_part ⟨rfl, rfl⟩ ⟨Nat.le_of_ble_eq_true rfl, Nat.le_of_ble_eq_true rfl⟩ ⟨Nat.zero_le _, Nat.zero_le _⟩ hw 2 rfl rfl rfl hl rfl (Nat.le_of_ble_eq_true rfl) dX2_handOver_19 (fun H locs hw => ?_)
    refine lv_istore_n (lv' := [(2, .int (nI (k))), (0, .ref (a 0)), (1, .int (nI (p)))]) E.1 E.2.1 dX2_handOver_22 rfl hl (by decide) rfl (fun ls hl => ?_)
    refine lv_aload_n E.1 E.2.1 dX2_handOver_23 rfl (lv_at hl 1 rfl) ?_
    refine gX2_5 E hw mw_2_10 dX2_handOver_24 ?_
    refine lv_iload_n E.1 E.2.1 dX2_handOver_27 rfl (lv_at hl 2 rfl) ?_
    refine lv_iconst (v := nI 1) E.1 E.2.1 dX2_handOver_28 (by decide) ?_
    refine callVI E (c_X1_part l G a (N) p 1 (d) (by omega) (ed)) mw_9_1 YX1_part ⟨rfl, rfl⟩ ⟨Nat.le_of_ble_eq_true rfl, Nat.le_of_ble_eq_true rfl⟩ ⟨Nat.zero_le _, Nat.zero_le _⟩ hw 2 rfl rfl rfl hl rfl (Nat.le_of_ble_eq_true rfl) dX2_handOver_29 (fun H locs hw => ?_)
    refine lv_istore_n (lv' := [(3, .int (nI (d))), (2, .int (nI (k))), (0, .ref (a 0)), (1, .int (nI (p)))]) E.1 E.2.1 dX2_handOver_32 rfl hl (by decide) rfl (fun ls hl => ?_)
    refine lv_aload_n E.1 E.2.1 dX2_handOver_33 rfl (lv_at hl 2 rfl) ?_
    refine gX2_5 E hw mw_2_10 dX2_handOver_34 ?_
    refine lv_iload_n E.1 E.2.1 dX2_handOver_37 rfl (lv_at hl 3 rfl) ?_
    refine lv_iconst (v := nI 2) E.1 E.2.1 dX2_handOver_38 (by decide) ?_
    refine callVI E (c_X1_part l G a (N) p 2 (f) (by omega) (ef)) mw_9_1 YX1_part ⟨rfl, rfl⟩ ⟨Nat.le_of_ble_eq_true rfl, Nat.le_of_ble_eq_true rfl⟩ ⟨Nat.zero_le _, Nat.zero_le _⟩ hw 2 rfl rfl rfl hl rfl (Nat.le_of_ble_eq_true rfl) dX2_handOver_39 (fun H locs hw => ?_)
    refine lv_istore (lv' := [(4, .int (nI (f))), (3, .int (nI (d))), (2, .int (nI (k))), (0, .ref (a 0)), (1, .int (nI (p)))]) E.1 E.2.1 dX2_handOver_42 hl (by decide) rfl (fun ls hl => ?_)
    refine lv_aload_n E.1 E.2.1 dX2_handOver_44 rfl (lv_at hl 3 rfl) ?_
    refine gX2_5 E hw mw_2_10 dX2_handOver_45 ?_
    refine lv_iload_n E.1 E.2.1 dX2_handOver_48 rfl (lv_at hl 4 rfl) ?_
    refine lv_iconst (v := nI 3) E.1 E.2.1 dX2_handOver_49 (by decide) ?_
    refine callVI E (c_X1_part l G a (N) p 3 (t) (by omega) (et)) mw_9_1 YX1_part ⟨rfl, rfl⟩ ⟨Nat.le_of_ble_eq_true rfl, Nat.le_of_ble_eq_true rfl⟩ ⟨Nat.zero_le _, Nat.zero_le _⟩ hw 2 rfl rfl rfl hl rfl (Nat.le_of_ble_eq_true rfl) dX2_handOver_50 (fun H locs hw => ?_)
    refine lv_istore (lv' := [(5, .int (nI (t))), (4, .int (nI (f))), (3, .int (nI (d))), (2, .int (nI (k))), (0, .ref (a 0)), (1, .int (nI (p)))]) E.1 E.2.1 dX2_handOver_53 hl (by decide) rfl (fun ls hl => ?_)
    refine lv_aload_n E.1 E.2.1 dX2_handOver_55 rfl (lv_at hl 4 rfl) ?_
    refine gX2_5 E hw mw_2_10 dX2_handOver_56 ?_
    refine lv_iload_n E.1 E.2.1 dX2_handOver_59 rfl (lv_at hl 5 rfl) ?_
    refine callVV E (c_X1_remove l G a (N) p (by omega) (by omega)) mw_9_5 YX1_remove ⟨rfl, rfl⟩ ⟨Nat.le_of_ble_eq_true rfl, Nat.le_of_ble_eq_true rfl⟩ ⟨Nat.zero_le _, Nat.zero_le _⟩ hw 2 rfl rfl rfl hl rfl (Nat.le_of_ble_eq_true rfl) dX2_handOver_60 (fun H locs hw => ?_)
    refine lv_aload_n E.1 E.2.1 dX2_handOver_63 rfl (lv_at hl 4 rfl) ?_
    refine lv_iload E.1 E.2.1 dX2_handOver_64 (lv_at hl 0 rfl) ?_
    refine callVI E (c_X2_isIll l G a (mDrop p (N)) t (N (10 + t)) (by omega) (mDrop_n (by omega) (by omega))) mw_6_23 YX2_isIll ⟨rfl, rfl⟩ ⟨Nat.le_of_ble_eq_true rfl, Nat.le_of_ble_eq_true rfl⟩ ⟨Nat.zero_le _, Nat.zero_le _⟩ hw 0 rfl rfl rfl hl rfl (Nat.le_of_ble_eq_true rfl) dX2_handOver_66 (fun H locs hw => ?_)
    refine lv_if_eqB (tgt := 93) E.1 E.2.1 dX2_handOver_69 (by decide) (fun c69 => ?_) (fun c69 => ?_)
    · skip
      refine lv_aload_n E.1 E.2.1 dX2_handOver_93 rfl (lv_at hl 4 rfl) ?_
      refine gX2_5 E hw mw_2_10 dX2_handOver_94 ?_
      refine gX1_3 E hw mw_8_20 dX2_handOver_97 ?_
      refine lv_iload E.1 E.2.1 dX2_handOver_100 (lv_at hl 0 rfl) ?_
      refine lv_dup2_11 E.1 E.2.1 dX2_handOver_102 rfl rfl ?_
      refine lN2_2 E hw (v := mDrop p N (20 + t)) (by omega) (rfl) dX2_handOver_103 ?_
      refine lv_iconst (v := nI 1) E.1 E.2.1 dX2_handOver_104 (by decide) ?_
      refine lv_addN E.1 E.2.1 dX2_handOver_105 ?_
      refine sN2_2 E hw (by omega) dX2_handOver_106 (fun H locs hw => ?_)
      replace hw : HB G AA sS.heap (sN G a (mTo t (mDrop p N))) H locs := HB.s7 hw (fun j h1 _ => s7_to h1)
      refine lv_iload_n E.1 E.2.1 dX2_handOver_107 rfl (lv_at hl 3 rfl) ?_
      by_cases z108_0 : k = 0
      · refine lv_eqi (y := nI 0) (by rw [z108_0]) ?_
        refine lv_tableIn (tgt := 148) E.1 E.2.1 dX2_handOver_108 (by decide) (by decide) rfl (by decide) ?_
        have q0 := p034 (by omega)
        refine lv_aload_n E.1 E.2.1 dX2_handOver_148 rfl (lv_at hl 4 rfl) ?_
        refine lv_iload_n E.1 E.2.1 dX2_handOver_149 rfl (lv_at hl 2 rfl) ?_
        refine lv_iload E.1 E.2.1 dX2_handOver_150 (lv_at hl 0 rfl) ?_
        refine callVV E (c_X2_vote l G a (mTo t (mDrop p N)) d t (by omega) (by omega) (hFT) (by rw [eT0]; exact g5 (by omega))) mw_9_9 YX2_vote ⟨rfl, rfl⟩ ⟨Nat.le_of_ble_eq_true rfl, Nat.le_of_ble_eq_true rfl⟩ ⟨Nat.zero_le _, Nat.zero_le _⟩ hw 0 rfl rfl rfl hl rfl (Nat.le_of_ble_eq_true rfl) dX2_handOver_152 (fun H locs hw => ?_)
        refine lv_goto (tgt := 233) E.1 E.2.1 dX2_handOver_155 (by decide) ?_
        refine lv_aload_n E.1 E.2.1 dX2_handOver_233 rfl (lv_at hl 4 rfl) ?_
        refine gX2_5 E hw mw_2_10 dX2_handOver_234 ?_
        refine gX1_0 E hw mw_8_19 dX2_handOver_237 ?_
        refine lv_eqi (y := nI ((mAsk d t (mTo t (mDrop p N))) 6)) (rfl) ?_
        exact rI E hr hlk (HB.eq hw (by rw [mDlv, ek, ed, ef, et, if_neg c69, if_neg (by omega), mGetBy, if_pos (by omega)])) (by rw [mDlv, ek, ed, ef, et, if_neg c69, if_neg (by omega), mGetBy, if_pos (by omega)]) dX2_handOver_240
      by_cases z108_1 : k = 1
      · refine lv_eqi (y := nI 1) (by rw [z108_1]) ?_
        refine lv_tableIn (tgt := 158) E.1 E.2.1 dX2_handOver_108 (by decide) (by decide) rfl (by decide) ?_
        have q0 := p125 (by omega)
        refine lv_aload_n E.1 E.2.1 dX2_handOver_158 rfl (lv_at hl 4 rfl) ?_
        refine lv_iload_n E.1 E.2.1 dX2_handOver_159 rfl (lv_at hl 2 rfl) ?_
        refine lv_iload E.1 E.2.1 dX2_handOver_160 (lv_at hl 1 rfl) ?_
        refine callVV E (c_X2_takeYes l G a (mTo t (mDrop p N)) d f (by omega) (by omega) (hFT)) mw_10_1 YX2_takeYes ⟨rfl, rfl⟩ ⟨Nat.le_of_ble_eq_true rfl, Nat.le_of_ble_eq_true rfl⟩ ⟨Nat.zero_le _, Nat.zero_le _⟩ hw 0 rfl rfl rfl hl rfl (Nat.le_of_ble_eq_true rfl) dX2_handOver_162 (fun H locs hw => ?_)
        refine lv_goto (tgt := 233) E.1 E.2.1 dX2_handOver_165 (by decide) ?_
        refine lv_aload_n E.1 E.2.1 dX2_handOver_233 rfl (lv_at hl 4 rfl) ?_
        refine gX2_5 E hw mw_2_10 dX2_handOver_234 ?_
        refine gX1_0 E hw mw_8_19 dX2_handOver_237 ?_
        refine lv_eqi (y := nI ((mYes d f (mTo t (mDrop p N))) 6)) (rfl) ?_
        exact rI E hr hlk (HB.eq hw (by rw [mDlv, ek, ed, ef, et, if_neg c69, if_pos (by omega), mGet, if_pos (by omega)])) (by rw [mDlv, ek, ed, ef, et, if_neg c69, if_pos (by omega), mGet, if_pos (by omega)]) dX2_handOver_240
      by_cases z108_2 : k = 2
      · refine lv_eqi (y := nI 2) (by rw [z108_2]) ?_
        refine lv_tableIn (tgt := 168) E.1 E.2.1 dX2_handOver_108 (by decide) (by decide) rfl (by decide) ?_
        have q0 := p125 (by omega)
        refine lv_aload_n E.1 E.2.1 dX2_handOver_168 rfl (lv_at hl 4 rfl) ?_
        refine lv_iload_n E.1 E.2.1 dX2_handOver_169 rfl (lv_at hl 2 rfl) ?_
        refine lv_iload E.1 E.2.1 dX2_handOver_170 (lv_at hl 1 rfl) ?_
        refine callVV E (c_X2_takeNo l G a (mTo t (mDrop p N)) d f (by omega) (by omega) (hFT)) mw_10_9 YX2_takeNo ⟨rfl, rfl⟩ ⟨Nat.le_of_ble_eq_true rfl, Nat.le_of_ble_eq_true rfl⟩ ⟨Nat.zero_le _, Nat.zero_le _⟩ hw 0 rfl rfl rfl hl rfl (Nat.le_of_ble_eq_true rfl) dX2_handOver_172 (fun H locs hw => ?_)
        refine lv_goto (tgt := 233) E.1 E.2.1 dX2_handOver_175 (by decide) ?_
        refine lv_aload_n E.1 E.2.1 dX2_handOver_233 rfl (lv_at hl 4 rfl) ?_
        refine gX2_5 E hw mw_2_10 dX2_handOver_234 ?_
        refine gX1_0 E hw mw_8_19 dX2_handOver_237 ?_
        refine lv_eqi (y := nI ((mNo d f (mTo t (mDrop p N))) 6)) (rfl) ?_
        exact rI E hr hlk (HB.eq hw (by rw [mDlv, ek, ed, ef, et, if_neg c69, if_pos (by omega), mGet, if_neg (by omega), if_pos (by omega)])) (by rw [mDlv, ek, ed, ef, et, if_neg c69, if_pos (by omega), mGet, if_neg (by omega), if_pos (by omega)]) dX2_handOver_240
      by_cases z108_3 : k = 3
      · refine lv_eqi (y := nI 3) (by rw [z108_3]) ?_
        refine lv_tableIn (tgt := 178) E.1 E.2.1 dX2_handOver_108 (by decide) (by decide) rfl (by decide) ?_
        have q0 := p034 (by omega)
        refine lv_aload_n E.1 E.2.1 dX2_handOver_178 rfl (lv_at hl 4 rfl) ?_
        refine lv_iload_n E.1 E.2.1 dX2_handOver_179 rfl (lv_at hl 2 rfl) ?_
        refine lv_iload E.1 E.2.1 dX2_handOver_180 (lv_at hl 0 rfl) ?_
        refine callVV E (c_X2_postFor l G a (mTo t (mDrop p N)) d t (by omega) (by omega) (hFT) (by rw [eT0]; exact g5 (by omega))) mw_10_13 YX2_postFor ⟨rfl, rfl⟩ ⟨Nat.le_of_ble_eq_true rfl, Nat.le_of_ble_eq_true rfl⟩ ⟨Nat.zero_le _, Nat.zero_le _⟩ hw 0 rfl rfl rfl hl rfl (Nat.le_of_ble_eq_true rfl) dX2_handOver_182 (fun H locs hw => ?_)
        refine lv_goto (tgt := 233) E.1 E.2.1 dX2_handOver_185 (by decide) ?_
        refine lv_aload_n E.1 E.2.1 dX2_handOver_233 rfl (lv_at hl 4 rfl) ?_
        refine gX2_5 E hw mw_2_10 dX2_handOver_234 ?_
        refine gX1_0 E hw mw_8_19 dX2_handOver_237 ?_
        refine lv_eqi (y := nI ((mPosts d t (mTo t (mDrop p N))) 6)) (rfl) ?_
        exact rI E hr hlk (HB.eq hw (by rw [mDlv, ek, ed, ef, et, if_neg c69, if_neg (by omega), mGetBy, if_neg (by omega), if_pos (by omega)])) (by rw [mDlv, ek, ed, ef, et, if_neg c69, if_neg (by omega), mGetBy, if_neg (by omega), if_pos (by omega)]) dX2_handOver_240
      by_cases z108_4 : k = 4
      · refine lv_eqi (y := nI 4) (by rw [z108_4]) ?_
        refine lv_tableIn (tgt := 188) E.1 E.2.1 dX2_handOver_108 (by decide) (by decide) rfl (by decide) ?_
        have q0 := p034 (by omega)
        refine lv_aload_n E.1 E.2.1 dX2_handOver_188 rfl (lv_at hl 4 rfl) ?_
        refine lv_iload_n E.1 E.2.1 dX2_handOver_189 rfl (lv_at hl 2 rfl) ?_
        refine lv_iload E.1 E.2.1 dX2_handOver_190 (lv_at hl 0 rfl) ?_
        refine callVV E (c_X2_tearFor l G a (mTo t (mDrop p N)) d t (by omega) (by omega) (hFT) (by rw [eT0]; exact g5 (by omega))) mw_10_17 YX2_tearFor ⟨rfl, rfl⟩ ⟨Nat.le_of_ble_eq_true rfl, Nat.le_of_ble_eq_true rfl⟩ ⟨Nat.zero_le _, Nat.zero_le _⟩ hw 0 rfl rfl rfl hl rfl (Nat.le_of_ble_eq_true rfl) dX2_handOver_192 (fun H locs hw => ?_)
        refine lv_goto (tgt := 233) E.1 E.2.1 dX2_handOver_195 (by decide) ?_
        refine lv_aload_n E.1 E.2.1 dX2_handOver_233 rfl (lv_at hl 4 rfl) ?_
        refine gX2_5 E hw mw_2_10 dX2_handOver_234 ?_
        refine gX1_0 E hw mw_8_19 dX2_handOver_237 ?_
        refine lv_eqi (y := nI ((mTears d t (mTo t (mDrop p N))) 6)) (rfl) ?_
        exact rI E hr hlk (HB.eq hw (by rw [mDlv, ek, ed, ef, et, if_neg c69, if_neg (by omega), mGetBy, if_neg (by omega), if_neg (by omega), if_pos (by omega)])) (by rw [mDlv, ek, ed, ef, et, if_neg c69, if_neg (by omega), mGetBy, if_neg (by omega), if_neg (by omega), if_pos (by omega)]) dX2_handOver_240
      by_cases z108_5 : k = 5
      · refine lv_eqi (y := nI 5) (by rw [z108_5]) ?_
        refine lv_tableIn (tgt := 198) E.1 E.2.1 dX2_handOver_108 (by decide) (by decide) rfl (by decide) ?_
        have q0 := p125 (by omega)
        refine lv_aload_n E.1 E.2.1 dX2_handOver_198 rfl (lv_at hl 4 rfl) ?_
        refine lv_iload_n E.1 E.2.1 dX2_handOver_199 rfl (lv_at hl 2 rfl) ?_
        refine lv_iload E.1 E.2.1 dX2_handOver_200 (lv_at hl 1 rfl) ?_
        refine callVV E (c_X2_takeReceipt l G a (mTo t (mDrop p N)) d f (by omega) (by omega) (hFT)) mw_10_21 YX2_takeReceipt ⟨rfl, rfl⟩ ⟨Nat.le_of_ble_eq_true rfl, Nat.le_of_ble_eq_true rfl⟩ ⟨Nat.zero_le _, Nat.zero_le _⟩ hw 0 rfl rfl rfl hl rfl (Nat.le_of_ble_eq_true rfl) dX2_handOver_202 (fun H locs hw => ?_)
        refine lv_goto (tgt := 233) E.1 E.2.1 dX2_handOver_205 (by decide) ?_
        refine lv_aload_n E.1 E.2.1 dX2_handOver_233 rfl (lv_at hl 4 rfl) ?_
        refine gX2_5 E hw mw_2_10 dX2_handOver_234 ?_
        refine gX1_0 E hw mw_8_19 dX2_handOver_237 ?_
        refine lv_eqi (y := nI ((mGot d f (mTo t (mDrop p N))) 6)) (rfl) ?_
        exact rI E hr hlk (HB.eq hw (by rw [mDlv, ek, ed, ef, et, if_neg c69, if_pos (by omega), mGet, if_neg (by omega), if_neg (by omega), if_pos (by omega)])) (by rw [mDlv, ek, ed, ef, et, if_neg c69, if_pos (by omega), mGet, if_neg (by omega), if_neg (by omega), if_pos (by omega)]) dX2_handOver_240
      refine lv_tableOutN (tgt := 208) E.1 E.2.1 (by omega) dX2_handOver_108 (by omega) (by decide) ?_
      have q0 := p6 (by omega)
      refine lv_iload E.1 E.2.1 dX2_handOver_208 (lv_at hl 0 rfl) ?_
      refine lv_iconst (v := nI 4) E.1 E.2.1 dX2_handOver_210 (by decide) ?_
      refine lv_icmp_neN (tgt := 224) E.1 E.2.1 (by omega) (by omega) dX2_handOver_211 (by decide) (fun c211 => ?_) (fun c211 => ?_)
      · skip
        refine lv_aload_n E.1 E.2.1 dX2_handOver_224 rfl (lv_at hl 4 rfl) ?_
        refine lv_iload_n E.1 E.2.1 dX2_handOver_225 rfl (lv_at hl 2 rfl) ?_
        refine lv_iload E.1 E.2.1 dX2_handOver_226 (lv_at hl 0 rfl) ?_
        refine lv_iload E.1 E.2.1 dX2_handOver_228 (lv_at hl 1 rfl) ?_
        refine callVV E (c_X2_answerAsElder l G a (mTo t (mDrop p N)) d t f (by omega) (by omega) (by omega) (hFT) (by rw [eT0]; exact g5 (by omega))) mw_11_1 YX2_answerAsElder ⟨rfl, rfl⟩ ⟨Nat.le_of_ble_eq_true rfl, Nat.le_of_ble_eq_true rfl⟩ ⟨Nat.zero_le _, Nat.zero_le _⟩ hw 0 rfl rfl rfl hl rfl (Nat.le_of_ble_eq_true rfl) dX2_handOver_230 (fun H locs hw => ?_)
        refine lv_aload_n E.1 E.2.1 dX2_handOver_233 rfl (lv_at hl 4 rfl) ?_
        refine gX2_5 E hw mw_2_10 dX2_handOver_234 ?_
        refine gX1_0 E hw mw_8_19 dX2_handOver_237 ?_
        refine lv_eqi (y := nI ((mWhatC d t f (mTo t (mDrop p N))) 6)) (rfl) ?_
        exact rI E hr hlk (HB.eq hw (by rw [mDlv, ek, ed, ef, et, if_neg c69, if_neg (by omega), mGetBy, if_neg (by omega), if_neg (by omega), if_neg (by omega)])) (by rw [mDlv, ek, ed, ef, et, if_neg c69, if_neg (by omega), mGetBy, if_neg (by omega), if_neg (by omega), if_neg (by omega)]) dX2_handOver_240
      · skip
        refine lv_aload_n E.1 E.2.1 dX2_handOver_214 rfl (lv_at hl 4 rfl) ?_
        refine lv_iload_n E.1 E.2.1 dX2_handOver_215 rfl (lv_at hl 2 rfl) ?_
        refine lv_iload E.1 E.2.1 dX2_handOver_216 (lv_at hl 1 rfl) ?_
        refine callVV E (c_X2_answerAsBetween l G a (mTo t (mDrop p N)) d f (by omega) (hFT)) mw_10_5 YX2_answerAsBetween ⟨rfl, rfl⟩ ⟨Nat.le_of_ble_eq_true rfl, Nat.le_of_ble_eq_true rfl⟩ ⟨Nat.zero_le _, Nat.zero_le _⟩ hw 0 rfl rfl rfl hl rfl (Nat.le_of_ble_eq_true rfl) dX2_handOver_218 (fun H locs hw => ?_)
        refine lv_goto (tgt := 233) E.1 E.2.1 dX2_handOver_221 (by decide) ?_
        refine lv_aload_n E.1 E.2.1 dX2_handOver_233 rfl (lv_at hl 4 rfl) ?_
        refine gX2_5 E hw mw_2_10 dX2_handOver_234 ?_
        refine gX1_0 E hw mw_8_19 dX2_handOver_237 ?_
        refine lv_eqi (y := nI ((mAns d f (mTo t (mDrop p N))) 6)) (rfl) ?_
        exact rI E hr hlk (HB.eq hw (by rw [mDlv, ek, ed, ef, et, if_neg c69, if_pos (by omega), mGet, if_neg (by omega), if_neg (by omega), if_neg (by omega)])) (by rw [mDlv, ek, ed, ef, et, if_neg c69, if_pos (by omega), mGet, if_neg (by omega), if_neg (by omega), if_neg (by omega)]) dX2_handOver_240
    · skip
      refine lv_aload_n E.1 E.2.1 dX2_handOver_72 rfl (lv_at hl 4 rfl) ?_
      refine gX2_5 E hw mw_2_10 dX2_handOver_73 ?_
      refine lv_dup E.1 E.2.1 dX2_handOver_76 rfl ?_
      refine gX1_1 E hw mw_8_18 dX2_handOver_77 ?_
      refine lv_eqi (y := nI (N 8)) (congrArg nI (show (mDrop p (N)) 8 = N 8 from by rw [mDrop_n (by omega) (by omega)])) ?_
      refine lv_iconst (v := nI 1) E.1 E.2.1 dX2_handOver_80 (by decide) ?_
      refine lv_addN E.1 E.2.1 dX2_handOver_81 ?_
      refine pN2_5 E hw mw_8_18 dX2_handOver_82 (fun H locs hw => ?_)
      refine lv_aload_n E.1 E.2.1 dX2_handOver_85 rfl (lv_at hl 4 rfl) ?_
      refine gX2_5 E hw mw_2_10 dX2_handOver_86 ?_
      refine gX1_0 E hw mw_8_19 dX2_handOver_89 ?_
      refine lv_eqi (y := nI ((mDrop p (N)) 6)) (congrArg nI (show (un (mDrop p (N)) (8) (N 8 + 1)) 6 = (mDrop p (N)) 6 from by rw [un_n (by omega)])) ?_
      exact rI E hr hlk (HB.eq hw (by rw [mDlv, ek, ed, ef, et, if_pos c69])) (by rw [mDlv, ek, ed, ef, et, if_pos c69]; rw [un_n (by omega)]) dX2_handOver_92
  · exact absurd (in0 (by omega) (by omega)) c8
theorem YX2_isTimeAgain : YV yX2_isTimeAgain RX2 cX2_isTimeAgain 4 (some .boolean) 2 := ⟨mw_16_20, mw_16_21, mw_1_15, mw_16_22, by decide +kernel⟩
set_option maxHeartbeats 4000000 in
set_option maxRecDepth 100000 in
theorem c_X2_isTimeAgain (l : Launch) (G : GP) (a : Nat → Nat) (N : NS) (s e : Int32) (he : ¬ e ≤ 0) : MI l yX2_isTimeAgain (.code yX2_isTimeAgain cX2_isTimeAgain 4 (some .boolean) :: GW) ({ frames := 0, cells := 0, slots := 0, locals := 0 }) [.ref (a 0), .int (s), .int (e)] G ES (sN G a (N)) (sN G a (N)) (zb (isTm (nI (N 4) - s) e)) := by
  refine MI.of (own := RX2) rfl rfl (Nat.le_of_ble_eq_true rfl) ?_
  intro pP eE sS mM below meth cC ls AA E hw hl hr hlk hE
  replace hl : lv_has ls 4 [(0, .ref (a 0)), (1, .int (s)), (2, .int (e))] := hl
  refine lv_aload_n E.1 E.2.1 dX2_isTimeAgain_0 rfl (lv_at hl 0 rfl) ?_
  refine gX2_0 E hw mw_4_5 dX2_isTimeAgain_1 ?_
  refine lv_eqi (y := nI (N 4)) (rfl) ?_
  refine lv_iload_n E.1 E.2.1 dX2_isTimeAgain_4 rfl (lv_at hl 1 rfl) ?_
  refine lv_isub E.1 E.2.1 dX2_isTimeAgain_5 ?_
  refine lv_istore_n (lv' := [(3, .int (nI (N 4) - (s))), (0, .ref (a 0)), (1, .int (s)), (2, .int (e))]) E.1 E.2.1 dX2_isTimeAgain_6 rfl hl (by decide) rfl (fun ls hl => ?_)
  refine lv_iload_n E.1 E.2.1 dX2_isTimeAgain_7 rfl (lv_at hl 3 rfl) ?_
  refine lv_if_le (tgt := 25) E.1 E.2.1 dX2_isTimeAgain_8 (by decide) (fun c8 => ?_) (fun c8 => ?_)
  · exact absurd c8 he
  · skip
    refine lv_iload_n E.1 E.2.1 dX2_isTimeAgain_11 rfl (lv_at hl 0 rfl) ?_
    refine lv_if_le (tgt := 25) E.1 E.2.1 dX2_isTimeAgain_12 (by decide) (fun c12 => ?_) (fun c12 => ?_)
    · skip
      refine lv_iconst (v := nI 0) E.1 E.2.1 dX2_isTimeAgain_25 (by decide) ?_
      exact rZ E hr hlk (HB.eq hw (rfl)) ((zb_f (fun z => z.1 c12)).symm) rfl dX2_isTimeAgain_26
    · skip
      refine lv_iload_n E.1 E.2.1 dX2_isTimeAgain_15 rfl (lv_at hl 0 rfl) ?_
      refine lv_iload_n E.1 E.2.1 dX2_isTimeAgain_16 rfl (lv_at hl 3 rfl) ?_
      refine lv_irem E.1 E.2.1 dX2_isTimeAgain_17 (fun z => he (by rw [z]; decide)) ?_
      refine lv_if_ne (tgt := 25) E.1 E.2.1 dX2_isTimeAgain_18 (by decide) (fun c18 => ?_) (fun c18 => ?_)
      · skip
        refine lv_iconst (v := nI 0) E.1 E.2.1 dX2_isTimeAgain_25 (by decide) ?_
        exact rZ E hr hlk (HB.eq hw (rfl)) ((zb_f (fun z => c18 z.2)).symm) rfl dX2_isTimeAgain_26
      · skip
        refine lv_iconst (v := nI 1) E.1 E.2.1 dX2_isTimeAgain_21 (by decide) ?_
        refine lv_goto (tgt := 26) E.1 E.2.1 dX2_isTimeAgain_22 (by decide) ?_
        exact rZ E hr hlk (HB.eq hw (rfl)) ((zb_t ⟨c12, c18⟩).symm) rfl dX2_isTimeAgain_26
theorem YX2_pressOn : YV yX2_pressOn RX2 cX2_pressOn 2 none 1 := ⟨mw_16_16, mw_16_17, mw_1_15, mw_16_18, by decide +kernel⟩
set_option maxHeartbeats 4000000 in
set_option maxRecDepth 100000 in
theorem c_X2_pressOn (l : Launch) (G : GP) (a : Nat → Nat) (N : NS) (d : Nat) (hd : d < 8) (hF : FI N) : MV l yX2_pressOn (.code yX2_pressOn cX2_pressOn 2 none :: GW) ({ frames := 2, cells := 0, slots := 0, locals := 50 }) [.ref (a 0), .int (nI (d))] G ES (sN G a (N)) (sN G a (mPassB d N)) := by
  refine MV.of (own := RX2) rfl rfl (Nat.le_of_ble_eq_true rfl) ?_
  intro pP eE sS mM below meth cC ls AA E hw hl hr hlk hE
  replace hl : lv_has ls 2 [(0, .ref (a 0)), (1, .int (nI (d)))] := hl
  have h6 := hF.1
  have h1 := hF.f1 hd
  have h0 := hF.f0 hd
  have h4 := hF.f4 hd
  have h5x := hF.f5 hd
  have hs0 := hF.2.2.1 0 (by decide)
  have hs2 := hF.2.2.1 2 (by decide)
  refine lv_aload_n E.1 E.2.1 dX2_pressOn_0 rfl (lv_at hl 0 rfl) ?_
  refine gX2_7 E hw mw_2_12 dX2_pressOn_1 ?_
  refine lv_iload_n E.1 E.2.1 dX2_pressOn_4 rfl (lv_at hl 1 rfl) ?_
  refine lN2_5 E hw (v := N (30 + 14 * d + 1)) (by omega) (rfl) dX2_pressOn_5 ?_
  refine lv_if_neN (tgt := 52) E.1 E.2.1 (by omega) dX2_pressOn_6 (by decide) (fun c6 => ?_) (fun c6 => ?_)
  · skip
    refine lv_aload_n E.1 E.2.1 dX2_pressOn_52 rfl (lv_at hl 0 rfl) ?_
    refine gX2_7 E hw mw_2_12 dX2_pressOn_53 ?_
    refine lv_iload_n E.1 E.2.1 dX2_pressOn_56 rfl (lv_at hl 1 rfl) ?_
    refine lN2_5 E hw (v := N (30 + 14 * d + 1)) (by omega) (rfl) dX2_pressOn_57 ?_
    refine lv_iconst (v := nI 1) E.1 E.2.1 dX2_pressOn_58 (by decide) ?_
    refine lv_icmp_neN (tgt := 103) E.1 E.2.1 (by omega) (by omega) dX2_pressOn_59 (by decide) (fun c59 => ?_) (fun c59 => ?_)
    · skip
      exact rV E hr hlk (HB.eq hw (by rw [mPassB, if_neg (fun z => by omega), if_neg (fun z => by omega)])) dX2_pressOn_103
    · skip
      refine lv_aload_n E.1 E.2.1 dX2_pressOn_62 rfl (lv_at hl 0 rfl) ?_
      refine lv_aload_n E.1 E.2.1 dX2_pressOn_63 rfl (lv_at hl 0 rfl) ?_
      refine gX2_9 E hw mw_2_14 dX2_pressOn_64 ?_
      refine lv_iload_n E.1 E.2.1 dX2_pressOn_67 rfl (lv_at hl 1 rfl) ?_
      refine lN2_7 E hw (v := N (30 + 14 * d + 3)) (by omega) (rfl) dX2_pressOn_68 ?_
      refine lv_aload_n E.1 E.2.1 dX2_pressOn_69 rfl (lv_at hl 0 rfl) ?_
      refine gX2_4 E hw mw_2_6 dX2_pressOn_70 ?_
      refine lv_iconst (v := nI 2) E.1 E.2.1 dX2_pressOn_73 (by decide) ?_
      refine lN2_0 E hw (v := N 2) (by omega) (rfl) dX2_pressOn_74 ?_
      refine callVI E (c_X2_isTimeAgain l G a (N) (nI (N (30 + 14 * d + 3))) (nI (N 2)) (fun z => absurd ((nI_leI (b := 0) (by omega) (by decide)).mp z) (by omega))) mw_16_19 YX2_isTimeAgain ⟨rfl, rfl⟩ ⟨Nat.le_of_ble_eq_true rfl, Nat.le_of_ble_eq_true rfl⟩ ⟨Nat.zero_le _, Nat.zero_le _⟩ hw 0 rfl rfl rfl hl rfl (Nat.le_of_ble_eq_true rfl) dX2_pressOn_75 (fun H locs hw => ?_)
      refine lv_if_eqB (tgt := 103) E.1 E.2.1 dX2_pressOn_78 (by decide) (fun c78 => ?_) (fun c78 => ?_)
      · skip
        exact rV E hr hlk (HB.eq hw (by rw [mPassB, if_neg (fun z => by omega), if_neg (fun z => c78 z.2)])) dX2_pressOn_103
      · skip
        refine lv_aload_n E.1 E.2.1 dX2_pressOn_81 rfl (lv_at hl 0 rfl) ?_
        refine lv_iconst (v := nI 3) E.1 E.2.1 dX2_pressOn_82 (by decide) ?_
        refine lv_iload_n E.1 E.2.1 dX2_pressOn_83 rfl (lv_at hl 1 rfl) ?_
        refine lv_iconst (v := nI 4) E.1 E.2.1 dX2_pressOn_84 (by decide) ?_
        refine lv_aload_n E.1 E.2.1 dX2_pressOn_85 rfl (lv_at hl 0 rfl) ?_
        refine gX2_6 E hw mw_2_11 dX2_pressOn_86 ?_
        refine lv_iload_n E.1 E.2.1 dX2_pressOn_89 rfl (lv_at hl 1 rfl) ?_
        refine lN2_4 E hw (v := N (30 + 14 * d + 0)) (by omega) (rfl) dX2_pressOn_90 ?_
        refine lv_aload_n E.1 E.2.1 dX2_pressOn_91 rfl (lv_at hl 0 rfl) ?_
        refine gX2_11 E hw mw_2_16 dX2_pressOn_92 ?_
        refine lv_iload_n E.1 E.2.1 dX2_pressOn_95 rfl (lv_at hl 1 rfl) ?_
        refine lN2_9 E hw (v := N (30 + 14 * d + 5)) (by omega) (rfl) dX2_pressOn_96 ?_
        refine lv_iconst (v := -1) E.1 E.2.1 dX2_pressOn_97 (by decide) ?_
        refine lv_ixor E.1 E.2.1 dX2_pressOn_98 ?_
        refine lv_iand E.1 E.2.1 dX2_pressOn_99 (lv_eqi (y := nI (N (30 + 14 * d + 0) &&& (15 ^^^ (N (30 + 14 * d + 5))))) (andn_nI _ (by omega) _ (by omega)) ?_)
        refine callVV E (c_X2_sendToClerks l G a (N) 3 d 4 (N (30 + 14 * d + 0) &&& (15 ^^^ (N (30 + 14 * d + 5)))) (by omega) (and_lt16 (by omega)) (by omega)) mw_7_3 YX2_sendToClerks ⟨rfl, rfl⟩ ⟨Nat.le_of_ble_eq_true rfl, Nat.le_of_ble_eq_true rfl⟩ ⟨Nat.zero_le _, Nat.zero_le _⟩ hw 0 rfl rfl rfl hl rfl (Nat.le_of_ble_eq_true rfl) dX2_pressOn_100 (fun H locs hw => ?_)
        exact rV E hr hlk (HB.eq hw (by rw [mPassB, if_neg (fun z => by omega), if_pos ⟨c59, c78⟩])) dX2_pressOn_103
  · skip
    refine lv_aload_n E.1 E.2.1 dX2_pressOn_9 rfl (lv_at hl 0 rfl) ?_
    refine gX2_0 E hw mw_4_5 dX2_pressOn_10 ?_
    refine lv_eqi (y := nI (N 4)) (rfl) ?_
    refine lv_aload_n E.1 E.2.1 dX2_pressOn_13 rfl (lv_at hl 0 rfl) ?_
    refine gX2_8 E hw mw_2_13 dX2_pressOn_14 ?_
    refine lv_iload_n E.1 E.2.1 dX2_pressOn_17 rfl (lv_at hl 1 rfl) ?_
    refine lN2_6 E hw (v := N (30 + 14 * d + 2)) (by omega) (rfl) dX2_pressOn_18 ?_
    refine lv_isub E.1 E.2.1 dX2_pressOn_19 ?_
    refine lv_aload_n E.1 E.2.1 dX2_pressOn_20 rfl (lv_at hl 0 rfl) ?_
    refine gX2_4 E hw mw_2_6 dX2_pressOn_21 ?_
    refine lv_iconst (v := nI 0) E.1 E.2.1 dX2_pressOn_24 (by decide) ?_
    refine lN2_0 E hw (v := N 0) (by omega) (rfl) dX2_pressOn_25 ?_
    refine lv_icmp_lt (tgt := 103) E.1 E.2.1 dX2_pressOn_26 (by decide) (fun c26 => ?_) (fun c26 => ?_)
    · skip
      exact rV E hr hlk (HB.eq hw (by rw [mPassB, if_neg (fun z => z.2 c26), if_neg (fun z => by omega)])) dX2_pressOn_103
    · skip
      refine lv_aload_n E.1 E.2.1 dX2_pressOn_29 rfl (lv_at hl 0 rfl) ?_
      refine gX2_7 E hw mw_2_12 dX2_pressOn_30 ?_
      refine lv_iload_n E.1 E.2.1 dX2_pressOn_33 rfl (lv_at hl 1 rfl) ?_
      refine lv_iconst (v := nI 2) E.1 E.2.1 dX2_pressOn_34 (by decide) ?_
      refine sN2_5 E hw (by omega) dX2_pressOn_35 (fun H locs hw => ?_)
      refine lv_aload_n E.1 E.2.1 dX2_pressOn_36 rfl (lv_at hl 0 rfl) ?_
      refine lv_iconst (v := nI 4) E.1 E.2.1 dX2_pressOn_37 (by decide) ?_
      refine lv_iload_n E.1 E.2.1 dX2_pressOn_38 rfl (lv_at hl 1 rfl) ?_
      refine lv_iconst (v := nI 4) E.1 E.2.1 dX2_pressOn_39 (by decide) ?_
      refine lv_aload_n E.1 E.2.1 dX2_pressOn_40 rfl (lv_at hl 0 rfl) ?_
      refine gX2_6 E hw mw_2_11 dX2_pressOn_41 ?_
      refine lv_iload_n E.1 E.2.1 dX2_pressOn_44 rfl (lv_at hl 1 rfl) ?_
      refine lN2_4 E hw (v := N (30 + 14 * d + 0)) (by omega) (by rw [un_n (by omega)]) dX2_pressOn_45 ?_
      refine callVV E (c_X2_sendToClerks l G a (un (N) (30 + 14 * d + 1) (2)) 4 d 4 (N (30 + 14 * d + 0)) (by omega) (by omega) (by rw [un_n (by omega)]; exact h6)) mw_7_3 YX2_sendToClerks ⟨rfl, rfl⟩ ⟨Nat.le_of_ble_eq_true rfl, Nat.le_of_ble_eq_true rfl⟩ ⟨Nat.zero_le _, Nat.zero_le _⟩ hw 0 rfl rfl rfl hl rfl (Nat.le_of_ble_eq_true rfl) dX2_pressOn_46 (fun H locs hw => ?_)
      refine lv_goto (tgt := 103) E.1 E.2.1 dX2_pressOn_49 (by decide) ?_
      exact rV E hr hlk (HB.eq hw (by rw [mPassB, if_pos ⟨c6, c26⟩]; rfl)) dX2_pressOn_103
theorem YX2_askInDoubt : YV yX2_askInDoubt RX2 cX2_askInDoubt 3 none 1 := ⟨mw_17_0, mw_17_1, mw_1_15, mw_17_2, by decide +kernel⟩
set_option maxHeartbeats 4000000 in
set_option maxRecDepth 100000 in
theorem c_X2_askInDoubt (l : Launch) (G : GP) (a : Nat → Nat) (N : NS) (c : Nat) (hc : c < 4) (hF : FI N) : MV l yX2_askInDoubt (.code yX2_askInDoubt cX2_askInDoubt 3 none :: GW) ({ frames := 2, cells := 0, slots := 0, locals := 50 }) [.ref (a 0), .int (nI (c))] G ES (sN G a (N)) (sN G a (pcs c (N 5) N)) := by
  have hc4 := hc
  refine MV.of (own := RX2) rfl rfl (Nat.le_of_ble_eq_true rfl) ?_
  intro pP eE sS mM below meth cC ls AA E hw hl hr hlk hE
  replace hl : lv_has ls 3 [(0, .ref (a 0)), (1, .int (nI (c)))] := hl
  have h5 := hF.2.1
  have hs1 := hF.2.2.1 1 (by decide)
  have hs3 := hF.2.2.2.1
  refine lv_iconst (v := nI 0) E.1 E.2.1 dX2_askInDoubt_0 (by decide) ?_
  refine lv_istore_n (lv' := [(2, .int (nI (0))), (0, .ref (a 0)), (1, .int (nI (c)))]) E.1 E.2.1 dX2_askInDoubt_1 rfl hl (by decide) rfl (fun ls hl => ?_)
  refine W_ind1 (nL := 3) (P := fun d => d ≤ N 5) (μ := fun d => N 5 - d) (I := fun d => sN G a (pcs c d N)) (L := fun d => [(0, .ref (a 0)), (1, .int (nI (c))), (2, .int (nI (d)))]) ?_ (0) (Nat.zero_le _) (HB.eq hw (rfl)) (lvh_eq (l := [(0, .ref (a 0)), (1, .int (nI (c))), (2, .int (nI (0)))]) (lv_sub hl [1, 2, 0] rfl) (rfl))
  intro d hP ih H locs ls hw hl
  replace hw : HB G AA sS.heap (sN G a (pcs c d N)) H locs := hw
  replace hl : lv_has ls 3 [(0, .ref (a 0)), (1, .int (nI (c))), (2, .int (nI (d)))] := hl
  have hM := hF.pc8 hc4 d
  have h6 := hM.1
  refine lv_iload_n E.1 E.2.1 dX2_askInDoubt_2 rfl (lv_at hl 2 rfl) ?_
  refine lv_aload_n E.1 E.2.1 dX2_askInDoubt_3 rfl (lv_at hl 0 rfl) ?_
  refine gX2_3 E hw mw_4_8 dX2_askInDoubt_4 ?_
  refine lv_eqi (y := nI (N 5)) (congrArg nI (pcs_n hF hc4 (by decide) _)) ?_
  refine lv_icmp_geN (tgt := 91) E.1 E.2.1 (by omega) (by omega) dX2_askInDoubt_7 (by decide) (fun c7 => ?_) (fun c7 => ?_)
  · skip
    exact rV E hr hlk (HB.eq hw (by rw [show d = N 5 by omega])) dX2_askInDoubt_91
  · skip
    have hd : d < 8 := by omega
    have h0 := hM.f0 hd
    have hsM := hM.2.2.1 1 (by decide)
    have hsM3 := hM.2.2.2.1
    refine lv_aload_n E.1 E.2.1 dX2_askInDoubt_10 rfl (lv_at hl 0 rfl) ?_
    refine lv_iload_n E.1 E.2.1 dX2_askInDoubt_11 rfl (lv_at hl 2 rfl) ?_
    refine lv_iload_n E.1 E.2.1 dX2_askInDoubt_12 rfl (lv_at hl 1 rfl) ?_
    refine lv_iconst (v := nI 1) E.1 E.2.1 dX2_askInDoubt_13 (by decide) ?_
    refine callVI E (c_X2_stands_g l G a (pcs c d N) d c 1 (by omega) (by omega) (by omega)) mw_9_13 YX2_stands ⟨rfl, rfl⟩ ⟨Nat.le_of_ble_eq_true rfl, Nat.le_of_ble_eq_true rfl⟩ ⟨Nat.zero_le _, Nat.zero_le _⟩ hw 0 rfl rfl rfl hl rfl (Nat.le_of_ble_eq_true rfl) dX2_askInDoubt_14 (fun H locs hw => ?_)
    refine lv_if_eqB (tgt := 85) E.1 E.2.1 dX2_askInDoubt_17 (by decide) (fun c17 => ?_) (fun c17 => ?_)
    · skip
      refine lv_iincN (k := 2) (lv' := [(2, .int (nI (d + 1))), (0, .ref (a 0)), (1, .int (nI (c)))]) E.1 E.2.1 dX2_askInDoubt_85 hl rfl (by decide) rfl (fun ls hl => ?_)
      refine lv_goto (tgt := 2) E.1 E.2.1 dX2_askInDoubt_88 (by decide) ?_
      exact ih (d + 1) (by omega) (by omega) _ _ _ (HB.eq hw (by rw [pcs, mPassC, if_neg (fun z => c17 ⟨z.1, z.2.1⟩)])) (lvh_eq (l := [(0, .ref (a 0)), (1, .int (nI (c))), (2, .int (nI (d + 1)))]) (lv_sub hl [1, 2, 0] rfl) (rfl))
    · skip
      refine lv_aload_n E.1 E.2.1 dX2_askInDoubt_20 rfl (lv_at hl 0 rfl) ?_
      refine lv_aload_n E.1 E.2.1 dX2_askInDoubt_21 rfl (lv_at hl 0 rfl) ?_
      refine gX2_13 E hw mw_2_18 dX2_askInDoubt_22 ?_
      refine lv_iload_n E.1 E.2.1 dX2_askInDoubt_25 rfl (lv_at hl 2 rfl) ?_
      refine lv_iconst (v := nI 4) E.1 E.2.1 dX2_askInDoubt_26 (by decide) ?_
      refine lv_mulN E.1 E.2.1 dX2_askInDoubt_27 ?_
      refine lv_iload_n E.1 E.2.1 dX2_askInDoubt_28 rfl (lv_at hl 1 rfl) ?_
      refine lv_addN E.1 E.2.1 dX2_askInDoubt_29 ?_
      refine lN2_11 E hw (v := (pcs c d N) (30 + 14 * d + (10 + c))) (by omega) ((congrArg _ (by omega : 30 + 14 * ((d * 4 + c) / 4) + (10 + (d * 4 + c) % 4) = 30 + 14 * d + (10 + c))).trans (rfl)) dX2_askInDoubt_30 ?_
      refine lv_aload_n E.1 E.2.1 dX2_askInDoubt_31 rfl (lv_at hl 0 rfl) ?_
      refine gX2_4 E hw mw_2_6 dX2_askInDoubt_32 ?_
      refine lv_iconst (v := nI 1) E.1 E.2.1 dX2_askInDoubt_35 (by decide) ?_
      refine lN2_0 E hw (v := (pcs c d N) 1) (by omega) (rfl) dX2_askInDoubt_36 ?_
      refine callVI E (c_X2_isTimeAgain l G a (pcs c d N) (nI ((pcs c d N) (30 + 14 * d + (10 + c)))) (nI ((pcs c d N) 1)) (fun z => absurd ((nI_leI (b := 0) (by omega) (by decide)).mp z) (by omega))) mw_16_19 YX2_isTimeAgain ⟨rfl, rfl⟩ ⟨Nat.le_of_ble_eq_true rfl, Nat.le_of_ble_eq_true rfl⟩ ⟨Nat.zero_le _, Nat.zero_le _⟩ hw 0 rfl rfl rfl hl rfl (Nat.le_of_ble_eq_true rfl) dX2_askInDoubt_37 (fun H locs hw => ?_)
      refine lv_if_eqB (tgt := 85) E.1 E.2.1 dX2_askInDoubt_40 (by decide) (fun c40 => ?_) (fun c40 => ?_)
      · skip
        refine lv_iincN (k := 2) (lv' := [(2, .int (nI (d + 1))), (0, .ref (a 0)), (1, .int (nI (c)))]) E.1 E.2.1 dX2_askInDoubt_85 hl rfl (by decide) rfl (fun ls hl => ?_)
        refine lv_goto (tgt := 2) E.1 E.2.1 dX2_askInDoubt_88 (by decide) ?_
        exact ih (d + 1) (by omega) (by omega) _ _ _ (HB.eq hw (by rw [pcs, mPassC, if_neg (fun z => c40 z.2.2)])) (lvh_eq (l := [(0, .ref (a 0)), (1, .int (nI (c))), (2, .int (nI (d + 1)))]) (lv_sub hl [1, 2, 0] rfl) (rfl))
      · skip
        refine lv_aload_n E.1 E.2.1 dX2_askInDoubt_43 rfl (lv_at hl 0 rfl) ?_
        refine gX2_5 E hw mw_2_10 dX2_askInDoubt_44 ?_
        refine lv_bipush (v := nI 6) E.1 E.2.1 dX2_askInDoubt_47 (by decide) ?_
        refine lv_iload_n E.1 E.2.1 dX2_askInDoubt_49 rfl (lv_at hl 2 rfl) ?_
        refine lv_iload_n E.1 E.2.1 dX2_askInDoubt_50 rfl (lv_at hl 1 rfl) ?_
        refine lv_iconst (v := nI 4) E.1 E.2.1 dX2_askInDoubt_51 (by decide) ?_
        refine callVV E (c_X1_send l G a (pcs c d N) 6 d c 4 (by omega) (h6)) mw_7_7 YX1_send ⟨rfl, rfl⟩ ⟨Nat.le_of_ble_eq_true rfl, Nat.le_of_ble_eq_true rfl⟩ ⟨Nat.zero_le _, Nat.zero_le _⟩ hw 2 rfl rfl rfl hl rfl (Nat.le_of_ble_eq_true rfl) dX2_askInDoubt_52 (fun H locs hw => ?_)
        refine lv_aload_n E.1 E.2.1 dX2_askInDoubt_55 rfl (lv_at hl 0 rfl) ?_
        refine gX2_4 E hw mw_2_6 dX2_askInDoubt_56 ?_
        refine lv_iconst (v := nI 3) E.1 E.2.1 dX2_askInDoubt_59 (by decide) ?_
        refine lN2_0 E hw (v := pcs c d N 3) (by omega) (mSend_n (by omega) h6 (by omega) (by omega) (by omega)) dX2_askInDoubt_60 ?_
        refine lv_iconst (v := nI 1) E.1 E.2.1 dX2_askInDoubt_61 (by decide) ?_
        refine lv_icmp_neN (tgt := 85) E.1 E.2.1 (by omega) (by omega) dX2_askInDoubt_62 (by decide) (fun c62 => ?_) (fun c62 => ?_)
        · skip
          refine lv_iincN (k := 2) (lv' := [(2, .int (nI (d + 1))), (0, .ref (a 0)), (1, .int (nI (c)))]) E.1 E.2.1 dX2_askInDoubt_85 hl rfl (by decide) rfl (fun ls hl => ?_)
          refine lv_goto (tgt := 2) E.1 E.2.1 dX2_askInDoubt_88 (by decide) ?_
          exact ih (d + 1) (by omega) (by omega) _ _ _ (HB.eq hw (by rw [pcs, mPassC, if_pos ⟨c17.1, c17.2, c40⟩, if_neg c62, sa_0])) (lvh_eq (l := [(0, .ref (a 0)), (1, .int (nI (c))), (2, .int (nI (d + 1)))]) (lv_sub hl [1, 2, 0] rfl) (rfl))
        · skip
          refine lv_aload_n E.1 E.2.1 dX2_askInDoubt_65 rfl (lv_at hl 0 rfl) ?_
          refine lv_bipush (v := nI 6) E.1 E.2.1 dX2_askInDoubt_66 (by decide) ?_
          refine lv_iload_n E.1 E.2.1 dX2_askInDoubt_68 rfl (lv_at hl 2 rfl) ?_
          refine lv_iload_n E.1 E.2.1 dX2_askInDoubt_69 rfl (lv_at hl 1 rfl) ?_
          refine lv_aload_n E.1 E.2.1 dX2_askInDoubt_70 rfl (lv_at hl 0 rfl) ?_
          refine gX2_6 E hw mw_2_11 dX2_askInDoubt_71 ?_
          refine lv_iload_n E.1 E.2.1 dX2_askInDoubt_74 rfl (lv_at hl 2 rfl) ?_
          refine lN2_4 E hw (v := pcs c d N (30 + 14 * d + 0)) (by omega) (mSend_n (by omega) h6 (by omega) (by omega) (by omega)) dX2_askInDoubt_75 ?_
          refine lv_iconst (v := nI 1) E.1 E.2.1 dX2_askInDoubt_76 (by decide) ?_
          refine lv_iload_n E.1 E.2.1 dX2_askInDoubt_77 rfl (lv_at hl 1 rfl) ?_
          refine lv_ishl E.1 E.2.1 dX2_askInDoubt_78 (lv_eqi (y := nI (2 ^ c)) (shl_1 _ (by omega)) ?_)
          refine lv_iconst (v := -1) E.1 E.2.1 dX2_askInDoubt_79 (by decide) ?_
          refine lv_ixor E.1 E.2.1 dX2_askInDoubt_80 ?_
          refine lv_iand E.1 E.2.1 dX2_askInDoubt_81 (lv_eqi (y := nI (pcs c d N (30 + 14 * d + 0) &&& (15 ^^^ 2 ^ c))) (andn_nI _ (by omega) _ (pow_lt16 _ (by omega))) ?_)
          refine callVV E (c_X2_sendToClerks l G a (mSend 6 d c 4 (pcs c d N)) 6 d c (pcs c d N (30 + 14 * d + 0) &&& (15 ^^^ 2 ^ c)) (by omega) (and_lt16 (by omega)) (mSend_6 (by omega) h6)) mw_7_3 YX2_sendToClerks ⟨rfl, rfl⟩ ⟨Nat.le_of_ble_eq_true rfl, Nat.le_of_ble_eq_true rfl⟩ ⟨Nat.zero_le _, Nat.zero_le _⟩ hw 0 rfl rfl rfl hl rfl (Nat.le_of_ble_eq_true rfl) dX2_askInDoubt_82 (fun H locs hw => ?_)
          refine lv_iincN (k := 2) (lv' := [(2, .int (nI (d + 1))), (0, .ref (a 0)), (1, .int (nI (c)))]) E.1 E.2.1 dX2_askInDoubt_85 hl rfl (by decide) rfl (fun ls hl => ?_)
          refine lv_goto (tgt := 2) E.1 E.2.1 dX2_askInDoubt_88 (by decide) ?_
          exact ih (d + 1) (by omega) (by omega) _ _ _ (HB.eq hw (by rw [pcs, mPassC, if_pos ⟨c17.1, c17.2, c40⟩, if_pos c62])) (lvh_eq (l := [(0, .ref (a 0)), (1, .int (nI (c))), (2, .int (nI (d + 1)))]) (lv_sub hl [1, 2, 0] rfl) (rfl))
theorem YX4_sign : YV yX4_sign RX4 cX4_sign 1 (some .int) 0 := ⟨mw_29_9, mw_29_10, mw_1_5, mw_29_11, by decide +kernel⟩
set_option maxHeartbeats 4000000 in
set_option maxRecDepth 100000 in
theorem c_X4_sign (l : Launch) (G : GP) (a : Nat → Nat) (N : NS) (x : MX) (C : Nat → Nat) (n : Nat) (hPd : PadM x C n) (r p : Nat) (w : Int32) (O : Nat → Int32) (hp : p < 2 ^ 31) : MI l yX4_sign (.code yX4_sign cX4_sign 1 (some .int) :: GW) ({ frames := 0, cells := 0, slots := 0, locals := 0 }) [.ref (a 0)] G ES (mN G a (N) (tX (nI (r)) (nI (p)) (w) (O) x)) (mN G a (N) (tX (nI (r)) (nI (p)) (w) (O) x)) (nI (sg C n p)) := by
  refine MI.of (own := RX4) rfl rfl (Nat.le_of_ble_eq_true rfl) ?_
  intro pP eE sS mM below meth cC ls AA E hw hl hr hlk hE
  replace hl : lv_has ls 1 [(0, .ref (a 0))] := hl
  have hn6 := hPd.2.1
  have hsl := fun i => hPd.lt i
  refine lv_aload_n E.1 E.2.1 dX4_sign_0 rfl (lv_at hl 0 rfl) ?_
  refine gX4_11 E hw mw_29_1 dX4_sign_1 ?_
  refine lv_eqi (y := nI (p)) (rfl) ?_
  refine lv_aload_n E.1 E.2.1 dX4_sign_4 rfl (lv_at hl 0 rfl) ?_
  refine gX4_7 E hw mw_21_19 dX4_sign_5 ?_
  refine lv_eqi (y := nI (n)) (hPd.1) ?_
  refine lv_icmp_geN (tgt := 23) E.1 E.2.1 (by omega) (by omega) dX4_sign_8 (by decide) (fun c8 => ?_) (fun c8 => ?_)
  · skip
    refine lv_iconst (v := nI 0) E.1 E.2.1 dX4_sign_23 (by decide) ?_
    exact rI E hr hlk (HB.eq hw (rfl)) (by rw [sg, if_neg (by omega)]) dX4_sign_24
  · skip
    refine lv_aload_n E.1 E.2.1 dX4_sign_11 rfl (lv_at hl 0 rfl) ?_
    refine gX4_6 E hw mw_3_14 dX4_sign_12 ?_
    refine lv_aload_n E.1 E.2.1 dX4_sign_15 rfl (lv_at hl 0 rfl) ?_
    refine gX4_11 E hw mw_29_1 dX4_sign_16 ?_
    refine lv_eqi (y := nI (p)) (rfl) ?_
    refine lX4_5 E hw (by omega) dX4_sign_19 ?_
    refine lv_eqi (y := nI (C p)) (hPd.2.2.1 _ (by omega)) ?_
    refine lv_goto (tgt := 24) E.1 E.2.1 dX4_sign_20 (by decide) ?_
    exact rI E hr hlk (HB.eq hw (rfl)) (by rw [sg, if_pos (by omega)]) dX4_sign_24
theorem YX4_one : YV yX4_one RX4 cX4_one 4 (some .int) 2 := ⟨mw_29_17, mw_29_18, mw_1_5, mw_29_19, by decide +kernel⟩
set_option maxHeartbeats 4000000 in
set_option maxRecDepth 100000 in
theorem c_X4_one_ok (l : Launch) (G : GP) (a : Nat → Nat) (N : NS) (x : MX) (C : Nat → Nat) (n : Nat) (hPd : PadM x C n) (r p : Nat) (O : Nat → Int32) (lo hi : Nat) (hb : hi < 100 ∧ lo ≤ hi) (hp : p < 100) (h : lo + 48 ≤ sg C n p ∧ sg C n p ≤ hi + 48) : MI l yX4_one (.code yX4_one cX4_one 4 (some .int) :: GW) ({ frames := 1, cells := 0, slots := 0, locals := 22 }) [.ref (a 0), .int (nI (lo)), .int (nI (hi))] G ES (mN G a (N) (tX (nI (r)) (nI (p)) (nI (0)) (O) x)) (mN G a (N) (tX (nI (r)) (nI (p + 1)) (nI (0)) (O) x)) (nI (sg C n p - 48)) := by
  refine MI.of (own := RX4) rfl rfl (Nat.le_of_ble_eq_true rfl) ?_
  intro pP eE sS mM below meth cC ls AA E hw hl hr hlk hE
  replace hl : lv_has ls 4 [(0, .ref (a 0)), (1, .int (nI (lo))), (2, .int (nI (hi)))] := hl
  have hn6 := hPd.2.1
  have hsl := fun i => hPd.lt i
  refine lv_aload_n E.1 E.2.1 dX4_one_0 rfl (lv_at hl 0 rfl) ?_
  refine callVI E (c_X4_sign l G a (N) x C n hPd (r) (p) (nI (0)) (O) (by omega)) mw_29_8 YX4_sign ⟨rfl, rfl⟩ ⟨Nat.le_of_ble_eq_true rfl, Nat.le_of_ble_eq_true rfl⟩ ⟨Nat.zero_le _, Nat.zero_le _⟩ hw 0 rfl rfl rfl hl rfl (Nat.le_of_ble_eq_true rfl) dX4_one_1 (fun H locs hw => ?_)
  have q1 := hsl (p)
  refine lv_bipush (v := nI 48) E.1 E.2.1 dX4_one_4 (by decide) ?_
  refine lv_subN E.1 E.2.1 (by omega) dX4_one_6 ?_
  refine lv_istore_n (lv' := [(3, .int (nI (sg C n p - 48))), (0, .ref (a 0)), (1, .int (nI (lo))), (2, .int (nI (hi)))]) E.1 E.2.1 dX4_one_7 rfl hl (by decide) rfl (fun ls hl => ?_)
  refine lv_aload_n E.1 E.2.1 dX4_one_8 rfl (lv_at hl 1 rfl) ?_
  refine lv_aload_n E.1 E.2.1 dX4_one_9 rfl (lv_at hl 1 rfl) ?_
  refine gX4_12 E hw mw_29_3 dX4_one_10 ?_
  refine lv_eqi (y := nI (0)) (rfl) ?_
  refine lv_if_neN (tgt := 25) E.1 E.2.1 (by omega) dX4_one_13 (by decide) (fun c13 => ?_) (fun c13 => ?_)
  · exact absurd c13 (by decide)
  · skip
    refine lv_iload_n E.1 E.2.1 dX4_one_16 rfl (lv_at hl 0 rfl) ?_
    refine lv_iload_n E.1 E.2.1 dX4_one_17 rfl (lv_at hl 2 rfl) ?_
    refine lv_iload_n E.1 E.2.1 dX4_one_18 rfl (lv_at hl 3 rfl) ?_
    refine callSI E (c_X4_in l G (nI (sg C n p - 48)) (nI (lo)) (nI (hi))) mw_5_13 YX4_in ⟨rfl, rfl⟩ ⟨Nat.le_of_ble_eq_true rfl, Nat.le_of_ble_eq_true rfl⟩ ⟨Nat.zero_le _, Nat.zero_le _⟩ hw (w := []) (w' := []) (rr := mN G a (N) (tX (nI (r)) (nI (p)) (nI (0)) (O) x)) (big' := mN G a (N) (tX (nI (r)) (nI (p)) (nI (0)) (O) x)) (List.Perm.refl _) (List.Perm.refl _) rfl hl rfl (Nat.le_of_ble_eq_true rfl) dX4_one_19 (fun H locs hw => ?_)
    refine lv_if_neB (tgt := 29) E.1 E.2.1 dX4_one_22 (by decide) (fun c22 => ?_) (fun c22 => ?_)
    · skip
      refine lv_iconst (v := nI 0) E.1 E.2.1 dX4_one_29 (by decide) ?_
      refine pX4_12 E hw mw_29_3 rfl rfl dX4_one_30 (fun H locs hw => ?_)
      replace hw : HB G AA sS.heap (mN G a (N) (tX (nI (r)) (nI (p)) (nI (0)) (O) x)) H locs := HB.eq hw (by rw [tX_5])
      refine lv_aload_n E.1 E.2.1 dX4_one_33 rfl (lv_at hl 1 rfl) ?_
      refine lv_dup E.1 E.2.1 dX4_one_34 rfl ?_
      refine gX4_11 E hw mw_29_1 dX4_one_35 ?_
      refine lv_eqi (y := nI (p)) (rfl) ?_
      refine lv_aload_n E.1 E.2.1 dX4_one_38 rfl (lv_at hl 1 rfl) ?_
      refine gX4_12 E hw mw_29_3 dX4_one_39 ?_
      refine lv_eqi (y := nI (0)) (rfl) ?_
      refine lv_if_eqN (tgt := 49) E.1 E.2.1 (by omega) dX4_one_42 (by decide) (fun c42 => ?_) (fun c42 => ?_)
      · skip
        refine lv_iconst (v := nI 1) E.1 E.2.1 dX4_one_49 (by decide) ?_
        refine lv_addN E.1 E.2.1 dX4_one_50 ?_
        refine pX4_11 E hw mw_29_1 dX4_one_51 (fun H locs hw => ?_)
        replace hw : HB G AA sS.heap (mN G a (N) (tX (nI (r)) (nI (p + 1)) (nI (0)) (O) x)) H locs := HB.eq hw (by rw [tX_4])
        refine lv_iload_n E.1 E.2.1 dX4_one_54 rfl (lv_at hl 0 rfl) ?_
        exact rI E hr hlk (HB.eq hw (rfl)) (rfl) dX4_one_55
      · exact absurd c42 (by decide)
    · exact absurd (inN (by omega) (by omega) (by omega)) c22
set_option maxHeartbeats 4000000 in
set_option maxRecDepth 100000 in
theorem c_X4_one_bad (l : Launch) (G : GP) (a : Nat → Nat) (N : NS) (x : MX) (C : Nat → Nat) (n : Nat) (hPd : PadM x C n) (r p : Nat) (O : Nat → Int32) (lo hi : Nat) (hb : hi < 100 ∧ lo ≤ hi) (hp : p < 100) (h : ¬ (lo + 48 ≤ sg C n p ∧ sg C n p ≤ hi + 48)) : MI l yX4_one (.code yX4_one cX4_one 4 (some .int) :: GW) ({ frames := 1, cells := 0, slots := 0, locals := 22 }) [.ref (a 0), .int (nI (lo)), .int (nI (hi))] G ES (mN G a (N) (tX (nI (r)) (nI (p)) (nI (0)) (O) x)) (mN G a (N) (tX (nI (r)) (nI (p)) (nI (1)) (O) x)) (nI (sg C n p) - nI 48) := by
  refine MI.of (own := RX4) rfl rfl (Nat.le_of_ble_eq_true rfl) ?_
  intro pP eE sS mM below meth cC ls AA E hw hl hr hlk hE
  replace hl : lv_has ls 4 [(0, .ref (a 0)), (1, .int (nI (lo))), (2, .int (nI (hi)))] := hl
  have hn6 := hPd.2.1
  have hsl := fun i => hPd.lt i
  refine lv_aload_n E.1 E.2.1 dX4_one_0 rfl (lv_at hl 0 rfl) ?_
  refine callVI E (c_X4_sign l G a (N) x C n hPd (r) (p) (nI (0)) (O) (by omega)) mw_29_8 YX4_sign ⟨rfl, rfl⟩ ⟨Nat.le_of_ble_eq_true rfl, Nat.le_of_ble_eq_true rfl⟩ ⟨Nat.zero_le _, Nat.zero_le _⟩ hw 0 rfl rfl rfl hl rfl (Nat.le_of_ble_eq_true rfl) dX4_one_1 (fun H locs hw => ?_)
  have q1 := hsl (p)
  refine lv_bipush (v := nI 48) E.1 E.2.1 dX4_one_4 (by decide) ?_
  refine lv_isub E.1 E.2.1 dX4_one_6 ?_
  refine lv_istore_n (lv' := [(3, .int (nI (sg C n p) - nI (48))), (0, .ref (a 0)), (1, .int (nI (lo))), (2, .int (nI (hi)))]) E.1 E.2.1 dX4_one_7 rfl hl (by decide) rfl (fun ls hl => ?_)
  refine lv_aload_n E.1 E.2.1 dX4_one_8 rfl (lv_at hl 1 rfl) ?_
  refine lv_aload_n E.1 E.2.1 dX4_one_9 rfl (lv_at hl 1 rfl) ?_
  refine gX4_12 E hw mw_29_3 dX4_one_10 ?_
  refine lv_eqi (y := nI (0)) (rfl) ?_
  refine lv_if_neN (tgt := 25) E.1 E.2.1 (by omega) dX4_one_13 (by decide) (fun c13 => ?_) (fun c13 => ?_)
  · exact absurd c13 (by decide)
  · skip
    refine lv_iload_n E.1 E.2.1 dX4_one_16 rfl (lv_at hl 0 rfl) ?_
    refine lv_iload_n E.1 E.2.1 dX4_one_17 rfl (lv_at hl 2 rfl) ?_
    refine lv_iload_n E.1 E.2.1 dX4_one_18 rfl (lv_at hl 3 rfl) ?_
    refine callSI E (c_X4_in l G (nI (sg C n p) - nI (48)) (nI (lo)) (nI (hi))) mw_5_13 YX4_in ⟨rfl, rfl⟩ ⟨Nat.le_of_ble_eq_true rfl, Nat.le_of_ble_eq_true rfl⟩ ⟨Nat.zero_le _, Nat.zero_le _⟩ hw (w := []) (w' := []) (rr := mN G a (N) (tX (nI (r)) (nI (p)) (nI (0)) (O) x)) (big' := mN G a (N) (tX (nI (r)) (nI (p)) (nI (0)) (O) x)) (List.Perm.refl _) (List.Perm.refl _) rfl hl rfl (Nat.le_of_ble_eq_true rfl) dX4_one_19 (fun H locs hw => ?_)
    refine lv_if_neB (tgt := 29) E.1 E.2.1 dX4_one_22 (by decide) (fun c22 => ?_) (fun c22 => ?_)
    · exact absurd ((sub48_in (by omega) (by omega) (by omega)).mp c22) h
    · skip
      refine lv_iconst (v := nI 1) E.1 E.2.1 dX4_one_25 (by decide) ?_
      refine lv_goto (tgt := 30) E.1 E.2.1 dX4_one_26 (by decide) ?_
      refine pX4_12 E hw mw_29_3 rfl rfl dX4_one_30 (fun H locs hw => ?_)
      replace hw : HB G AA sS.heap (mN G a (N) (tX (nI (r)) (nI (p)) (nI (1)) (O) x)) H locs := HB.eq hw (by rw [tX_5])
      refine lv_aload_n E.1 E.2.1 dX4_one_33 rfl (lv_at hl 1 rfl) ?_
      refine lv_dup E.1 E.2.1 dX4_one_34 rfl ?_
      refine gX4_11 E hw mw_29_1 dX4_one_35 ?_
      refine lv_eqi (y := nI (p)) (rfl) ?_
      refine lv_aload_n E.1 E.2.1 dX4_one_38 rfl (lv_at hl 1 rfl) ?_
      refine gX4_12 E hw mw_29_3 dX4_one_39 ?_
      refine lv_eqi (y := nI (1)) (rfl) ?_
      refine lv_if_eqN (tgt := 49) E.1 E.2.1 (by omega) dX4_one_42 (by decide) (fun c42 => ?_) (fun c42 => ?_)
      · exact absurd c42 (by decide)
      · skip
        refine lv_iconst (v := nI 0) E.1 E.2.1 dX4_one_45 (by decide) ?_
        refine lv_goto (tgt := 50) E.1 E.2.1 dX4_one_46 (by decide) ?_
        refine lv_addN E.1 E.2.1 dX4_one_50 ?_
        refine pX4_11 E hw mw_29_1 dX4_one_51 (fun H locs hw => ?_)
        replace hw : HB G AA sS.heap (mN G a (N) (tX (nI (r)) (nI (p + 0)) (nI (1)) (O) x)) H locs := HB.eq hw (by rw [tX_4])
        refine lv_iload_n E.1 E.2.1 dX4_one_54 rfl (lv_at hl 0 rfl) ?_
        exact rI E hr hlk (HB.eq hw (rfl)) (rfl) dX4_one_55
theorem YX4_number : YV yX4_number RX4 cX4_number 2 (some .int) 0 := ⟨mw_29_21, mw_29_22, mw_1_5, mw_29_23, by decide +kernel⟩
set_option maxHeartbeats 4000000 in
set_option maxRecDepth 100000 in
theorem c_X4_number_bad (l : Launch) (G : GP) (a : Nat → Nat) (N : NS) (x : MX) (C : Nat → Nat) (n : Nat) (hPd : PadM x C n) (r p : Nat) (O : Nat → Int32) (hp : p < 90) (h : ¬ (48 ≤ sg C n p ∧ sg C n p ≤ 57)) : MI l yX4_number (.code yX4_number cX4_number 2 (some .int) :: GW) ({ frames := 2, cells := 0, slots := 0, locals := 60 }) [.ref (a 0)] G ES (mN G a (N) (tX (nI (r)) (nI (p)) (nI (0)) (O) x)) (mN G a (N) (tX (nI (r)) (nI (p)) (nI (1)) (O) x)) (nI (sg C n p) - nI 48) := by
  refine MI.of (own := RX4) rfl rfl (Nat.le_of_ble_eq_true rfl) ?_
  intro pP eE sS mM below meth cC ls AA E hw hl hr hlk hE
  replace hl : lv_has ls 2 [(0, .ref (a 0))] := hl
  have hn6 := hPd.2.1
  have hsl := fun i => hPd.lt i
  refine lv_aload_n E.1 E.2.1 dX4_number_0 rfl (lv_at hl 0 rfl) ?_
  refine lv_iconst (v := nI 0) E.1 E.2.1 dX4_number_1 (by decide) ?_
  refine lv_bipush (v := nI 9) E.1 E.2.1 dX4_number_2 (by decide) ?_
  have q4 := hsl (p)
  refine callVI E (c_X4_one_bad l G a N x C n hPd (r) (p) (O) 0 9 (by omega) (by omega) (by omega)) mw_29_16 YX4_one ⟨rfl, rfl⟩ ⟨Nat.le_of_ble_eq_true rfl, Nat.le_of_ble_eq_true rfl⟩ ⟨Nat.zero_le _, Nat.zero_le _⟩ hw 0 rfl rfl rfl hl rfl (Nat.le_of_ble_eq_true rfl) dX4_number_4 (fun H locs hw => ?_)
  refine lv_istore_n (lv' := [(1, .int (nI (sg C n p) - nI 48)), (0, .ref (a 0))]) E.1 E.2.1 dX4_number_7 rfl hl (by decide) rfl (fun ls hl => ?_)
  refine lv_aload_n E.1 E.2.1 dX4_number_8 rfl (lv_at hl 1 rfl) ?_
  refine gX4_12 E hw mw_29_3 dX4_number_9 ?_
  refine lv_eqi (y := nI (1)) (rfl) ?_
  refine lv_if_neN (tgt := 76) E.1 E.2.1 (by omega) dX4_number_12 (by decide) (fun c12 => ?_) (fun c12 => ?_)
  · skip
    refine lv_iload_n E.1 E.2.1 dX4_number_76 rfl (lv_at hl 0 rfl) ?_
    exact rI E hr hlk (HB.eq hw (rfl)) (rfl) dX4_number_77
  · exact absurd c12 (by decide)
set_option maxHeartbeats 4000000 in
set_option maxRecDepth 100000 in
theorem c_X4_number_ok (l : Launch) (G : GP) (a : Nat → Nat) (N : NS) (x : MX) (C : Nat → Nat) (n : Nat) (hPd : PadM x C n) (r p : Nat) (O : Nat → Int32) (hp : p < 90) (h : 48 ≤ sg C n p ∧ sg C n p ≤ 57) : MI l yX4_number (.code yX4_number cX4_number 2 (some .int) :: GW) ({ frames := 2, cells := 0, slots := 0, locals := 60 }) [.ref (a 0)] G ES (mN G a (N) (tX (nI (r)) (nI (p)) (nI (0)) (O) x)) (mN G a (N) (tX (nI (r)) (nI (n2p C n (p + 1) (sg C n p - 48))) (nI (0)) (O) x)) (nI (n2v C n (p + 1) (sg C n p - 48))) := by
  refine MI.of (own := RX4) rfl rfl (Nat.le_of_ble_eq_true rfl) ?_
  intro pP eE sS mM below meth cC ls AA E hw hl hr hlk hE
  replace hl : lv_has ls 2 [(0, .ref (a 0))] := hl
  have hn6 := hPd.2.1
  have hsl := fun i => hPd.lt i
  refine lv_aload_n E.1 E.2.1 dX4_number_0 rfl (lv_at hl 0 rfl) ?_
  refine lv_iconst (v := nI 0) E.1 E.2.1 dX4_number_1 (by decide) ?_
  refine lv_bipush (v := nI 9) E.1 E.2.1 dX4_number_2 (by decide) ?_
  have q4 := hsl (p)
  refine callVI E (c_X4_one_ok l G a N x C n hPd (r) (p) (O) 0 9 (by omega) (by omega) (by omega)) mw_29_16 YX4_one ⟨rfl, rfl⟩ ⟨Nat.le_of_ble_eq_true rfl, Nat.le_of_ble_eq_true rfl⟩ ⟨Nat.zero_le _, Nat.zero_le _⟩ hw 0 rfl rfl rfl hl rfl (Nat.le_of_ble_eq_true rfl) dX4_number_4 (fun H locs hw => ?_)
  refine lv_istore_n (lv' := [(1, .int (nI (sg C n p - 48))), (0, .ref (a 0))]) E.1 E.2.1 dX4_number_7 rfl hl (by decide) rfl (fun ls hl => ?_)
  refine lv_aload_n E.1 E.2.1 dX4_number_8 rfl (lv_at hl 1 rfl) ?_
  refine gX4_12 E hw mw_29_3 dX4_number_9 ?_
  refine lv_eqi (y := nI (0)) (rfl) ?_
  refine lv_if_neN (tgt := 76) E.1 E.2.1 (by omega) dX4_number_12 (by decide) (fun c12 => ?_) (fun c12 => ?_)
  · exact absurd c12 (by decide)
  · skip
    refine lv_iload_n E.1 E.2.1 dX4_number_15 rfl (lv_at hl 0 rfl) ?_
    refine lv_if_leN (tgt := 76) E.1 E.2.1 (by omega) dX4_number_16 (by decide) (fun c16 => ?_) (fun c16 => ?_)
    · skip
      refine lv_iload_n E.1 E.2.1 dX4_number_76 rfl (lv_at hl 0 rfl) ?_
      exact rI E hr hlk (HB.eq hw (by rw [n2p, if_neg (by omega)])) (by rw [n2v, if_neg (by omega)]) dX4_number_77
    · skip
      refine lv_aload_n E.1 E.2.1 dX4_number_19 rfl (lv_at hl 1 rfl) ?_
      refine callVI E (c_X4_sign l G a (N) x C n hPd (r) (p + 1) (nI (0)) (O) (by omega)) mw_29_8 YX4_sign ⟨rfl, rfl⟩ ⟨Nat.le_of_ble_eq_true rfl, Nat.le_of_ble_eq_true rfl⟩ ⟨Nat.zero_le _, Nat.zero_le _⟩ hw 0 rfl rfl rfl hl rfl (Nat.le_of_ble_eq_true rfl) dX4_number_20 (fun H locs hw => ?_)
      have q20 := hsl (p + 1)
      refine lv_bipush (v := nI 48) E.1 E.2.1 dX4_number_23 (by decide) ?_
      refine lv_bipush (v := nI 57) E.1 E.2.1 dX4_number_25 (by decide) ?_
      refine callSI E (c_X4_in l G (nI (sg C n (p + 1))) (nI (48)) (nI (57))) mw_5_13 YX4_in ⟨rfl, rfl⟩ ⟨Nat.le_of_ble_eq_true rfl, Nat.le_of_ble_eq_true rfl⟩ ⟨Nat.zero_le _, Nat.zero_le _⟩ hw (w := []) (w' := []) (rr := mN G a (N) (tX (nI (r)) (nI (p + 1)) (nI (0)) (O) x)) (big' := mN G a (N) (tX (nI (r)) (nI (p + 1)) (nI (0)) (O) x)) (List.Perm.refl _) (List.Perm.refl _) rfl hl rfl (Nat.le_of_ble_eq_true rfl) dX4_number_27 (fun H locs hw => ?_)
      refine lv_if_eqB (tgt := 76) E.1 E.2.1 dX4_number_30 (by decide) (fun c30 => ?_) (fun c30 => ?_)
      · skip
        have d30 : ¬ (48 ≤ _ ∧ _ ≤ 57) := fun z => c30 ((nin (by omega) (by decide) (by decide)).mpr z)
        refine lv_iload_n E.1 E.2.1 dX4_number_76 rfl (lv_at hl 0 rfl) ?_
        exact rI E hr hlk (HB.eq hw (by rw [n2p, if_neg (by omega)])) (by rw [n2v, if_neg (by omega)]) dX4_number_77
      · skip
        have d30 := (nin (by omega) (by decide) (by decide)).mp c30
        refine lv_bipush (v := nI 10) E.1 E.2.1 dX4_number_33 (by decide) ?_
        refine lv_iload_n E.1 E.2.1 dX4_number_35 rfl (lv_at hl 0 rfl) ?_
        refine lv_mulN E.1 E.2.1 dX4_number_36 ?_
        refine lv_aload_n E.1 E.2.1 dX4_number_37 rfl (lv_at hl 1 rfl) ?_
        refine callVI E (c_X4_sign l G a (N) x C n hPd (r) (p + 1) (nI (0)) (O) (by omega)) mw_29_8 YX4_sign ⟨rfl, rfl⟩ ⟨Nat.le_of_ble_eq_true rfl, Nat.le_of_ble_eq_true rfl⟩ ⟨Nat.zero_le _, Nat.zero_le _⟩ hw 0 rfl rfl rfl hl rfl (Nat.le_of_ble_eq_true rfl) dX4_number_38 (fun H locs hw => ?_)
        have q38 := hsl (p + 1)
        refine lv_addN E.1 E.2.1 dX4_number_41 ?_
        refine lv_bipush (v := nI 48) E.1 E.2.1 dX4_number_42 (by decide) ?_
        refine lv_subN E.1 E.2.1 (by omega) dX4_number_44 ?_
        refine lv_bipush (v := nI 99) E.1 E.2.1 dX4_number_45 (by decide) ?_
        refine lv_icmp_gtN (tgt := 76) E.1 E.2.1 (by omega) (by omega) dX4_number_47 (by decide) (fun c47 => ?_) (fun c47 => ?_)
        · exfalso; omega
        · skip
          refine lv_bipush (v := nI 10) E.1 E.2.1 dX4_number_50 (by decide) ?_
          refine lv_iload_n E.1 E.2.1 dX4_number_52 rfl (lv_at hl 0 rfl) ?_
          refine lv_mulN E.1 E.2.1 dX4_number_53 ?_
          refine lv_aload_n E.1 E.2.1 dX4_number_54 rfl (lv_at hl 1 rfl) ?_
          refine callVI E (c_X4_sign l G a (N) x C n hPd (r) (p + 1) (nI (0)) (O) (by omega)) mw_29_8 YX4_sign ⟨rfl, rfl⟩ ⟨Nat.le_of_ble_eq_true rfl, Nat.le_of_ble_eq_true rfl⟩ ⟨Nat.zero_le _, Nat.zero_le _⟩ hw 0 rfl rfl rfl hl rfl (Nat.le_of_ble_eq_true rfl) dX4_number_55 (fun H locs hw => ?_)
          have q55 := hsl (p + 1)
          refine lv_addN E.1 E.2.1 dX4_number_58 ?_
          refine lv_bipush (v := nI 48) E.1 E.2.1 dX4_number_59 (by decide) ?_
          refine lv_subN E.1 E.2.1 (by omega) dX4_number_61 ?_
          refine lv_istore_n (lv' := [(1, .int (nI (10 * (sg C n p - 48) + (sg C n (p + 1)) - 48))), (0, .ref (a 0))]) E.1 E.2.1 dX4_number_62 rfl hl (by decide) rfl (fun ls hl => ?_)
          refine lv_aload_n E.1 E.2.1 dX4_number_63 rfl (lv_at hl 1 rfl) ?_
          refine lv_dup E.1 E.2.1 dX4_number_64 rfl ?_
          refine gX4_11 E hw mw_29_1 dX4_number_65 ?_
          refine lv_eqi (y := nI (p + 1)) (rfl) ?_
          refine lv_iconst (v := nI 1) E.1 E.2.1 dX4_number_68 (by decide) ?_
          refine lv_addN E.1 E.2.1 dX4_number_69 ?_
          refine pX4_11 E hw mw_29_1 dX4_number_70 (fun H locs hw => ?_)
          replace hw : HB G AA sS.heap (mN G a (N) (tX (nI (r)) (nI (p + 1 + 1)) (nI (0)) (O) x)) H locs := HB.eq hw (by rw [tX_4])
          refine lv_goto (tgt := 8) E.1 E.2.1 dX4_number_73 (by decide) ?_
          refine lv_aload_n E.1 E.2.1 dX4_number_8 rfl (lv_at hl 1 rfl) ?_
          refine gX4_12 E hw mw_29_3 dX4_number_9 ?_
          refine lv_eqi (y := nI (0)) (rfl) ?_
          refine lv_if_neN (tgt := 76) E.1 E.2.1 (by omega) dX4_number_12 (by decide) (fun c12 => ?_) (fun c12 => ?_)
          · exact absurd c12 (by decide)
          · skip
            refine lv_iload_n E.1 E.2.1 dX4_number_15 rfl (lv_at hl 0 rfl) ?_
            refine lv_if_leN (tgt := 76) E.1 E.2.1 (by omega) dX4_number_16 (by decide) (fun c16 => ?_) (fun c16 => ?_)
            · exfalso; omega
            · skip
              refine lv_aload_n E.1 E.2.1 dX4_number_19 rfl (lv_at hl 1 rfl) ?_
              refine callVI E (c_X4_sign l G a (N) x C n hPd (r) (p + 1 + 1) (nI (0)) (O) (by omega)) mw_29_8 YX4_sign ⟨rfl, rfl⟩ ⟨Nat.le_of_ble_eq_true rfl, Nat.le_of_ble_eq_true rfl⟩ ⟨Nat.zero_le _, Nat.zero_le _⟩ hw 0 rfl rfl rfl hl rfl (Nat.le_of_ble_eq_true rfl) dX4_number_20 (fun H locs hw => ?_)
              have q20 := hsl (p + 1 + 1)
              refine lv_bipush (v := nI 48) E.1 E.2.1 dX4_number_23 (by decide) ?_
              refine lv_bipush (v := nI 57) E.1 E.2.1 dX4_number_25 (by decide) ?_
              refine callSI E (c_X4_in l G (nI (sg C n (p + 1 + 1))) (nI (48)) (nI (57))) mw_5_13 YX4_in ⟨rfl, rfl⟩ ⟨Nat.le_of_ble_eq_true rfl, Nat.le_of_ble_eq_true rfl⟩ ⟨Nat.zero_le _, Nat.zero_le _⟩ hw (w := []) (w' := []) (rr := mN G a (N) (tX (nI (r)) (nI (p + 1 + 1)) (nI (0)) (O) x)) (big' := mN G a (N) (tX (nI (r)) (nI (p + 1 + 1)) (nI (0)) (O) x)) (List.Perm.refl _) (List.Perm.refl _) rfl hl rfl (Nat.le_of_ble_eq_true rfl) dX4_number_27 (fun H locs hw => ?_)
              refine lv_if_eqB (tgt := 76) E.1 E.2.1 dX4_number_30 (by decide) (fun c30 => ?_) (fun c30 => ?_)
              · skip
                have d30 : ¬ (48 ≤ _ ∧ _ ≤ 57) := fun z => c30 ((nin (by omega) (by decide) (by decide)).mpr z)
                refine lv_iload_n E.1 E.2.1 dX4_number_76 rfl (lv_at hl 0 rfl) ?_
                exact rI E hr hlk (HB.eq hw (by rw [n2p, if_pos (by omega)])) (by rw [n2v, if_pos (by omega)]) dX4_number_77
              · skip
                have d30 := (nin (by omega) (by decide) (by decide)).mp c30
                refine lv_bipush (v := nI 10) E.1 E.2.1 dX4_number_33 (by decide) ?_
                refine lv_iload_n E.1 E.2.1 dX4_number_35 rfl (lv_at hl 0 rfl) ?_
                refine lv_mulN E.1 E.2.1 dX4_number_36 ?_
                refine lv_aload_n E.1 E.2.1 dX4_number_37 rfl (lv_at hl 1 rfl) ?_
                refine callVI E (c_X4_sign l G a (N) x C n hPd (r) (p + 1 + 1) (nI (0)) (O) (by omega)) mw_29_8 YX4_sign ⟨rfl, rfl⟩ ⟨Nat.le_of_ble_eq_true rfl, Nat.le_of_ble_eq_true rfl⟩ ⟨Nat.zero_le _, Nat.zero_le _⟩ hw 0 rfl rfl rfl hl rfl (Nat.le_of_ble_eq_true rfl) dX4_number_38 (fun H locs hw => ?_)
                have q38 := hsl (p + 1 + 1)
                refine lv_addN E.1 E.2.1 dX4_number_41 ?_
                refine lv_bipush (v := nI 48) E.1 E.2.1 dX4_number_42 (by decide) ?_
                refine lv_subN E.1 E.2.1 (by omega) dX4_number_44 ?_
                refine lv_bipush (v := nI 99) E.1 E.2.1 dX4_number_45 (by decide) ?_
                refine lv_icmp_gtN (tgt := 76) E.1 E.2.1 (by omega) (by omega) dX4_number_47 (by decide) (fun c47 => ?_) (fun c47 => ?_)
                · skip
                  refine lv_iload_n E.1 E.2.1 dX4_number_76 rfl (lv_at hl 0 rfl) ?_
                  exact rI E hr hlk (HB.eq hw (by rw [n2p, if_pos (by omega)])) (by rw [n2v, if_pos (by omega)]) dX4_number_77
                · exfalso; omega

theorem YX4_clerks : YV yX4_clerks RX4 cX4_clerks 3 (some .int) 0 := ⟨mw_29_13, mw_29_14, mw_1_5, mw_29_15, by decide +kernel⟩
set_option maxHeartbeats 4000000 in
set_option maxRecDepth 100000 in
theorem c_X4_clerks_bad (l : Launch) (G : GP) (a : Nat → Nat) (N : NS) (x : MX) (C : Nat → Nat) (n : Nat) (hPd : PadM x C n) (r p : Nat) (O : Nat → Int32) (hp : p < 90) (h : ¬ (48 ≤ sg C n p ∧ sg C n p ≤ 51)) : MI l yX4_clerks (.code yX4_clerks cX4_clerks 3 (some .int) :: GW) ({ frames := 2, cells := 0, slots := 0, locals := 60 }) [.ref (a 0)] G ES (mN G a (N) (tX (nI (r)) (nI (p)) (nI (0)) (O) x)) (mN G a (N) (tX (nI (r)) (nI (p)) (nI (1)) (O) x)) (nI 0) := by
  refine MI.of (own := RX4) rfl rfl (Nat.le_of_ble_eq_true rfl) ?_
  intro pP eE sS mM below meth cC ls AA E hw hl hr hlk hE
  replace hl : lv_has ls 3 [(0, .ref (a 0))] := hl
  have hn6 := hPd.2.1
  have hsl := fun i => hPd.lt i
  refine lv_aload_n E.1 E.2.1 dX4_clerks_0 rfl (lv_at hl 0 rfl) ?_
  refine lv_iconst (v := nI 0) E.1 E.2.1 dX4_clerks_1 (by decide) ?_
  refine lv_iconst (v := nI 3) E.1 E.2.1 dX4_clerks_2 (by decide) ?_
  have q3 := hsl (p)
  refine callVI E (c_X4_one_bad l G a N x C n hPd (r) (p) (O) 0 3 (by omega) (by omega) (by omega)) mw_29_16 YX4_one ⟨rfl, rfl⟩ ⟨Nat.le_of_ble_eq_true rfl, Nat.le_of_ble_eq_true rfl⟩ ⟨Nat.zero_le _, Nat.zero_le _⟩ hw 0 rfl rfl rfl hl rfl (Nat.le_of_ble_eq_true rfl) dX4_clerks_3 (fun H locs hw => ?_)
  refine lv_istore_n (lv' := [(1, .int (nI (sg C n p) - nI 48)), (0, .ref (a 0))]) E.1 E.2.1 dX4_clerks_6 rfl hl (by decide) rfl (fun ls hl => ?_)
  refine lv_aload_n E.1 E.2.1 dX4_clerks_7 rfl (lv_at hl 1 rfl) ?_
  refine gX4_12 E hw mw_29_3 dX4_clerks_8 ?_
  refine lv_eqi (y := nI (1)) (rfl) ?_
  refine lv_if_eqN (tgt := 18) E.1 E.2.1 (by omega) dX4_clerks_11 (by decide) (fun c11 => ?_) (fun c11 => ?_)
  · exact absurd c11 (by decide)
  · skip
    refine lv_iconst (v := nI 0) E.1 E.2.1 dX4_clerks_14 (by decide) ?_
    refine lv_goto (tgt := 21) E.1 E.2.1 dX4_clerks_15 (by decide) ?_
    refine lv_istore_n (lv' := [(2, .int (nI (0))), (1, .int (nI (sg C n p) - nI 48)), (0, .ref (a 0))]) E.1 E.2.1 dX4_clerks_21 rfl hl (by decide) rfl (fun ls hl => ?_)
    refine lv_aload_n E.1 E.2.1 dX4_clerks_22 rfl (lv_at hl 2 rfl) ?_
    refine gX4_12 E hw mw_29_3 dX4_clerks_23 ?_
    refine lv_eqi (y := nI (1)) (rfl) ?_
    refine lv_if_neN (tgt := 73) E.1 E.2.1 (by omega) dX4_clerks_26 (by decide) (fun c26 => ?_) (fun c26 => ?_)
    · skip
      refine lv_iload_n E.1 E.2.1 dX4_clerks_73 rfl (lv_at hl 0 rfl) ?_
      exact rI E hr hlk (HB.eq hw (rfl)) (rfl) dX4_clerks_74
    · exact absurd c26 (by decide)
set_option maxHeartbeats 4000000 in
set_option maxRecDepth 100000 in
theorem c_X4_clerks_ok (l : Launch) (G : GP) (a : Nat → Nat) (N : NS) (x : MX) (C : Nat → Nat) (n : Nat) (hPd : PadM x C n) (r p : Nat) (O : Nat → Int32) (hp : p < 90) (h : 48 ≤ sg C n p ∧ sg C n p ≤ 51) : MI l yX4_clerks (.code yX4_clerks cX4_clerks 3 (some .int) :: GW) ({ frames := 2, cells := 0, slots := 0, locals := 60 }) [.ref (a 0)] G ES (mN G a (N) (tX (nI (r)) (nI (p)) (nI (0)) (O) x)) (mN G a (N) (tX (nI (r)) (nI ((cmu C n 4 (p + 1) (sg C n p - 48) (2 ^ (sg C n p - 48))).1)) (nI (0)) (O) x)) (nI (cmu C n 4 (p + 1) (sg C n p - 48) (2 ^ (sg C n p - 48))).2) := by
  refine MI.of (own := RX4) rfl rfl (Nat.le_of_ble_eq_true rfl) ?_
  intro pP eE sS mM below meth cC ls AA E hw hl hr hlk hE
  replace hl : lv_has ls 3 [(0, .ref (a 0))] := hl
  have hn6 := hPd.2.1
  have hsl := fun i => hPd.lt i
  refine lv_aload_n E.1 E.2.1 dX4_clerks_0 rfl (lv_at hl 0 rfl) ?_
  refine lv_iconst (v := nI 0) E.1 E.2.1 dX4_clerks_1 (by decide) ?_
  refine lv_iconst (v := nI 3) E.1 E.2.1 dX4_clerks_2 (by decide) ?_
  have q3 := hsl (p)
  refine callVI E (c_X4_one_ok l G a N x C n hPd (r) (p) (O) 0 3 (by omega) (by omega) (by omega)) mw_29_16 YX4_one ⟨rfl, rfl⟩ ⟨Nat.le_of_ble_eq_true rfl, Nat.le_of_ble_eq_true rfl⟩ ⟨Nat.zero_le _, Nat.zero_le _⟩ hw 0 rfl rfl rfl hl rfl (Nat.le_of_ble_eq_true rfl) dX4_clerks_3 (fun H locs hw => ?_)
  refine lv_istore_n (lv' := [(1, .int (nI (sg C n p - 48))), (0, .ref (a 0))]) E.1 E.2.1 dX4_clerks_6 rfl hl (by decide) rfl (fun ls hl => ?_)
  refine lv_aload_n E.1 E.2.1 dX4_clerks_7 rfl (lv_at hl 1 rfl) ?_
  refine gX4_12 E hw mw_29_3 dX4_clerks_8 ?_
  refine lv_eqi (y := nI (0)) (rfl) ?_
  refine lv_if_eqN (tgt := 18) E.1 E.2.1 (by omega) dX4_clerks_11 (by decide) (fun c11 => ?_) (fun c11 => ?_)
  · skip
    refine lv_iconst (v := nI 1) E.1 E.2.1 dX4_clerks_18 (by decide) ?_
    refine lv_iload_n E.1 E.2.1 dX4_clerks_19 rfl (lv_at hl 0 rfl) ?_
    refine lv_ishl E.1 E.2.1 dX4_clerks_20 (lv_eqi (y := nI (2 ^ (sg C n p - 48))) (shl_1 _ (by omega)) ?_)
    refine lv_istore_n (lv' := [(2, .int (nI (2 ^ (sg C n p - 48)))), (1, .int (nI (sg C n p - 48))), (0, .ref (a 0))]) E.1 E.2.1 dX4_clerks_21 rfl hl (by decide) rfl (fun ls hl => ?_)
    refine W_ind4 (nL := 3) (P := fun f q k S => cmu C n f q k S = cmu C n 4 (p + 1) (sg C n p - 48) (2 ^ (sg C n p - 48)) ∧ k < 4 ∧ 4 ≤ f + k ∧ q + f < 100) (μ := fun f q k S => f) (I := fun f q k S => mN G a (N) (tX (nI (r)) (nI (q)) (nI (0)) (O) x)) (L := fun f q k S => [(0, .ref (a 0)), (1, .int (nI (k))), (2, .int (nI (S)))]) ?_ (4) (p + 1) (sg C n p - 48) (2 ^ (sg C n p - 48)) (⟨rfl, by omega, by omega, by omega⟩) (HB.eq hw (rfl)) (lvh_eq (l := [(0, .ref (a 0)), (1, .int (nI (sg C n p - 48))), (2, .int (nI (2 ^ (sg C n p - 48))))]) (lv_sub hl [2, 1, 0] rfl) (rfl))
    intro f q k S hP ih H locs ls hw hl
    replace hw : HB G AA sS.heap (mN G a (N) (tX (nI (r)) (nI (q)) (nI (0)) (O) x)) H locs := hw
    replace hl : lv_has ls 3 [(0, .ref (a 0)), (1, .int (nI (k))), (2, .int (nI (S)))] := hl
    obtain ⟨hP1, hP2, hP3, hP4⟩ := hP
    have qs := hsl q
    refine lv_aload_n E.1 E.2.1 dX4_clerks_22 rfl (lv_at hl 0 rfl) ?_
    refine gX4_12 E hw mw_29_3 dX4_clerks_23 ?_
    refine lv_eqi (y := nI (0)) (rfl) ?_
    refine lv_if_neN (tgt := 73) E.1 E.2.1 (by omega) dX4_clerks_26 (by decide) (fun c26 => ?_) (fun c26 => ?_)
    · exact absurd c26 (by decide)
    · skip
      refine lv_aload_n E.1 E.2.1 dX4_clerks_29 rfl (lv_at hl 0 rfl) ?_
      refine callVI E (c_X4_sign l G a (N) x C n hPd (r) (q) (nI (0)) (O) (by omega)) mw_29_8 YX4_sign ⟨rfl, rfl⟩ ⟨Nat.le_of_ble_eq_true rfl, Nat.le_of_ble_eq_true rfl⟩ ⟨Nat.zero_le _, Nat.zero_le _⟩ hw 0 rfl rfl rfl hl rfl (Nat.le_of_ble_eq_true rfl) dX4_clerks_30 (fun H locs hw => ?_)
      have q30 := hsl (q)
      refine lv_bipush (v := nI 48) E.1 E.2.1 dX4_clerks_33 (by decide) ?_
      refine lv_isub E.1 E.2.1 dX4_clerks_35 ?_
      refine lv_iload_n E.1 E.2.1 dX4_clerks_36 rfl (lv_at hl 1 rfl) ?_
      refine lv_iconst (v := nI 1) E.1 E.2.1 dX4_clerks_37 (by decide) ?_
      refine lv_addN E.1 E.2.1 dX4_clerks_38 ?_
      refine lv_iconst (v := nI 3) E.1 E.2.1 dX4_clerks_39 (by decide) ?_
      refine callSI E (c_X4_in l G (nI (sg C n q) - nI (48)) (nI (k + 1)) (nI (3))) mw_5_13 YX4_in ⟨rfl, rfl⟩ ⟨Nat.le_of_ble_eq_true rfl, Nat.le_of_ble_eq_true rfl⟩ ⟨Nat.zero_le _, Nat.zero_le _⟩ hw (w := []) (w' := []) (rr := mN G a (N) (tX (nI (r)) (nI (q)) (nI (0)) (O) x)) (big' := mN G a (N) (tX (nI (r)) (nI (q)) (nI (0)) (O) x)) (List.Perm.refl _) (List.Perm.refl _) rfl hl rfl (Nat.le_of_ble_eq_true rfl) dX4_clerks_40 (fun H locs hw => ?_)
      refine lv_if_eqB (tgt := 73) E.1 E.2.1 dX4_clerks_43 (by decide) (fun c43 => ?_) (fun c43 => ?_)
      · skip
        have d43 : ¬ (k + 1 + 48 ≤ sg C n q ∧ sg C n q ≤ 3 + 48) := fun z => c43 ((sub48_in (by omega) (by omega) (by omega)).mpr z)
        have hPe : cmu C n f q k S = (q, S) := by cases f with | zero => rfl | succ f2 => exact if_neg d43
        rw [hPe] at hP1
        refine lv_iload_n E.1 E.2.1 dX4_clerks_73 rfl (lv_at hl 2 rfl) ?_
        exact rI E hr hlk (HB.eq hw (by rw [← hP1])) (by rw [← hP1]) dX4_clerks_74
      · skip
        have d43 : k + 1 + 48 ≤ sg C n q ∧ sg C n q ≤ 3 + 48 := (sub48_in (by omega) (by omega) (by omega)).mp c43
        have hf0 : 0 < f := by omega
        refine lv_aload_n E.1 E.2.1 dX4_clerks_46 rfl (lv_at hl 0 rfl) ?_
        refine callVI E (c_X4_sign l G a (N) x C n hPd (r) (q) (nI (0)) (O) (by omega)) mw_29_8 YX4_sign ⟨rfl, rfl⟩ ⟨Nat.le_of_ble_eq_true rfl, Nat.le_of_ble_eq_true rfl⟩ ⟨Nat.zero_le _, Nat.zero_le _⟩ hw 0 rfl rfl rfl hl rfl (Nat.le_of_ble_eq_true rfl) dX4_clerks_47 (fun H locs hw => ?_)
        have q47 := hsl (q)
        refine lv_bipush (v := nI 48) E.1 E.2.1 dX4_clerks_50 (by decide) ?_
        refine lv_subN E.1 E.2.1 (by omega) dX4_clerks_52 ?_
        refine lv_istore_n (lv' := [(1, .int (nI (sg C n q - 48))), (0, .ref (a 0)), (2, .int (nI (S)))]) E.1 E.2.1 dX4_clerks_53 rfl hl (by decide) rfl (fun ls hl => ?_)
        refine lv_iload_n E.1 E.2.1 dX4_clerks_54 rfl (lv_at hl 2 rfl) ?_
        refine lv_iconst (v := nI 1) E.1 E.2.1 dX4_clerks_55 (by decide) ?_
        refine lv_iload_n E.1 E.2.1 dX4_clerks_56 rfl (lv_at hl 0 rfl) ?_
        refine lv_ishl E.1 E.2.1 dX4_clerks_57 (lv_eqi (y := nI (2 ^ (sg C n q - 48))) (shl_1 _ (by omega)) ?_)
        refine lv_ior E.1 E.2.1 dX4_clerks_58 (lv_eqi (y := nI (S ||| 2 ^ (sg C n q - 48))) (or_nI _ _) ?_)
        refine lv_istore_n (lv' := [(2, .int (nI (S ||| 2 ^ (sg C n q - 48)))), (1, .int (nI (sg C n q - 48))), (0, .ref (a 0))]) E.1 E.2.1 dX4_clerks_59 rfl hl (by decide) rfl (fun ls hl => ?_)
        refine lv_aload_n E.1 E.2.1 dX4_clerks_60 rfl (lv_at hl 2 rfl) ?_
        refine lv_dup E.1 E.2.1 dX4_clerks_61 rfl ?_
        refine gX4_11 E hw mw_29_1 dX4_clerks_62 ?_
        refine lv_eqi (y := nI (q)) (rfl) ?_
        refine lv_iconst (v := nI 1) E.1 E.2.1 dX4_clerks_65 (by decide) ?_
        refine lv_addN E.1 E.2.1 dX4_clerks_66 ?_
        refine pX4_11 E hw mw_29_1 dX4_clerks_67 (fun H locs hw => ?_)
        replace hw : HB G AA sS.heap (mN G a (N) (tX (nI (r)) (nI (q + 1)) (nI (0)) (O) x)) H locs := HB.eq hw (by rw [tX_4])
        refine lv_goto (tgt := 22) E.1 E.2.1 dX4_clerks_70 (by decide) ?_
        exact ih (f - 1) (q + 1) (sg C n q - 48) (S ||| 2 ^ (sg C n q - 48)) (⟨by rw [← hP1]; obtain ⟨f2, rfl⟩ : ∃ f2, f = f2 + 1 := ⟨f - 1, by omega⟩; exact (if_pos d43).symm, by omega, by omega, by omega⟩) (by omega) _ _ _ (HB.eq hw (rfl)) (lvh_eq (l := [(0, .ref (a 0)), (1, .int (nI (sg C n q - 48))), (2, .int (nI (S ||| 2 ^ (sg C n q - 48))))]) (lv_sub hl [2, 1, 0] rfl) (rfl))
  · exact absurd c11 (by decide)
theorem YX4_plus : YV yX4_plus RX4 cX4_plus 2 (some .int) 0 := ⟨mw_30_1, mw_30_2, mw_1_5, mw_30_3, by decide +kernel⟩
set_option maxHeartbeats 4000000 in
set_option maxRecDepth 100000 in
theorem c_X4_plus_y (l : Launch) (G : GP) (a : Nat → Nat) (N : NS) (x : MX) (C : Nat → Nat) (n : Nat) (hPd : PadM x C n) (r p : Nat) (O : Nat → Int32) (hp : p < 90) (h : sg C n p = 43) : MI l yX4_plus (.code yX4_plus cX4_plus 2 (some .int) :: GW) ({ frames := 2, cells := 0, slots := 0, locals := 60 }) [.ref (a 0)] G ES (mN G a (N) (tX (nI (r)) (nI (p)) (nI (0)) (O) x)) (mN G a (N) (tX (nI (r)) (nI (p + 1)) (nI (0)) (O) x)) (nI 1) := by
  refine MI.of (own := RX4) rfl rfl (Nat.le_of_ble_eq_true rfl) ?_
  intro pP eE sS mM below meth cC ls AA E hw hl hr hlk hE
  replace hl : lv_has ls 2 [(0, .ref (a 0))] := hl
  have hn6 := hPd.2.1
  have hsl := fun i => hPd.lt i
  refine lv_aload_n E.1 E.2.1 dX4_plus_0 rfl (lv_at hl 0 rfl) ?_
  refine callVI E (c_X4_sign l G a (N) x C n hPd (r) (p) (nI (0)) (O) (by omega)) mw_29_8 YX4_sign ⟨rfl, rfl⟩ ⟨Nat.le_of_ble_eq_true rfl, Nat.le_of_ble_eq_true rfl⟩ ⟨Nat.zero_le _, Nat.zero_le _⟩ hw 0 rfl rfl rfl hl rfl (Nat.le_of_ble_eq_true rfl) dX4_plus_1 (fun H locs hw => ?_)
  have q1 := hsl (p)
  refine lv_eqi (y := nI (43)) (by rw [h]) ?_
  refine lv_istore_n (lv' := [(1, .int (nI (43))), (0, .ref (a 0))]) E.1 E.2.1 dX4_plus_4 rfl hl (by decide) rfl (fun ls hl => ?_)
  refine lv_aload_n E.1 E.2.1 dX4_plus_5 rfl (lv_at hl 1 rfl) ?_
  refine lv_aload_n E.1 E.2.1 dX4_plus_6 rfl (lv_at hl 1 rfl) ?_
  refine gX4_12 E hw mw_29_3 dX4_plus_7 ?_
  refine lv_eqi (y := nI (0)) (rfl) ?_
  refine lv_if_neN (tgt := 25) E.1 E.2.1 (by omega) dX4_plus_10 (by decide) (fun c10 => ?_) (fun c10 => ?_)
  · exact absurd c10 (by decide)
  · skip
    refine lv_iload_n E.1 E.2.1 dX4_plus_13 rfl (lv_at hl 0 rfl) ?_
    refine lv_bipush (v := nI 43) E.1 E.2.1 dX4_plus_14 (by decide) ?_
    refine lv_icmp_eqN (tgt := 29) E.1 E.2.1 (by omega) (by omega) dX4_plus_16 (by decide) (fun c16 => ?_) (fun c16 => ?_)
    · skip
      refine lv_iconst (v := nI 0) E.1 E.2.1 dX4_plus_29 (by decide) ?_
      refine pX4_12 E hw mw_29_3 rfl rfl dX4_plus_30 (fun H locs hw => ?_)
      replace hw : HB G AA sS.heap (mN G a (N) (tX (nI (r)) (nI (p)) (nI (0)) (O) x)) H locs := HB.eq hw (by rw [tX_5])
      refine lv_aload_n E.1 E.2.1 dX4_plus_33 rfl (lv_at hl 1 rfl) ?_
      refine lv_dup E.1 E.2.1 dX4_plus_34 rfl ?_
      refine gX4_11 E hw mw_29_1 dX4_plus_35 ?_
      refine lv_eqi (y := nI (p)) (rfl) ?_
      refine lv_aload_n E.1 E.2.1 dX4_plus_38 rfl (lv_at hl 1 rfl) ?_
      refine gX4_12 E hw mw_29_3 dX4_plus_39 ?_
      refine lv_eqi (y := nI (0)) (rfl) ?_
      refine lv_if_eqN (tgt := 49) E.1 E.2.1 (by omega) dX4_plus_42 (by decide) (fun c42 => ?_) (fun c42 => ?_)
      · skip
        refine lv_iconst (v := nI 1) E.1 E.2.1 dX4_plus_49 (by decide) ?_
        refine lv_addN E.1 E.2.1 dX4_plus_50 ?_
        refine pX4_11 E hw mw_29_1 dX4_plus_51 (fun H locs hw => ?_)
        replace hw : HB G AA sS.heap (mN G a (N) (tX (nI (r)) (nI (p + 1)) (nI (0)) (O) x)) H locs := HB.eq hw (by rw [tX_4])
        refine lv_iload_n E.1 E.2.1 dX4_plus_54 rfl (lv_at hl 0 rfl) ?_
        refine lv_bipush (v := nI 43) E.1 E.2.1 dX4_plus_55 (by decide) ?_
        refine lv_icmp_neN (tgt := 64) E.1 E.2.1 (by omega) (by omega) dX4_plus_57 (by decide) (fun c57 => ?_) (fun c57 => ?_)
        · exact absurd c57 (by decide)
        · skip
          refine lv_iconst (v := nI 1) E.1 E.2.1 dX4_plus_60 (by decide) ?_
          refine lv_goto (tgt := 65) E.1 E.2.1 dX4_plus_61 (by decide) ?_
          exact rI E hr hlk (HB.eq hw (rfl)) (rfl) dX4_plus_65
      · exact absurd c42 (by decide)
    · exact absurd c16 (by decide)
set_option maxHeartbeats 4000000 in
set_option maxRecDepth 100000 in
theorem c_X4_plus_n (l : Launch) (G : GP) (a : Nat → Nat) (N : NS) (x : MX) (C : Nat → Nat) (n : Nat) (hPd : PadM x C n) (r p : Nat) (O : Nat → Int32) (hp : p < 90) (h : sg C n p = 45) : MI l yX4_plus (.code yX4_plus cX4_plus 2 (some .int) :: GW) ({ frames := 2, cells := 0, slots := 0, locals := 60 }) [.ref (a 0)] G ES (mN G a (N) (tX (nI (r)) (nI (p)) (nI (0)) (O) x)) (mN G a (N) (tX (nI (r)) (nI (p + 1)) (nI (0)) (O) x)) (nI 0) := by
  refine MI.of (own := RX4) rfl rfl (Nat.le_of_ble_eq_true rfl) ?_
  intro pP eE sS mM below meth cC ls AA E hw hl hr hlk hE
  replace hl : lv_has ls 2 [(0, .ref (a 0))] := hl
  have hn6 := hPd.2.1
  have hsl := fun i => hPd.lt i
  refine lv_aload_n E.1 E.2.1 dX4_plus_0 rfl (lv_at hl 0 rfl) ?_
  refine callVI E (c_X4_sign l G a (N) x C n hPd (r) (p) (nI (0)) (O) (by omega)) mw_29_8 YX4_sign ⟨rfl, rfl⟩ ⟨Nat.le_of_ble_eq_true rfl, Nat.le_of_ble_eq_true rfl⟩ ⟨Nat.zero_le _, Nat.zero_le _⟩ hw 0 rfl rfl rfl hl rfl (Nat.le_of_ble_eq_true rfl) dX4_plus_1 (fun H locs hw => ?_)
  have q1 := hsl (p)
  refine lv_eqi (y := nI (45)) (by rw [h]) ?_
  refine lv_istore_n (lv' := [(1, .int (nI (45))), (0, .ref (a 0))]) E.1 E.2.1 dX4_plus_4 rfl hl (by decide) rfl (fun ls hl => ?_)
  refine lv_aload_n E.1 E.2.1 dX4_plus_5 rfl (lv_at hl 1 rfl) ?_
  refine lv_aload_n E.1 E.2.1 dX4_plus_6 rfl (lv_at hl 1 rfl) ?_
  refine gX4_12 E hw mw_29_3 dX4_plus_7 ?_
  refine lv_eqi (y := nI (0)) (rfl) ?_
  refine lv_if_neN (tgt := 25) E.1 E.2.1 (by omega) dX4_plus_10 (by decide) (fun c10 => ?_) (fun c10 => ?_)
  · exact absurd c10 (by decide)
  · skip
    refine lv_iload_n E.1 E.2.1 dX4_plus_13 rfl (lv_at hl 0 rfl) ?_
    refine lv_bipush (v := nI 43) E.1 E.2.1 dX4_plus_14 (by decide) ?_
    refine lv_icmp_eqN (tgt := 29) E.1 E.2.1 (by omega) (by omega) dX4_plus_16 (by decide) (fun c16 => ?_) (fun c16 => ?_)
    · exact absurd c16 (by decide)
    · skip
      refine lv_iload_n E.1 E.2.1 dX4_plus_19 rfl (lv_at hl 0 rfl) ?_
      refine lv_bipush (v := nI 45) E.1 E.2.1 dX4_plus_20 (by decide) ?_
      refine lv_icmp_eqN (tgt := 29) E.1 E.2.1 (by omega) (by omega) dX4_plus_22 (by decide) (fun c22 => ?_) (fun c22 => ?_)
      · skip
        refine lv_iconst (v := nI 0) E.1 E.2.1 dX4_plus_29 (by decide) ?_
        refine pX4_12 E hw mw_29_3 rfl rfl dX4_plus_30 (fun H locs hw => ?_)
        replace hw : HB G AA sS.heap (mN G a (N) (tX (nI (r)) (nI (p)) (nI (0)) (O) x)) H locs := HB.eq hw (by rw [tX_5])
        refine lv_aload_n E.1 E.2.1 dX4_plus_33 rfl (lv_at hl 1 rfl) ?_
        refine lv_dup E.1 E.2.1 dX4_plus_34 rfl ?_
        refine gX4_11 E hw mw_29_1 dX4_plus_35 ?_
        refine lv_eqi (y := nI (p)) (rfl) ?_
        refine lv_aload_n E.1 E.2.1 dX4_plus_38 rfl (lv_at hl 1 rfl) ?_
        refine gX4_12 E hw mw_29_3 dX4_plus_39 ?_
        refine lv_eqi (y := nI (0)) (rfl) ?_
        refine lv_if_eqN (tgt := 49) E.1 E.2.1 (by omega) dX4_plus_42 (by decide) (fun c42 => ?_) (fun c42 => ?_)
        · skip
          refine lv_iconst (v := nI 1) E.1 E.2.1 dX4_plus_49 (by decide) ?_
          refine lv_addN E.1 E.2.1 dX4_plus_50 ?_
          refine pX4_11 E hw mw_29_1 dX4_plus_51 (fun H locs hw => ?_)
          replace hw : HB G AA sS.heap (mN G a (N) (tX (nI (r)) (nI (p + 1)) (nI (0)) (O) x)) H locs := HB.eq hw (by rw [tX_4])
          refine lv_iload_n E.1 E.2.1 dX4_plus_54 rfl (lv_at hl 0 rfl) ?_
          refine lv_bipush (v := nI 43) E.1 E.2.1 dX4_plus_55 (by decide) ?_
          refine lv_icmp_neN (tgt := 64) E.1 E.2.1 (by omega) (by omega) dX4_plus_57 (by decide) (fun c57 => ?_) (fun c57 => ?_)
          · skip
            refine lv_iconst (v := nI 0) E.1 E.2.1 dX4_plus_64 (by decide) ?_
            exact rI E hr hlk (HB.eq hw (rfl)) (rfl) dX4_plus_65
          · exact absurd c57 (by decide)
        · exact absurd c42 (by decide)
      · exact absurd c22 (by decide)
set_option maxHeartbeats 4000000 in
set_option maxRecDepth 100000 in
theorem c_X4_plus_bad (l : Launch) (G : GP) (a : Nat → Nat) (N : NS) (x : MX) (C : Nat → Nat) (n : Nat) (hPd : PadM x C n) (r p : Nat) (O : Nat → Int32) (hp : p < 90) (h : ¬ sg C n p = 43 ∧ ¬ sg C n p = 45) : MI l yX4_plus (.code yX4_plus cX4_plus 2 (some .int) :: GW) ({ frames := 2, cells := 0, slots := 0, locals := 60 }) [.ref (a 0)] G ES (mN G a (N) (tX (nI (r)) (nI (p)) (nI (0)) (O) x)) (mN G a (N) (tX (nI (r)) (nI (p)) (nI (1)) (O) x)) (nI 0) := by
  refine MI.of (own := RX4) rfl rfl (Nat.le_of_ble_eq_true rfl) ?_
  intro pP eE sS mM below meth cC ls AA E hw hl hr hlk hE
  replace hl : lv_has ls 2 [(0, .ref (a 0))] := hl
  have hn6 := hPd.2.1
  have hsl := fun i => hPd.lt i
  refine lv_aload_n E.1 E.2.1 dX4_plus_0 rfl (lv_at hl 0 rfl) ?_
  refine callVI E (c_X4_sign l G a (N) x C n hPd (r) (p) (nI (0)) (O) (by omega)) mw_29_8 YX4_sign ⟨rfl, rfl⟩ ⟨Nat.le_of_ble_eq_true rfl, Nat.le_of_ble_eq_true rfl⟩ ⟨Nat.zero_le _, Nat.zero_le _⟩ hw 0 rfl rfl rfl hl rfl (Nat.le_of_ble_eq_true rfl) dX4_plus_1 (fun H locs hw => ?_)
  have q1 := hsl (p)
  refine lv_istore_n (lv' := [(1, .int (nI (sg C n p))), (0, .ref (a 0))]) E.1 E.2.1 dX4_plus_4 rfl hl (by decide) rfl (fun ls hl => ?_)
  refine lv_aload_n E.1 E.2.1 dX4_plus_5 rfl (lv_at hl 1 rfl) ?_
  refine lv_aload_n E.1 E.2.1 dX4_plus_6 rfl (lv_at hl 1 rfl) ?_
  refine gX4_12 E hw mw_29_3 dX4_plus_7 ?_
  refine lv_eqi (y := nI (0)) (rfl) ?_
  refine lv_if_neN (tgt := 25) E.1 E.2.1 (by omega) dX4_plus_10 (by decide) (fun c10 => ?_) (fun c10 => ?_)
  · exact absurd c10 (by decide)
  · skip
    refine lv_iload_n E.1 E.2.1 dX4_plus_13 rfl (lv_at hl 0 rfl) ?_
    refine lv_bipush (v := nI 43) E.1 E.2.1 dX4_plus_14 (by decide) ?_
    refine lv_icmp_eqN (tgt := 29) E.1 E.2.1 (by omega) (by omega) dX4_plus_16 (by decide) (fun c16 => ?_) (fun c16 => ?_)
    · omega
    · skip
      refine lv_iload_n E.1 E.2.1 dX4_plus_19 rfl (lv_at hl 0 rfl) ?_
      refine lv_bipush (v := nI 45) E.1 E.2.1 dX4_plus_20 (by decide) ?_
      refine lv_icmp_eqN (tgt := 29) E.1 E.2.1 (by omega) (by omega) dX4_plus_22 (by decide) (fun c22 => ?_) (fun c22 => ?_)
      · omega
      · skip
        refine lv_iconst (v := nI 1) E.1 E.2.1 dX4_plus_25 (by decide) ?_
        refine lv_goto (tgt := 30) E.1 E.2.1 dX4_plus_26 (by decide) ?_
        refine pX4_12 E hw mw_29_3 rfl rfl dX4_plus_30 (fun H locs hw => ?_)
        replace hw : HB G AA sS.heap (mN G a (N) (tX (nI (r)) (nI (p)) (nI (1)) (O) x)) H locs := HB.eq hw (by rw [tX_5])
        refine lv_aload_n E.1 E.2.1 dX4_plus_33 rfl (lv_at hl 1 rfl) ?_
        refine lv_dup E.1 E.2.1 dX4_plus_34 rfl ?_
        refine gX4_11 E hw mw_29_1 dX4_plus_35 ?_
        refine lv_eqi (y := nI (p)) (rfl) ?_
        refine lv_aload_n E.1 E.2.1 dX4_plus_38 rfl (lv_at hl 1 rfl) ?_
        refine gX4_12 E hw mw_29_3 dX4_plus_39 ?_
        refine lv_eqi (y := nI (1)) (rfl) ?_
        refine lv_if_eqN (tgt := 49) E.1 E.2.1 (by omega) dX4_plus_42 (by decide) (fun c42 => ?_) (fun c42 => ?_)
        · exact absurd c42 (by decide)
        · skip
          refine lv_iconst (v := nI 0) E.1 E.2.1 dX4_plus_45 (by decide) ?_
          refine lv_goto (tgt := 50) E.1 E.2.1 dX4_plus_46 (by decide) ?_
          refine lv_addN E.1 E.2.1 dX4_plus_50 ?_
          refine pX4_11 E hw mw_29_1 dX4_plus_51 (fun H locs hw => ?_)
          replace hw : HB G AA sS.heap (mN G a (N) (tX (nI (r)) (nI (p + 0)) (nI (1)) (O) x)) H locs := HB.eq hw (by rw [tX_4])
          refine lv_iload_n E.1 E.2.1 dX4_plus_54 rfl (lv_at hl 0 rfl) ?_
          refine lv_bipush (v := nI 43) E.1 E.2.1 dX4_plus_55 (by decide) ?_
          refine lv_icmp_neN (tgt := 64) E.1 E.2.1 (by omega) (by omega) dX4_plus_57 (by decide) (fun c57 => ?_) (fun c57 => ?_)
          · skip
            refine lv_iconst (v := nI 0) E.1 E.2.1 dX4_plus_64 (by decide) ?_
            exact rI E hr hlk (HB.eq hw (rfl)) (rfl) dX4_plus_65
          · omega
theorem YX4_readOne : YV yX4_readOne RX4 cX4_readOne 3 none 0 := ⟨mw_29_5, mw_29_6, mw_1_5, mw_29_7, by decide +kernel⟩
set_option maxHeartbeats 4000000 in
set_option maxRecDepth 100000 in
theorem c_X4_readOne_n100 (l : Launch) (G : GP) (a : Nat → Nat) (N : NS) (x : MX) (C : Nat → Nat) (n : Nat) (hPd : PadM x C n) (r p : Nat) (O : Nat → Int32) (hr : r < 60) (hp : p < 80) (hlet : sg C n p = 100) (h : 48 ≤ sg C n (p + 1) ∧ sg C n (p + 1) ≤ 57) : MV l yX4_readOne (.code yX4_readOne cX4_readOne 3 none :: GW) ({ frames := 4, cells := 0, slots := 0, locals := 110 }) [.ref (a 0)] G ES (mN G a (N) (tX (nI (r)) (nI (p)) (nI (0)) (O) x)) (mN G a (N) (tX (nI (r + 1)) (nI (n2p C n (p + 1 + 1) (sg C n (p + 1) - 48))) (nI (0)) (upd (upd (O) (3 * r) (nI 100)) (3 * r + 1) (nI (n2v C n (p + 1 + 1) (sg C n (p + 1) - 48)))) x)) := by
  refine MV.of (own := RX4) rfl rfl (Nat.le_of_ble_eq_true rfl) ?_
  intro pP eE sS mM below meth cC ls AA E hw hl hr hlk hE
  replace hl : lv_has ls 3 [(0, .ref (a 0))] := hl
  have hn6 := hPd.2.1
  have hsl := fun i => hPd.lt i
  refine lv_iconst (v := nI 3) E.1 E.2.1 dX4_readOne_0 (by decide) ?_
  refine lv_aload_n E.1 E.2.1 dX4_readOne_1 rfl (lv_at hl 0 rfl) ?_
  refine gX4_10 E hw mw_29_2 dX4_readOne_2 ?_
  refine lv_eqi (y := nI (r)) (rfl) ?_
  refine lv_mulN E.1 E.2.1 dX4_readOne_5 ?_
  refine lv_istore_n (lv' := [(1, .int (nI (3 * r))), (0, .ref (a 0))]) E.1 E.2.1 dX4_readOne_6 rfl hl (by decide) rfl (fun ls hl => ?_)
  refine lv_aload_n E.1 E.2.1 dX4_readOne_7 rfl (lv_at hl 1 rfl) ?_
  refine callVI E (c_X4_sign l G a (N) x C n hPd (r) (p) (nI (0)) (O) (by omega)) mw_29_8 YX4_sign ⟨rfl, rfl⟩ ⟨Nat.le_of_ble_eq_true rfl, Nat.le_of_ble_eq_true rfl⟩ ⟨Nat.zero_le _, Nat.zero_le _⟩ hw 0 rfl rfl rfl hl rfl (Nat.le_of_ble_eq_true rfl) dX4_readOne_8 (fun H locs hw => ?_)
  have q8 := hsl (p)
  refine lv_eqi (y := nI (100)) (by rw [hlet]) ?_
  refine lv_istore_n (lv' := [(2, .int (nI (100))), (1, .int (nI (3 * r))), (0, .ref (a 0))]) E.1 E.2.1 dX4_readOne_11 rfl hl (by decide) rfl (fun ls hl => ?_)
  refine lv_aload_n E.1 E.2.1 dX4_readOne_12 rfl (lv_at hl 2 rfl) ?_
  refine gX4_9 E hw mw_3_15 dX4_readOne_13 ?_
  refine lv_iload_n E.1 E.2.1 dX4_readOne_16 rfl (lv_at hl 1 rfl) ?_
  refine lv_iload_n E.1 E.2.1 dX4_readOne_17 rfl (lv_at hl 0 rfl) ?_
  refine sX4_6 E hw (by omega) dX4_readOne_18 (fun H locs hw => ?_)
  replace hw : HB G AA sS.heap (mN G a (N) (tX (nI (r)) (nI (p)) (nI (0)) (upd (O) (3 * r) (nI (100))) x)) H locs := HB.eq hw (tX_Oe)
  refine lv_aload_n E.1 E.2.1 dX4_readOne_19 rfl (lv_at hl 2 rfl) ?_
  refine lv_dup E.1 E.2.1 dX4_readOne_20 rfl ?_
  refine gX4_11 E hw mw_29_1 dX4_readOne_21 ?_
  refine lv_eqi (y := nI (p)) (rfl) ?_
  refine lv_iconst (v := nI 1) E.1 E.2.1 dX4_readOne_24 (by decide) ?_
  refine lv_addN E.1 E.2.1 dX4_readOne_25 ?_
  refine pX4_11 E hw mw_29_1 dX4_readOne_26 (fun H locs hw => ?_)
  replace hw : HB G AA sS.heap (mN G a (N) (tX (nI (r)) (nI (p + 1)) (nI (0)) (upd (O) (3 * r) (nI (100))) x)) H locs := HB.eq hw (by rw [tX_4])
  refine lv_iload_n E.1 E.2.1 dX4_readOne_29 rfl (lv_at hl 0 rfl) ?_
  refine lv_tableIn (tgt := 143) E.1 E.2.1 dX4_readOne_30 (by decide) (by decide) rfl (by decide) ?_
  refine lv_aload_n E.1 E.2.1 dX4_readOne_143 rfl (lv_at hl 2 rfl) ?_
  refine gX4_9 E hw mw_3_15 dX4_readOne_144 ?_
  refine lv_iload_n E.1 E.2.1 dX4_readOne_147 rfl (lv_at hl 1 rfl) ?_
  refine lv_iconst (v := nI 1) E.1 E.2.1 dX4_readOne_148 (by decide) ?_
  refine lv_addN E.1 E.2.1 dX4_readOne_149 ?_
  refine lv_aload_n E.1 E.2.1 dX4_readOne_150 rfl (lv_at hl 2 rfl) ?_
  refine callVI E (c_X4_number_ok l G a N x C n hPd (r) (p + 1) (upd (O) (3 * r) (nI (100))) (by omega) (by omega)) mw_29_20 YX4_number ⟨rfl, rfl⟩ ⟨Nat.le_of_ble_eq_true rfl, Nat.le_of_ble_eq_true rfl⟩ ⟨Nat.zero_le _, Nat.zero_le _⟩ hw 0 rfl rfl rfl hl rfl (Nat.le_of_ble_eq_true rfl) dX4_readOne_151 (fun H locs hw => ?_)
  refine sX4_6 E hw (by omega) dX4_readOne_154 (fun H locs hw => ?_)
  replace hw : HB G AA sS.heap (mN G a (N) (tX (nI (r)) (nI (n2p C n (p + 1 + 1) (sg C n (p + 1) - 48))) (nI (0)) (upd (upd (O) (3 * r) (nI (100))) (3 * r + 1) (nI (n2v C n (p + 1 + 1) (sg C n (p + 1) - 48)))) x)) H locs := HB.eq hw (tX_Oe)
  refine lv_goto (tgt := 230) E.1 E.2.1 dX4_readOne_155 (by decide) ?_
  refine lv_aload_n E.1 E.2.1 dX4_readOne_230 rfl (lv_at hl 2 rfl) ?_
  refine lv_dup E.1 E.2.1 dX4_readOne_231 rfl ?_
  refine gX4_10 E hw mw_29_2 dX4_readOne_232 ?_
  refine lv_eqi (y := nI (r)) (rfl) ?_
  refine lv_iconst (v := nI 1) E.1 E.2.1 dX4_readOne_235 (by decide) ?_
  refine lv_addN E.1 E.2.1 dX4_readOne_236 ?_
  refine pX4_10 E hw mw_29_2 dX4_readOne_237 (fun H locs hw => ?_)
  replace hw : HB G AA sS.heap (mN G a (N) (tX (nI (r + 1)) (nI (n2p C n (p + 1 + 1) (sg C n (p + 1) - 48))) (nI (0)) (upd (upd (O) (3 * r) (nI (100))) (3 * r + 1) (nI (n2v C n (p + 1 + 1) (sg C n (p + 1) - 48)))) x)) H locs := HB.eq hw (by rw [tX_3])
  exact rV E hr hlk (HB.eq hw (rfl)) dX4_readOne_240
set_option maxHeartbeats 4000000 in
set_option maxRecDepth 100000 in
theorem c_X4_readOne_nb100 (l : Launch) (G : GP) (a : Nat → Nat) (N : NS) (x : MX) (C : Nat → Nat) (n : Nat) (hPd : PadM x C n) (r p : Nat) (O : Nat → Int32) (hr : r < 60) (hp : p < 80) (hlet : sg C n p = 100) (h : ¬ (48 ≤ sg C n (p + 1) ∧ sg C n (p + 1) ≤ 57)) : MV l yX4_readOne (.code yX4_readOne cX4_readOne 3 none :: GW) ({ frames := 4, cells := 0, slots := 0, locals := 110 }) [.ref (a 0)] G ES (mN G a (N) (tX (nI (r)) (nI (p)) (nI (0)) (O) x)) (mN G a (N) (tX (nI (r + 1)) (nI (p + 1)) (nI (1)) (upd (upd (O) (3 * r) (nI 100)) (3 * r + 1) (nI (sg C n (p + 1)) - nI 48)) x)) := by
  refine MV.of (own := RX4) rfl rfl (Nat.le_of_ble_eq_true rfl) ?_
  intro pP eE sS mM below meth cC ls AA E hw hl hr hlk hE
  replace hl : lv_has ls 3 [(0, .ref (a 0))] := hl
  have hn6 := hPd.2.1
  have hsl := fun i => hPd.lt i
  refine lv_iconst (v := nI 3) E.1 E.2.1 dX4_readOne_0 (by decide) ?_
  refine lv_aload_n E.1 E.2.1 dX4_readOne_1 rfl (lv_at hl 0 rfl) ?_
  refine gX4_10 E hw mw_29_2 dX4_readOne_2 ?_
  refine lv_eqi (y := nI (r)) (rfl) ?_
  refine lv_mulN E.1 E.2.1 dX4_readOne_5 ?_
  refine lv_istore_n (lv' := [(1, .int (nI (3 * r))), (0, .ref (a 0))]) E.1 E.2.1 dX4_readOne_6 rfl hl (by decide) rfl (fun ls hl => ?_)
  refine lv_aload_n E.1 E.2.1 dX4_readOne_7 rfl (lv_at hl 1 rfl) ?_
  refine callVI E (c_X4_sign l G a (N) x C n hPd (r) (p) (nI (0)) (O) (by omega)) mw_29_8 YX4_sign ⟨rfl, rfl⟩ ⟨Nat.le_of_ble_eq_true rfl, Nat.le_of_ble_eq_true rfl⟩ ⟨Nat.zero_le _, Nat.zero_le _⟩ hw 0 rfl rfl rfl hl rfl (Nat.le_of_ble_eq_true rfl) dX4_readOne_8 (fun H locs hw => ?_)
  have q8 := hsl (p)
  refine lv_eqi (y := nI (100)) (by rw [hlet]) ?_
  refine lv_istore_n (lv' := [(2, .int (nI (100))), (1, .int (nI (3 * r))), (0, .ref (a 0))]) E.1 E.2.1 dX4_readOne_11 rfl hl (by decide) rfl (fun ls hl => ?_)
  refine lv_aload_n E.1 E.2.1 dX4_readOne_12 rfl (lv_at hl 2 rfl) ?_
  refine gX4_9 E hw mw_3_15 dX4_readOne_13 ?_
  refine lv_iload_n E.1 E.2.1 dX4_readOne_16 rfl (lv_at hl 1 rfl) ?_
  refine lv_iload_n E.1 E.2.1 dX4_readOne_17 rfl (lv_at hl 0 rfl) ?_
  refine sX4_6 E hw (by omega) dX4_readOne_18 (fun H locs hw => ?_)
  replace hw : HB G AA sS.heap (mN G a (N) (tX (nI (r)) (nI (p)) (nI (0)) (upd (O) (3 * r) (nI (100))) x)) H locs := HB.eq hw (tX_Oe)
  refine lv_aload_n E.1 E.2.1 dX4_readOne_19 rfl (lv_at hl 2 rfl) ?_
  refine lv_dup E.1 E.2.1 dX4_readOne_20 rfl ?_
  refine gX4_11 E hw mw_29_1 dX4_readOne_21 ?_
  refine lv_eqi (y := nI (p)) (rfl) ?_
  refine lv_iconst (v := nI 1) E.1 E.2.1 dX4_readOne_24 (by decide) ?_
  refine lv_addN E.1 E.2.1 dX4_readOne_25 ?_
  refine pX4_11 E hw mw_29_1 dX4_readOne_26 (fun H locs hw => ?_)
  replace hw : HB G AA sS.heap (mN G a (N) (tX (nI (r)) (nI (p + 1)) (nI (0)) (upd (O) (3 * r) (nI (100))) x)) H locs := HB.eq hw (by rw [tX_4])
  refine lv_iload_n E.1 E.2.1 dX4_readOne_29 rfl (lv_at hl 0 rfl) ?_
  refine lv_tableIn (tgt := 143) E.1 E.2.1 dX4_readOne_30 (by decide) (by decide) rfl (by decide) ?_
  refine lv_aload_n E.1 E.2.1 dX4_readOne_143 rfl (lv_at hl 2 rfl) ?_
  refine gX4_9 E hw mw_3_15 dX4_readOne_144 ?_
  refine lv_iload_n E.1 E.2.1 dX4_readOne_147 rfl (lv_at hl 1 rfl) ?_
  refine lv_iconst (v := nI 1) E.1 E.2.1 dX4_readOne_148 (by decide) ?_
  refine lv_addN E.1 E.2.1 dX4_readOne_149 ?_
  refine lv_aload_n E.1 E.2.1 dX4_readOne_150 rfl (lv_at hl 2 rfl) ?_
  refine callVI E (c_X4_number_bad l G a N x C n hPd (r) (p + 1) (upd (O) (3 * r) (nI (100))) (by omega) (by omega)) mw_29_20 YX4_number ⟨rfl, rfl⟩ ⟨Nat.le_of_ble_eq_true rfl, Nat.le_of_ble_eq_true rfl⟩ ⟨Nat.zero_le _, Nat.zero_le _⟩ hw 0 rfl rfl rfl hl rfl (Nat.le_of_ble_eq_true rfl) dX4_readOne_151 (fun H locs hw => ?_)
  refine sX4_6 E hw (by omega) dX4_readOne_154 (fun H locs hw => ?_)
  replace hw : HB G AA sS.heap (mN G a (N) (tX (nI (r)) (nI (p + 1)) (nI (1)) (upd (upd (O) (3 * r) (nI (100))) (3 * r + 1) (nI (sg C n (p + 1)) - nI 48)) x)) H locs := HB.eq hw (tX_Oe)
  refine lv_goto (tgt := 230) E.1 E.2.1 dX4_readOne_155 (by decide) ?_
  refine lv_aload_n E.1 E.2.1 dX4_readOne_230 rfl (lv_at hl 2 rfl) ?_
  refine lv_dup E.1 E.2.1 dX4_readOne_231 rfl ?_
  refine gX4_10 E hw mw_29_2 dX4_readOne_232 ?_
  refine lv_eqi (y := nI (r)) (rfl) ?_
  refine lv_iconst (v := nI 1) E.1 E.2.1 dX4_readOne_235 (by decide) ?_
  refine lv_addN E.1 E.2.1 dX4_readOne_236 ?_
  refine pX4_10 E hw mw_29_2 dX4_readOne_237 (fun H locs hw => ?_)
  replace hw : HB G AA sS.heap (mN G a (N) (tX (nI (r + 1)) (nI (p + 1)) (nI (1)) (upd (upd (O) (3 * r) (nI (100))) (3 * r + 1) (nI (sg C n (p + 1)) - nI 48)) x)) H locs := HB.eq hw (by rw [tX_3])
  exact rV E hr hlk (HB.eq hw (rfl)) dX4_readOne_240
set_option maxHeartbeats 4000000 in
set_option maxRecDepth 100000 in
theorem c_X4_readOne_n108 (l : Launch) (G : GP) (a : Nat → Nat) (N : NS) (x : MX) (C : Nat → Nat) (n : Nat) (hPd : PadM x C n) (r p : Nat) (O : Nat → Int32) (hr : r < 60) (hp : p < 80) (hlet : sg C n p = 108) (h : 48 ≤ sg C n (p + 1) ∧ sg C n (p + 1) ≤ 57) : MV l yX4_readOne (.code yX4_readOne cX4_readOne 3 none :: GW) ({ frames := 4, cells := 0, slots := 0, locals := 110 }) [.ref (a 0)] G ES (mN G a (N) (tX (nI (r)) (nI (p)) (nI (0)) (O) x)) (mN G a (N) (tX (nI (r + 1)) (nI (n2p C n (p + 1 + 1) (sg C n (p + 1) - 48))) (nI (0)) (upd (upd (O) (3 * r) (nI 108)) (3 * r + 1) (nI (n2v C n (p + 1 + 1) (sg C n (p + 1) - 48)))) x)) := by
  refine MV.of (own := RX4) rfl rfl (Nat.le_of_ble_eq_true rfl) ?_
  intro pP eE sS mM below meth cC ls AA E hw hl hr hlk hE
  replace hl : lv_has ls 3 [(0, .ref (a 0))] := hl
  have hn6 := hPd.2.1
  have hsl := fun i => hPd.lt i
  refine lv_iconst (v := nI 3) E.1 E.2.1 dX4_readOne_0 (by decide) ?_
  refine lv_aload_n E.1 E.2.1 dX4_readOne_1 rfl (lv_at hl 0 rfl) ?_
  refine gX4_10 E hw mw_29_2 dX4_readOne_2 ?_
  refine lv_eqi (y := nI (r)) (rfl) ?_
  refine lv_mulN E.1 E.2.1 dX4_readOne_5 ?_
  refine lv_istore_n (lv' := [(1, .int (nI (3 * r))), (0, .ref (a 0))]) E.1 E.2.1 dX4_readOne_6 rfl hl (by decide) rfl (fun ls hl => ?_)
  refine lv_aload_n E.1 E.2.1 dX4_readOne_7 rfl (lv_at hl 1 rfl) ?_
  refine callVI E (c_X4_sign l G a (N) x C n hPd (r) (p) (nI (0)) (O) (by omega)) mw_29_8 YX4_sign ⟨rfl, rfl⟩ ⟨Nat.le_of_ble_eq_true rfl, Nat.le_of_ble_eq_true rfl⟩ ⟨Nat.zero_le _, Nat.zero_le _⟩ hw 0 rfl rfl rfl hl rfl (Nat.le_of_ble_eq_true rfl) dX4_readOne_8 (fun H locs hw => ?_)
  have q8 := hsl (p)
  refine lv_eqi (y := nI (108)) (by rw [hlet]) ?_
  refine lv_istore_n (lv' := [(2, .int (nI (108))), (1, .int (nI (3 * r))), (0, .ref (a 0))]) E.1 E.2.1 dX4_readOne_11 rfl hl (by decide) rfl (fun ls hl => ?_)
  refine lv_aload_n E.1 E.2.1 dX4_readOne_12 rfl (lv_at hl 2 rfl) ?_
  refine gX4_9 E hw mw_3_15 dX4_readOne_13 ?_
  refine lv_iload_n E.1 E.2.1 dX4_readOne_16 rfl (lv_at hl 1 rfl) ?_
  refine lv_iload_n E.1 E.2.1 dX4_readOne_17 rfl (lv_at hl 0 rfl) ?_
  refine sX4_6 E hw (by omega) dX4_readOne_18 (fun H locs hw => ?_)
  replace hw : HB G AA sS.heap (mN G a (N) (tX (nI (r)) (nI (p)) (nI (0)) (upd (O) (3 * r) (nI (108))) x)) H locs := HB.eq hw (tX_Oe)
  refine lv_aload_n E.1 E.2.1 dX4_readOne_19 rfl (lv_at hl 2 rfl) ?_
  refine lv_dup E.1 E.2.1 dX4_readOne_20 rfl ?_
  refine gX4_11 E hw mw_29_1 dX4_readOne_21 ?_
  refine lv_eqi (y := nI (p)) (rfl) ?_
  refine lv_iconst (v := nI 1) E.1 E.2.1 dX4_readOne_24 (by decide) ?_
  refine lv_addN E.1 E.2.1 dX4_readOne_25 ?_
  refine pX4_11 E hw mw_29_1 dX4_readOne_26 (fun H locs hw => ?_)
  replace hw : HB G AA sS.heap (mN G a (N) (tX (nI (r)) (nI (p + 1)) (nI (0)) (upd (O) (3 * r) (nI (108))) x)) H locs := HB.eq hw (by rw [tX_4])
  refine lv_iload_n E.1 E.2.1 dX4_readOne_29 rfl (lv_at hl 0 rfl) ?_
  refine lv_tableIn (tgt := 143) E.1 E.2.1 dX4_readOne_30 (by decide) (by decide) rfl (by decide) ?_
  refine lv_aload_n E.1 E.2.1 dX4_readOne_143 rfl (lv_at hl 2 rfl) ?_
  refine gX4_9 E hw mw_3_15 dX4_readOne_144 ?_
  refine lv_iload_n E.1 E.2.1 dX4_readOne_147 rfl (lv_at hl 1 rfl) ?_
  refine lv_iconst (v := nI 1) E.1 E.2.1 dX4_readOne_148 (by decide) ?_
  refine lv_addN E.1 E.2.1 dX4_readOne_149 ?_
  refine lv_aload_n E.1 E.2.1 dX4_readOne_150 rfl (lv_at hl 2 rfl) ?_
  refine callVI E (c_X4_number_ok l G a N x C n hPd (r) (p + 1) (upd (O) (3 * r) (nI (108))) (by omega) (by omega)) mw_29_20 YX4_number ⟨rfl, rfl⟩ ⟨Nat.le_of_ble_eq_true rfl, Nat.le_of_ble_eq_true rfl⟩ ⟨Nat.zero_le _, Nat.zero_le _⟩ hw 0 rfl rfl rfl hl rfl (Nat.le_of_ble_eq_true rfl) dX4_readOne_151 (fun H locs hw => ?_)
  refine sX4_6 E hw (by omega) dX4_readOne_154 (fun H locs hw => ?_)
  replace hw : HB G AA sS.heap (mN G a (N) (tX (nI (r)) (nI (n2p C n (p + 1 + 1) (sg C n (p + 1) - 48))) (nI (0)) (upd (upd (O) (3 * r) (nI (108))) (3 * r + 1) (nI (n2v C n (p + 1 + 1) (sg C n (p + 1) - 48)))) x)) H locs := HB.eq hw (tX_Oe)
  refine lv_goto (tgt := 230) E.1 E.2.1 dX4_readOne_155 (by decide) ?_
  refine lv_aload_n E.1 E.2.1 dX4_readOne_230 rfl (lv_at hl 2 rfl) ?_
  refine lv_dup E.1 E.2.1 dX4_readOne_231 rfl ?_
  refine gX4_10 E hw mw_29_2 dX4_readOne_232 ?_
  refine lv_eqi (y := nI (r)) (rfl) ?_
  refine lv_iconst (v := nI 1) E.1 E.2.1 dX4_readOne_235 (by decide) ?_
  refine lv_addN E.1 E.2.1 dX4_readOne_236 ?_
  refine pX4_10 E hw mw_29_2 dX4_readOne_237 (fun H locs hw => ?_)
  replace hw : HB G AA sS.heap (mN G a (N) (tX (nI (r + 1)) (nI (n2p C n (p + 1 + 1) (sg C n (p + 1) - 48))) (nI (0)) (upd (upd (O) (3 * r) (nI (108))) (3 * r + 1) (nI (n2v C n (p + 1 + 1) (sg C n (p + 1) - 48)))) x)) H locs := HB.eq hw (by rw [tX_3])
  exact rV E hr hlk (HB.eq hw (rfl)) dX4_readOne_240
set_option maxHeartbeats 4000000 in
set_option maxRecDepth 100000 in
theorem c_X4_readOne_nb108 (l : Launch) (G : GP) (a : Nat → Nat) (N : NS) (x : MX) (C : Nat → Nat) (n : Nat) (hPd : PadM x C n) (r p : Nat) (O : Nat → Int32) (hr : r < 60) (hp : p < 80) (hlet : sg C n p = 108) (h : ¬ (48 ≤ sg C n (p + 1) ∧ sg C n (p + 1) ≤ 57)) : MV l yX4_readOne (.code yX4_readOne cX4_readOne 3 none :: GW) ({ frames := 4, cells := 0, slots := 0, locals := 110 }) [.ref (a 0)] G ES (mN G a (N) (tX (nI (r)) (nI (p)) (nI (0)) (O) x)) (mN G a (N) (tX (nI (r + 1)) (nI (p + 1)) (nI (1)) (upd (upd (O) (3 * r) (nI 108)) (3 * r + 1) (nI (sg C n (p + 1)) - nI 48)) x)) := by
  refine MV.of (own := RX4) rfl rfl (Nat.le_of_ble_eq_true rfl) ?_
  intro pP eE sS mM below meth cC ls AA E hw hl hr hlk hE
  replace hl : lv_has ls 3 [(0, .ref (a 0))] := hl
  have hn6 := hPd.2.1
  have hsl := fun i => hPd.lt i
  refine lv_iconst (v := nI 3) E.1 E.2.1 dX4_readOne_0 (by decide) ?_
  refine lv_aload_n E.1 E.2.1 dX4_readOne_1 rfl (lv_at hl 0 rfl) ?_
  refine gX4_10 E hw mw_29_2 dX4_readOne_2 ?_
  refine lv_eqi (y := nI (r)) (rfl) ?_
  refine lv_mulN E.1 E.2.1 dX4_readOne_5 ?_
  refine lv_istore_n (lv' := [(1, .int (nI (3 * r))), (0, .ref (a 0))]) E.1 E.2.1 dX4_readOne_6 rfl hl (by decide) rfl (fun ls hl => ?_)
  refine lv_aload_n E.1 E.2.1 dX4_readOne_7 rfl (lv_at hl 1 rfl) ?_
  refine callVI E (c_X4_sign l G a (N) x C n hPd (r) (p) (nI (0)) (O) (by omega)) mw_29_8 YX4_sign ⟨rfl, rfl⟩ ⟨Nat.le_of_ble_eq_true rfl, Nat.le_of_ble_eq_true rfl⟩ ⟨Nat.zero_le _, Nat.zero_le _⟩ hw 0 rfl rfl rfl hl rfl (Nat.le_of_ble_eq_true rfl) dX4_readOne_8 (fun H locs hw => ?_)
  have q8 := hsl (p)
  refine lv_eqi (y := nI (108)) (by rw [hlet]) ?_
  refine lv_istore_n (lv' := [(2, .int (nI (108))), (1, .int (nI (3 * r))), (0, .ref (a 0))]) E.1 E.2.1 dX4_readOne_11 rfl hl (by decide) rfl (fun ls hl => ?_)
  refine lv_aload_n E.1 E.2.1 dX4_readOne_12 rfl (lv_at hl 2 rfl) ?_
  refine gX4_9 E hw mw_3_15 dX4_readOne_13 ?_
  refine lv_iload_n E.1 E.2.1 dX4_readOne_16 rfl (lv_at hl 1 rfl) ?_
  refine lv_iload_n E.1 E.2.1 dX4_readOne_17 rfl (lv_at hl 0 rfl) ?_
  refine sX4_6 E hw (by omega) dX4_readOne_18 (fun H locs hw => ?_)
  replace hw : HB G AA sS.heap (mN G a (N) (tX (nI (r)) (nI (p)) (nI (0)) (upd (O) (3 * r) (nI (108))) x)) H locs := HB.eq hw (tX_Oe)
  refine lv_aload_n E.1 E.2.1 dX4_readOne_19 rfl (lv_at hl 2 rfl) ?_
  refine lv_dup E.1 E.2.1 dX4_readOne_20 rfl ?_
  refine gX4_11 E hw mw_29_1 dX4_readOne_21 ?_
  refine lv_eqi (y := nI (p)) (rfl) ?_
  refine lv_iconst (v := nI 1) E.1 E.2.1 dX4_readOne_24 (by decide) ?_
  refine lv_addN E.1 E.2.1 dX4_readOne_25 ?_
  refine pX4_11 E hw mw_29_1 dX4_readOne_26 (fun H locs hw => ?_)
  replace hw : HB G AA sS.heap (mN G a (N) (tX (nI (r)) (nI (p + 1)) (nI (0)) (upd (O) (3 * r) (nI (108))) x)) H locs := HB.eq hw (by rw [tX_4])
  refine lv_iload_n E.1 E.2.1 dX4_readOne_29 rfl (lv_at hl 0 rfl) ?_
  refine lv_tableIn (tgt := 143) E.1 E.2.1 dX4_readOne_30 (by decide) (by decide) rfl (by decide) ?_
  refine lv_aload_n E.1 E.2.1 dX4_readOne_143 rfl (lv_at hl 2 rfl) ?_
  refine gX4_9 E hw mw_3_15 dX4_readOne_144 ?_
  refine lv_iload_n E.1 E.2.1 dX4_readOne_147 rfl (lv_at hl 1 rfl) ?_
  refine lv_iconst (v := nI 1) E.1 E.2.1 dX4_readOne_148 (by decide) ?_
  refine lv_addN E.1 E.2.1 dX4_readOne_149 ?_
  refine lv_aload_n E.1 E.2.1 dX4_readOne_150 rfl (lv_at hl 2 rfl) ?_
  refine callVI E (c_X4_number_bad l G a N x C n hPd (r) (p + 1) (upd (O) (3 * r) (nI (108))) (by omega) (by omega)) mw_29_20 YX4_number ⟨rfl, rfl⟩ ⟨Nat.le_of_ble_eq_true rfl, Nat.le_of_ble_eq_true rfl⟩ ⟨Nat.zero_le _, Nat.zero_le _⟩ hw 0 rfl rfl rfl hl rfl (Nat.le_of_ble_eq_true rfl) dX4_readOne_151 (fun H locs hw => ?_)
  refine sX4_6 E hw (by omega) dX4_readOne_154 (fun H locs hw => ?_)
  replace hw : HB G AA sS.heap (mN G a (N) (tX (nI (r)) (nI (p + 1)) (nI (1)) (upd (upd (O) (3 * r) (nI (108))) (3 * r + 1) (nI (sg C n (p + 1)) - nI 48)) x)) H locs := HB.eq hw (tX_Oe)
  refine lv_goto (tgt := 230) E.1 E.2.1 dX4_readOne_155 (by decide) ?_
  refine lv_aload_n E.1 E.2.1 dX4_readOne_230 rfl (lv_at hl 2 rfl) ?_
  refine lv_dup E.1 E.2.1 dX4_readOne_231 rfl ?_
  refine gX4_10 E hw mw_29_2 dX4_readOne_232 ?_
  refine lv_eqi (y := nI (r)) (rfl) ?_
  refine lv_iconst (v := nI 1) E.1 E.2.1 dX4_readOne_235 (by decide) ?_
  refine lv_addN E.1 E.2.1 dX4_readOne_236 ?_
  refine pX4_10 E hw mw_29_2 dX4_readOne_237 (fun H locs hw => ?_)
  replace hw : HB G AA sS.heap (mN G a (N) (tX (nI (r + 1)) (nI (p + 1)) (nI (1)) (upd (upd (O) (3 * r) (nI (108))) (3 * r + 1) (nI (sg C n (p + 1)) - nI 48)) x)) H locs := HB.eq hw (by rw [tX_3])
  exact rV E hr hlk (HB.eq hw (rfl)) dX4_readOne_240
set_option maxHeartbeats 4000000 in
set_option maxRecDepth 100000 in
theorem c_X4_readOne_n116 (l : Launch) (G : GP) (a : Nat → Nat) (N : NS) (x : MX) (C : Nat → Nat) (n : Nat) (hPd : PadM x C n) (r p : Nat) (O : Nat → Int32) (hr : r < 60) (hp : p < 80) (hlet : sg C n p = 116) (h : 48 ≤ sg C n (p + 1) ∧ sg C n (p + 1) ≤ 57) : MV l yX4_readOne (.code yX4_readOne cX4_readOne 3 none :: GW) ({ frames := 4, cells := 0, slots := 0, locals := 110 }) [.ref (a 0)] G ES (mN G a (N) (tX (nI (r)) (nI (p)) (nI (0)) (O) x)) (mN G a (N) (tX (nI (r + 1)) (nI (n2p C n (p + 1 + 1) (sg C n (p + 1) - 48))) (nI (0)) (upd (upd (O) (3 * r) (nI 116)) (3 * r + 1) (nI (n2v C n (p + 1 + 1) (sg C n (p + 1) - 48)))) x)) := by
  refine MV.of (own := RX4) rfl rfl (Nat.le_of_ble_eq_true rfl) ?_
  intro pP eE sS mM below meth cC ls AA E hw hl hr hlk hE
  replace hl : lv_has ls 3 [(0, .ref (a 0))] := hl
  have hn6 := hPd.2.1
  have hsl := fun i => hPd.lt i
  refine lv_iconst (v := nI 3) E.1 E.2.1 dX4_readOne_0 (by decide) ?_
  refine lv_aload_n E.1 E.2.1 dX4_readOne_1 rfl (lv_at hl 0 rfl) ?_
  refine gX4_10 E hw mw_29_2 dX4_readOne_2 ?_
  refine lv_eqi (y := nI (r)) (rfl) ?_
  refine lv_mulN E.1 E.2.1 dX4_readOne_5 ?_
  refine lv_istore_n (lv' := [(1, .int (nI (3 * r))), (0, .ref (a 0))]) E.1 E.2.1 dX4_readOne_6 rfl hl (by decide) rfl (fun ls hl => ?_)
  refine lv_aload_n E.1 E.2.1 dX4_readOne_7 rfl (lv_at hl 1 rfl) ?_
  refine callVI E (c_X4_sign l G a (N) x C n hPd (r) (p) (nI (0)) (O) (by omega)) mw_29_8 YX4_sign ⟨rfl, rfl⟩ ⟨Nat.le_of_ble_eq_true rfl, Nat.le_of_ble_eq_true rfl⟩ ⟨Nat.zero_le _, Nat.zero_le _⟩ hw 0 rfl rfl rfl hl rfl (Nat.le_of_ble_eq_true rfl) dX4_readOne_8 (fun H locs hw => ?_)
  have q8 := hsl (p)
  refine lv_eqi (y := nI (116)) (by rw [hlet]) ?_
  refine lv_istore_n (lv' := [(2, .int (nI (116))), (1, .int (nI (3 * r))), (0, .ref (a 0))]) E.1 E.2.1 dX4_readOne_11 rfl hl (by decide) rfl (fun ls hl => ?_)
  refine lv_aload_n E.1 E.2.1 dX4_readOne_12 rfl (lv_at hl 2 rfl) ?_
  refine gX4_9 E hw mw_3_15 dX4_readOne_13 ?_
  refine lv_iload_n E.1 E.2.1 dX4_readOne_16 rfl (lv_at hl 1 rfl) ?_
  refine lv_iload_n E.1 E.2.1 dX4_readOne_17 rfl (lv_at hl 0 rfl) ?_
  refine sX4_6 E hw (by omega) dX4_readOne_18 (fun H locs hw => ?_)
  replace hw : HB G AA sS.heap (mN G a (N) (tX (nI (r)) (nI (p)) (nI (0)) (upd (O) (3 * r) (nI (116))) x)) H locs := HB.eq hw (tX_Oe)
  refine lv_aload_n E.1 E.2.1 dX4_readOne_19 rfl (lv_at hl 2 rfl) ?_
  refine lv_dup E.1 E.2.1 dX4_readOne_20 rfl ?_
  refine gX4_11 E hw mw_29_1 dX4_readOne_21 ?_
  refine lv_eqi (y := nI (p)) (rfl) ?_
  refine lv_iconst (v := nI 1) E.1 E.2.1 dX4_readOne_24 (by decide) ?_
  refine lv_addN E.1 E.2.1 dX4_readOne_25 ?_
  refine pX4_11 E hw mw_29_1 dX4_readOne_26 (fun H locs hw => ?_)
  replace hw : HB G AA sS.heap (mN G a (N) (tX (nI (r)) (nI (p + 1)) (nI (0)) (upd (O) (3 * r) (nI (116))) x)) H locs := HB.eq hw (by rw [tX_4])
  refine lv_iload_n E.1 E.2.1 dX4_readOne_29 rfl (lv_at hl 0 rfl) ?_
  refine lv_tableIn (tgt := 143) E.1 E.2.1 dX4_readOne_30 (by decide) (by decide) rfl (by decide) ?_
  refine lv_aload_n E.1 E.2.1 dX4_readOne_143 rfl (lv_at hl 2 rfl) ?_
  refine gX4_9 E hw mw_3_15 dX4_readOne_144 ?_
  refine lv_iload_n E.1 E.2.1 dX4_readOne_147 rfl (lv_at hl 1 rfl) ?_
  refine lv_iconst (v := nI 1) E.1 E.2.1 dX4_readOne_148 (by decide) ?_
  refine lv_addN E.1 E.2.1 dX4_readOne_149 ?_
  refine lv_aload_n E.1 E.2.1 dX4_readOne_150 rfl (lv_at hl 2 rfl) ?_
  refine callVI E (c_X4_number_ok l G a N x C n hPd (r) (p + 1) (upd (O) (3 * r) (nI (116))) (by omega) (by omega)) mw_29_20 YX4_number ⟨rfl, rfl⟩ ⟨Nat.le_of_ble_eq_true rfl, Nat.le_of_ble_eq_true rfl⟩ ⟨Nat.zero_le _, Nat.zero_le _⟩ hw 0 rfl rfl rfl hl rfl (Nat.le_of_ble_eq_true rfl) dX4_readOne_151 (fun H locs hw => ?_)
  refine sX4_6 E hw (by omega) dX4_readOne_154 (fun H locs hw => ?_)
  replace hw : HB G AA sS.heap (mN G a (N) (tX (nI (r)) (nI (n2p C n (p + 1 + 1) (sg C n (p + 1) - 48))) (nI (0)) (upd (upd (O) (3 * r) (nI (116))) (3 * r + 1) (nI (n2v C n (p + 1 + 1) (sg C n (p + 1) - 48)))) x)) H locs := HB.eq hw (tX_Oe)
  refine lv_goto (tgt := 230) E.1 E.2.1 dX4_readOne_155 (by decide) ?_
  refine lv_aload_n E.1 E.2.1 dX4_readOne_230 rfl (lv_at hl 2 rfl) ?_
  refine lv_dup E.1 E.2.1 dX4_readOne_231 rfl ?_
  refine gX4_10 E hw mw_29_2 dX4_readOne_232 ?_
  refine lv_eqi (y := nI (r)) (rfl) ?_
  refine lv_iconst (v := nI 1) E.1 E.2.1 dX4_readOne_235 (by decide) ?_
  refine lv_addN E.1 E.2.1 dX4_readOne_236 ?_
  refine pX4_10 E hw mw_29_2 dX4_readOne_237 (fun H locs hw => ?_)
  replace hw : HB G AA sS.heap (mN G a (N) (tX (nI (r + 1)) (nI (n2p C n (p + 1 + 1) (sg C n (p + 1) - 48))) (nI (0)) (upd (upd (O) (3 * r) (nI (116))) (3 * r + 1) (nI (n2v C n (p + 1 + 1) (sg C n (p + 1) - 48)))) x)) H locs := HB.eq hw (by rw [tX_3])
  exact rV E hr hlk (HB.eq hw (rfl)) dX4_readOne_240
set_option maxHeartbeats 4000000 in
set_option maxRecDepth 100000 in
theorem c_X4_readOne_nb116 (l : Launch) (G : GP) (a : Nat → Nat) (N : NS) (x : MX) (C : Nat → Nat) (n : Nat) (hPd : PadM x C n) (r p : Nat) (O : Nat → Int32) (hr : r < 60) (hp : p < 80) (hlet : sg C n p = 116) (h : ¬ (48 ≤ sg C n (p + 1) ∧ sg C n (p + 1) ≤ 57)) : MV l yX4_readOne (.code yX4_readOne cX4_readOne 3 none :: GW) ({ frames := 4, cells := 0, slots := 0, locals := 110 }) [.ref (a 0)] G ES (mN G a (N) (tX (nI (r)) (nI (p)) (nI (0)) (O) x)) (mN G a (N) (tX (nI (r + 1)) (nI (p + 1)) (nI (1)) (upd (upd (O) (3 * r) (nI 116)) (3 * r + 1) (nI (sg C n (p + 1)) - nI 48)) x)) := by
  refine MV.of (own := RX4) rfl rfl (Nat.le_of_ble_eq_true rfl) ?_
  intro pP eE sS mM below meth cC ls AA E hw hl hr hlk hE
  replace hl : lv_has ls 3 [(0, .ref (a 0))] := hl
  have hn6 := hPd.2.1
  have hsl := fun i => hPd.lt i
  refine lv_iconst (v := nI 3) E.1 E.2.1 dX4_readOne_0 (by decide) ?_
  refine lv_aload_n E.1 E.2.1 dX4_readOne_1 rfl (lv_at hl 0 rfl) ?_
  refine gX4_10 E hw mw_29_2 dX4_readOne_2 ?_
  refine lv_eqi (y := nI (r)) (rfl) ?_
  refine lv_mulN E.1 E.2.1 dX4_readOne_5 ?_
  refine lv_istore_n (lv' := [(1, .int (nI (3 * r))), (0, .ref (a 0))]) E.1 E.2.1 dX4_readOne_6 rfl hl (by decide) rfl (fun ls hl => ?_)
  refine lv_aload_n E.1 E.2.1 dX4_readOne_7 rfl (lv_at hl 1 rfl) ?_
  refine callVI E (c_X4_sign l G a (N) x C n hPd (r) (p) (nI (0)) (O) (by omega)) mw_29_8 YX4_sign ⟨rfl, rfl⟩ ⟨Nat.le_of_ble_eq_true rfl, Nat.le_of_ble_eq_true rfl⟩ ⟨Nat.zero_le _, Nat.zero_le _⟩ hw 0 rfl rfl rfl hl rfl (Nat.le_of_ble_eq_true rfl) dX4_readOne_8 (fun H locs hw => ?_)
  have q8 := hsl (p)
  refine lv_eqi (y := nI (116)) (by rw [hlet]) ?_
  refine lv_istore_n (lv' := [(2, .int (nI (116))), (1, .int (nI (3 * r))), (0, .ref (a 0))]) E.1 E.2.1 dX4_readOne_11 rfl hl (by decide) rfl (fun ls hl => ?_)
  refine lv_aload_n E.1 E.2.1 dX4_readOne_12 rfl (lv_at hl 2 rfl) ?_
  refine gX4_9 E hw mw_3_15 dX4_readOne_13 ?_
  refine lv_iload_n E.1 E.2.1 dX4_readOne_16 rfl (lv_at hl 1 rfl) ?_
  refine lv_iload_n E.1 E.2.1 dX4_readOne_17 rfl (lv_at hl 0 rfl) ?_
  refine sX4_6 E hw (by omega) dX4_readOne_18 (fun H locs hw => ?_)
  replace hw : HB G AA sS.heap (mN G a (N) (tX (nI (r)) (nI (p)) (nI (0)) (upd (O) (3 * r) (nI (116))) x)) H locs := HB.eq hw (tX_Oe)
  refine lv_aload_n E.1 E.2.1 dX4_readOne_19 rfl (lv_at hl 2 rfl) ?_
  refine lv_dup E.1 E.2.1 dX4_readOne_20 rfl ?_
  refine gX4_11 E hw mw_29_1 dX4_readOne_21 ?_
  refine lv_eqi (y := nI (p)) (rfl) ?_
  refine lv_iconst (v := nI 1) E.1 E.2.1 dX4_readOne_24 (by decide) ?_
  refine lv_addN E.1 E.2.1 dX4_readOne_25 ?_
  refine pX4_11 E hw mw_29_1 dX4_readOne_26 (fun H locs hw => ?_)
  replace hw : HB G AA sS.heap (mN G a (N) (tX (nI (r)) (nI (p + 1)) (nI (0)) (upd (O) (3 * r) (nI (116))) x)) H locs := HB.eq hw (by rw [tX_4])
  refine lv_iload_n E.1 E.2.1 dX4_readOne_29 rfl (lv_at hl 0 rfl) ?_
  refine lv_tableIn (tgt := 143) E.1 E.2.1 dX4_readOne_30 (by decide) (by decide) rfl (by decide) ?_
  refine lv_aload_n E.1 E.2.1 dX4_readOne_143 rfl (lv_at hl 2 rfl) ?_
  refine gX4_9 E hw mw_3_15 dX4_readOne_144 ?_
  refine lv_iload_n E.1 E.2.1 dX4_readOne_147 rfl (lv_at hl 1 rfl) ?_
  refine lv_iconst (v := nI 1) E.1 E.2.1 dX4_readOne_148 (by decide) ?_
  refine lv_addN E.1 E.2.1 dX4_readOne_149 ?_
  refine lv_aload_n E.1 E.2.1 dX4_readOne_150 rfl (lv_at hl 2 rfl) ?_
  refine callVI E (c_X4_number_bad l G a N x C n hPd (r) (p + 1) (upd (O) (3 * r) (nI (116))) (by omega) (by omega)) mw_29_20 YX4_number ⟨rfl, rfl⟩ ⟨Nat.le_of_ble_eq_true rfl, Nat.le_of_ble_eq_true rfl⟩ ⟨Nat.zero_le _, Nat.zero_le _⟩ hw 0 rfl rfl rfl hl rfl (Nat.le_of_ble_eq_true rfl) dX4_readOne_151 (fun H locs hw => ?_)
  refine sX4_6 E hw (by omega) dX4_readOne_154 (fun H locs hw => ?_)
  replace hw : HB G AA sS.heap (mN G a (N) (tX (nI (r)) (nI (p + 1)) (nI (1)) (upd (upd (O) (3 * r) (nI (116))) (3 * r + 1) (nI (sg C n (p + 1)) - nI 48)) x)) H locs := HB.eq hw (tX_Oe)
  refine lv_goto (tgt := 230) E.1 E.2.1 dX4_readOne_155 (by decide) ?_
  refine lv_aload_n E.1 E.2.1 dX4_readOne_230 rfl (lv_at hl 2 rfl) ?_
  refine lv_dup E.1 E.2.1 dX4_readOne_231 rfl ?_
  refine gX4_10 E hw mw_29_2 dX4_readOne_232 ?_
  refine lv_eqi (y := nI (r)) (rfl) ?_
  refine lv_iconst (v := nI 1) E.1 E.2.1 dX4_readOne_235 (by decide) ?_
  refine lv_addN E.1 E.2.1 dX4_readOne_236 ?_
  refine pX4_10 E hw mw_29_2 dX4_readOne_237 (fun H locs hw => ?_)
  replace hw : HB G AA sS.heap (mN G a (N) (tX (nI (r + 1)) (nI (p + 1)) (nI (1)) (upd (upd (O) (3 * r) (nI (116))) (3 * r + 1) (nI (sg C n (p + 1)) - nI 48)) x)) H locs := HB.eq hw (by rw [tX_3])
  exact rV E hr hlk (HB.eq hw (rfl)) dX4_readOne_240
set_option maxHeartbeats 4000000 in
set_option maxRecDepth 100000 in
theorem c_X4_readOne_s114 (l : Launch) (G : GP) (a : Nat → Nat) (N : NS) (x : MX) (C : Nat → Nat) (n : Nat) (hPd : PadM x C n) (r p : Nat) (O : Nat → Int32) (hr : r < 60) (hp : p < 80) (hlet : sg C n p = 114) (h : 48 ≤ sg C n (p + 1) ∧ sg C n (p + 1) ≤ 52) : MV l yX4_readOne (.code yX4_readOne cX4_readOne 3 none :: GW) ({ frames := 4, cells := 0, slots := 0, locals := 110 }) [.ref (a 0)] G ES (mN G a (N) (tX (nI (r)) (nI (p)) (nI (0)) (O) x)) (mN G a (N) (tX (nI (r + 1)) (nI (p + 1 + 1)) (nI (0)) (upd (upd (O) (3 * r) (nI 114)) (3 * r + 1) (nI (sg C n (p + 1) - 48))) x)) := by
  refine MV.of (own := RX4) rfl rfl (Nat.le_of_ble_eq_true rfl) ?_
  intro pP eE sS mM below meth cC ls AA E hw hl hr hlk hE
  replace hl : lv_has ls 3 [(0, .ref (a 0))] := hl
  have hn6 := hPd.2.1
  have hsl := fun i => hPd.lt i
  refine lv_iconst (v := nI 3) E.1 E.2.1 dX4_readOne_0 (by decide) ?_
  refine lv_aload_n E.1 E.2.1 dX4_readOne_1 rfl (lv_at hl 0 rfl) ?_
  refine gX4_10 E hw mw_29_2 dX4_readOne_2 ?_
  refine lv_eqi (y := nI (r)) (rfl) ?_
  refine lv_mulN E.1 E.2.1 dX4_readOne_5 ?_
  refine lv_istore_n (lv' := [(1, .int (nI (3 * r))), (0, .ref (a 0))]) E.1 E.2.1 dX4_readOne_6 rfl hl (by decide) rfl (fun ls hl => ?_)
  refine lv_aload_n E.1 E.2.1 dX4_readOne_7 rfl (lv_at hl 1 rfl) ?_
  refine callVI E (c_X4_sign l G a (N) x C n hPd (r) (p) (nI (0)) (O) (by omega)) mw_29_8 YX4_sign ⟨rfl, rfl⟩ ⟨Nat.le_of_ble_eq_true rfl, Nat.le_of_ble_eq_true rfl⟩ ⟨Nat.zero_le _, Nat.zero_le _⟩ hw 0 rfl rfl rfl hl rfl (Nat.le_of_ble_eq_true rfl) dX4_readOne_8 (fun H locs hw => ?_)
  have q8 := hsl (p)
  refine lv_eqi (y := nI (114)) (by rw [hlet]) ?_
  refine lv_istore_n (lv' := [(2, .int (nI (114))), (1, .int (nI (3 * r))), (0, .ref (a 0))]) E.1 E.2.1 dX4_readOne_11 rfl hl (by decide) rfl (fun ls hl => ?_)
  refine lv_aload_n E.1 E.2.1 dX4_readOne_12 rfl (lv_at hl 2 rfl) ?_
  refine gX4_9 E hw mw_3_15 dX4_readOne_13 ?_
  refine lv_iload_n E.1 E.2.1 dX4_readOne_16 rfl (lv_at hl 1 rfl) ?_
  refine lv_iload_n E.1 E.2.1 dX4_readOne_17 rfl (lv_at hl 0 rfl) ?_
  refine sX4_6 E hw (by omega) dX4_readOne_18 (fun H locs hw => ?_)
  replace hw : HB G AA sS.heap (mN G a (N) (tX (nI (r)) (nI (p)) (nI (0)) (upd (O) (3 * r) (nI (114))) x)) H locs := HB.eq hw (tX_Oe)
  refine lv_aload_n E.1 E.2.1 dX4_readOne_19 rfl (lv_at hl 2 rfl) ?_
  refine lv_dup E.1 E.2.1 dX4_readOne_20 rfl ?_
  refine gX4_11 E hw mw_29_1 dX4_readOne_21 ?_
  refine lv_eqi (y := nI (p)) (rfl) ?_
  refine lv_iconst (v := nI 1) E.1 E.2.1 dX4_readOne_24 (by decide) ?_
  refine lv_addN E.1 E.2.1 dX4_readOne_25 ?_
  refine pX4_11 E hw mw_29_1 dX4_readOne_26 (fun H locs hw => ?_)
  replace hw : HB G AA sS.heap (mN G a (N) (tX (nI (r)) (nI (p + 1)) (nI (0)) (upd (O) (3 * r) (nI (114))) x)) H locs := HB.eq hw (by rw [tX_4])
  refine lv_iload_n E.1 E.2.1 dX4_readOne_29 rfl (lv_at hl 0 rfl) ?_
  refine lv_tableIn (tgt := 158) E.1 E.2.1 dX4_readOne_30 (by decide) (by decide) rfl (by decide) ?_
  refine lv_aload_n E.1 E.2.1 dX4_readOne_158 rfl (lv_at hl 2 rfl) ?_
  refine gX4_9 E hw mw_3_15 dX4_readOne_159 ?_
  refine lv_iload_n E.1 E.2.1 dX4_readOne_162 rfl (lv_at hl 1 rfl) ?_
  refine lv_iconst (v := nI 1) E.1 E.2.1 dX4_readOne_163 (by decide) ?_
  refine lv_addN E.1 E.2.1 dX4_readOne_164 ?_
  refine lv_aload_n E.1 E.2.1 dX4_readOne_165 rfl (lv_at hl 2 rfl) ?_
  refine lv_iconst (v := nI 0) E.1 E.2.1 dX4_readOne_166 (by decide) ?_
  refine lv_iconst (v := nI 4) E.1 E.2.1 dX4_readOne_167 (by decide) ?_
  have q168 := hsl (p + 1)
  refine callVI E (c_X4_one_ok l G a N x C n hPd (r) (p + 1) (upd (O) (3 * r) (nI (114))) 0 4 (by omega) (by omega) (by omega)) mw_29_16 YX4_one ⟨rfl, rfl⟩ ⟨Nat.le_of_ble_eq_true rfl, Nat.le_of_ble_eq_true rfl⟩ ⟨Nat.zero_le _, Nat.zero_le _⟩ hw 0 rfl rfl rfl hl rfl (Nat.le_of_ble_eq_true rfl) dX4_readOne_168 (fun H locs hw => ?_)
  refine sX4_6 E hw (by omega) dX4_readOne_171 (fun H locs hw => ?_)
  replace hw : HB G AA sS.heap (mN G a (N) (tX (nI (r)) (nI (p + 1 + 1)) (nI (0)) (upd (upd (O) (3 * r) (nI (114))) (3 * r + 1) (nI (sg C n (p + 1) - 48))) x)) H locs := HB.eq hw (tX_Oe)
  refine lv_goto (tgt := 230) E.1 E.2.1 dX4_readOne_172 (by decide) ?_
  refine lv_aload_n E.1 E.2.1 dX4_readOne_230 rfl (lv_at hl 2 rfl) ?_
  refine lv_dup E.1 E.2.1 dX4_readOne_231 rfl ?_
  refine gX4_10 E hw mw_29_2 dX4_readOne_232 ?_
  refine lv_eqi (y := nI (r)) (rfl) ?_
  refine lv_iconst (v := nI 1) E.1 E.2.1 dX4_readOne_235 (by decide) ?_
  refine lv_addN E.1 E.2.1 dX4_readOne_236 ?_
  refine pX4_10 E hw mw_29_2 dX4_readOne_237 (fun H locs hw => ?_)
  replace hw : HB G AA sS.heap (mN G a (N) (tX (nI (r + 1)) (nI (p + 1 + 1)) (nI (0)) (upd (upd (O) (3 * r) (nI (114))) (3 * r + 1) (nI (sg C n (p + 1) - 48))) x)) H locs := HB.eq hw (by rw [tX_3])
  exact rV E hr hlk (HB.eq hw (rfl)) dX4_readOne_240
set_option maxHeartbeats 4000000 in
set_option maxRecDepth 100000 in
theorem c_X4_readOne_sb114 (l : Launch) (G : GP) (a : Nat → Nat) (N : NS) (x : MX) (C : Nat → Nat) (n : Nat) (hPd : PadM x C n) (r p : Nat) (O : Nat → Int32) (hr : r < 60) (hp : p < 80) (hlet : sg C n p = 114) (h : ¬ (48 ≤ sg C n (p + 1) ∧ sg C n (p + 1) ≤ 52)) : MV l yX4_readOne (.code yX4_readOne cX4_readOne 3 none :: GW) ({ frames := 4, cells := 0, slots := 0, locals := 110 }) [.ref (a 0)] G ES (mN G a (N) (tX (nI (r)) (nI (p)) (nI (0)) (O) x)) (mN G a (N) (tX (nI (r + 1)) (nI (p + 1)) (nI (1)) (upd (upd (O) (3 * r) (nI 114)) (3 * r + 1) (nI (sg C n (p + 1)) - nI 48)) x)) := by
  refine MV.of (own := RX4) rfl rfl (Nat.le_of_ble_eq_true rfl) ?_
  intro pP eE sS mM below meth cC ls AA E hw hl hr hlk hE
  replace hl : lv_has ls 3 [(0, .ref (a 0))] := hl
  have hn6 := hPd.2.1
  have hsl := fun i => hPd.lt i
  refine lv_iconst (v := nI 3) E.1 E.2.1 dX4_readOne_0 (by decide) ?_
  refine lv_aload_n E.1 E.2.1 dX4_readOne_1 rfl (lv_at hl 0 rfl) ?_
  refine gX4_10 E hw mw_29_2 dX4_readOne_2 ?_
  refine lv_eqi (y := nI (r)) (rfl) ?_
  refine lv_mulN E.1 E.2.1 dX4_readOne_5 ?_
  refine lv_istore_n (lv' := [(1, .int (nI (3 * r))), (0, .ref (a 0))]) E.1 E.2.1 dX4_readOne_6 rfl hl (by decide) rfl (fun ls hl => ?_)
  refine lv_aload_n E.1 E.2.1 dX4_readOne_7 rfl (lv_at hl 1 rfl) ?_
  refine callVI E (c_X4_sign l G a (N) x C n hPd (r) (p) (nI (0)) (O) (by omega)) mw_29_8 YX4_sign ⟨rfl, rfl⟩ ⟨Nat.le_of_ble_eq_true rfl, Nat.le_of_ble_eq_true rfl⟩ ⟨Nat.zero_le _, Nat.zero_le _⟩ hw 0 rfl rfl rfl hl rfl (Nat.le_of_ble_eq_true rfl) dX4_readOne_8 (fun H locs hw => ?_)
  have q8 := hsl (p)
  refine lv_eqi (y := nI (114)) (by rw [hlet]) ?_
  refine lv_istore_n (lv' := [(2, .int (nI (114))), (1, .int (nI (3 * r))), (0, .ref (a 0))]) E.1 E.2.1 dX4_readOne_11 rfl hl (by decide) rfl (fun ls hl => ?_)
  refine lv_aload_n E.1 E.2.1 dX4_readOne_12 rfl (lv_at hl 2 rfl) ?_
  refine gX4_9 E hw mw_3_15 dX4_readOne_13 ?_
  refine lv_iload_n E.1 E.2.1 dX4_readOne_16 rfl (lv_at hl 1 rfl) ?_
  refine lv_iload_n E.1 E.2.1 dX4_readOne_17 rfl (lv_at hl 0 rfl) ?_
  refine sX4_6 E hw (by omega) dX4_readOne_18 (fun H locs hw => ?_)
  replace hw : HB G AA sS.heap (mN G a (N) (tX (nI (r)) (nI (p)) (nI (0)) (upd (O) (3 * r) (nI (114))) x)) H locs := HB.eq hw (tX_Oe)
  refine lv_aload_n E.1 E.2.1 dX4_readOne_19 rfl (lv_at hl 2 rfl) ?_
  refine lv_dup E.1 E.2.1 dX4_readOne_20 rfl ?_
  refine gX4_11 E hw mw_29_1 dX4_readOne_21 ?_
  refine lv_eqi (y := nI (p)) (rfl) ?_
  refine lv_iconst (v := nI 1) E.1 E.2.1 dX4_readOne_24 (by decide) ?_
  refine lv_addN E.1 E.2.1 dX4_readOne_25 ?_
  refine pX4_11 E hw mw_29_1 dX4_readOne_26 (fun H locs hw => ?_)
  replace hw : HB G AA sS.heap (mN G a (N) (tX (nI (r)) (nI (p + 1)) (nI (0)) (upd (O) (3 * r) (nI (114))) x)) H locs := HB.eq hw (by rw [tX_4])
  refine lv_iload_n E.1 E.2.1 dX4_readOne_29 rfl (lv_at hl 0 rfl) ?_
  refine lv_tableIn (tgt := 158) E.1 E.2.1 dX4_readOne_30 (by decide) (by decide) rfl (by decide) ?_
  refine lv_aload_n E.1 E.2.1 dX4_readOne_158 rfl (lv_at hl 2 rfl) ?_
  refine gX4_9 E hw mw_3_15 dX4_readOne_159 ?_
  refine lv_iload_n E.1 E.2.1 dX4_readOne_162 rfl (lv_at hl 1 rfl) ?_
  refine lv_iconst (v := nI 1) E.1 E.2.1 dX4_readOne_163 (by decide) ?_
  refine lv_addN E.1 E.2.1 dX4_readOne_164 ?_
  refine lv_aload_n E.1 E.2.1 dX4_readOne_165 rfl (lv_at hl 2 rfl) ?_
  refine lv_iconst (v := nI 0) E.1 E.2.1 dX4_readOne_166 (by decide) ?_
  refine lv_iconst (v := nI 4) E.1 E.2.1 dX4_readOne_167 (by decide) ?_
  have q168 := hsl (p + 1)
  refine callVI E (c_X4_one_bad l G a N x C n hPd (r) (p + 1) (upd (O) (3 * r) (nI (114))) 0 4 (by omega) (by omega) (by omega)) mw_29_16 YX4_one ⟨rfl, rfl⟩ ⟨Nat.le_of_ble_eq_true rfl, Nat.le_of_ble_eq_true rfl⟩ ⟨Nat.zero_le _, Nat.zero_le _⟩ hw 0 rfl rfl rfl hl rfl (Nat.le_of_ble_eq_true rfl) dX4_readOne_168 (fun H locs hw => ?_)
  refine sX4_6 E hw (by omega) dX4_readOne_171 (fun H locs hw => ?_)
  replace hw : HB G AA sS.heap (mN G a (N) (tX (nI (r)) (nI (p + 1)) (nI (1)) (upd (upd (O) (3 * r) (nI (114))) (3 * r + 1) (nI (sg C n (p + 1)) - nI 48)) x)) H locs := HB.eq hw (tX_Oe)
  refine lv_goto (tgt := 230) E.1 E.2.1 dX4_readOne_172 (by decide) ?_
  refine lv_aload_n E.1 E.2.1 dX4_readOne_230 rfl (lv_at hl 2 rfl) ?_
  refine lv_dup E.1 E.2.1 dX4_readOne_231 rfl ?_
  refine gX4_10 E hw mw_29_2 dX4_readOne_232 ?_
  refine lv_eqi (y := nI (r)) (rfl) ?_
  refine lv_iconst (v := nI 1) E.1 E.2.1 dX4_readOne_235 (by decide) ?_
  refine lv_addN E.1 E.2.1 dX4_readOne_236 ?_
  refine pX4_10 E hw mw_29_2 dX4_readOne_237 (fun H locs hw => ?_)
  replace hw : HB G AA sS.heap (mN G a (N) (tX (nI (r + 1)) (nI (p + 1)) (nI (1)) (upd (upd (O) (3 * r) (nI (114))) (3 * r + 1) (nI (sg C n (p + 1)) - nI 48)) x)) H locs := HB.eq hw (by rw [tX_3])
  exact rV E hr hlk (HB.eq hw (rfl)) dX4_readOne_240
set_option maxHeartbeats 4000000 in
set_option maxRecDepth 100000 in
theorem c_X4_readOne_s120 (l : Launch) (G : GP) (a : Nat → Nat) (N : NS) (x : MX) (C : Nat → Nat) (n : Nat) (hPd : PadM x C n) (r p : Nat) (O : Nat → Int32) (hr : r < 60) (hp : p < 80) (hlet : sg C n p = 120) (h : 48 ≤ sg C n (p + 1) ∧ sg C n (p + 1) ≤ 52) : MV l yX4_readOne (.code yX4_readOne cX4_readOne 3 none :: GW) ({ frames := 4, cells := 0, slots := 0, locals := 110 }) [.ref (a 0)] G ES (mN G a (N) (tX (nI (r)) (nI (p)) (nI (0)) (O) x)) (mN G a (N) (tX (nI (r + 1)) (nI (p + 1 + 1)) (nI (0)) (upd (upd (O) (3 * r) (nI 120)) (3 * r + 1) (nI (sg C n (p + 1) - 48))) x)) := by
  refine MV.of (own := RX4) rfl rfl (Nat.le_of_ble_eq_true rfl) ?_
  intro pP eE sS mM below meth cC ls AA E hw hl hr hlk hE
  replace hl : lv_has ls 3 [(0, .ref (a 0))] := hl
  have hn6 := hPd.2.1
  have hsl := fun i => hPd.lt i
  refine lv_iconst (v := nI 3) E.1 E.2.1 dX4_readOne_0 (by decide) ?_
  refine lv_aload_n E.1 E.2.1 dX4_readOne_1 rfl (lv_at hl 0 rfl) ?_
  refine gX4_10 E hw mw_29_2 dX4_readOne_2 ?_
  refine lv_eqi (y := nI (r)) (rfl) ?_
  refine lv_mulN E.1 E.2.1 dX4_readOne_5 ?_
  refine lv_istore_n (lv' := [(1, .int (nI (3 * r))), (0, .ref (a 0))]) E.1 E.2.1 dX4_readOne_6 rfl hl (by decide) rfl (fun ls hl => ?_)
  refine lv_aload_n E.1 E.2.1 dX4_readOne_7 rfl (lv_at hl 1 rfl) ?_
  refine callVI E (c_X4_sign l G a (N) x C n hPd (r) (p) (nI (0)) (O) (by omega)) mw_29_8 YX4_sign ⟨rfl, rfl⟩ ⟨Nat.le_of_ble_eq_true rfl, Nat.le_of_ble_eq_true rfl⟩ ⟨Nat.zero_le _, Nat.zero_le _⟩ hw 0 rfl rfl rfl hl rfl (Nat.le_of_ble_eq_true rfl) dX4_readOne_8 (fun H locs hw => ?_)
  have q8 := hsl (p)
  refine lv_eqi (y := nI (120)) (by rw [hlet]) ?_
  refine lv_istore_n (lv' := [(2, .int (nI (120))), (1, .int (nI (3 * r))), (0, .ref (a 0))]) E.1 E.2.1 dX4_readOne_11 rfl hl (by decide) rfl (fun ls hl => ?_)
  refine lv_aload_n E.1 E.2.1 dX4_readOne_12 rfl (lv_at hl 2 rfl) ?_
  refine gX4_9 E hw mw_3_15 dX4_readOne_13 ?_
  refine lv_iload_n E.1 E.2.1 dX4_readOne_16 rfl (lv_at hl 1 rfl) ?_
  refine lv_iload_n E.1 E.2.1 dX4_readOne_17 rfl (lv_at hl 0 rfl) ?_
  refine sX4_6 E hw (by omega) dX4_readOne_18 (fun H locs hw => ?_)
  replace hw : HB G AA sS.heap (mN G a (N) (tX (nI (r)) (nI (p)) (nI (0)) (upd (O) (3 * r) (nI (120))) x)) H locs := HB.eq hw (tX_Oe)
  refine lv_aload_n E.1 E.2.1 dX4_readOne_19 rfl (lv_at hl 2 rfl) ?_
  refine lv_dup E.1 E.2.1 dX4_readOne_20 rfl ?_
  refine gX4_11 E hw mw_29_1 dX4_readOne_21 ?_
  refine lv_eqi (y := nI (p)) (rfl) ?_
  refine lv_iconst (v := nI 1) E.1 E.2.1 dX4_readOne_24 (by decide) ?_
  refine lv_addN E.1 E.2.1 dX4_readOne_25 ?_
  refine pX4_11 E hw mw_29_1 dX4_readOne_26 (fun H locs hw => ?_)
  replace hw : HB G AA sS.heap (mN G a (N) (tX (nI (r)) (nI (p + 1)) (nI (0)) (upd (O) (3 * r) (nI (120))) x)) H locs := HB.eq hw (by rw [tX_4])
  refine lv_iload_n E.1 E.2.1 dX4_readOne_29 rfl (lv_at hl 0 rfl) ?_
  refine lv_tableIn (tgt := 158) E.1 E.2.1 dX4_readOne_30 (by decide) (by decide) rfl (by decide) ?_
  refine lv_aload_n E.1 E.2.1 dX4_readOne_158 rfl (lv_at hl 2 rfl) ?_
  refine gX4_9 E hw mw_3_15 dX4_readOne_159 ?_
  refine lv_iload_n E.1 E.2.1 dX4_readOne_162 rfl (lv_at hl 1 rfl) ?_
  refine lv_iconst (v := nI 1) E.1 E.2.1 dX4_readOne_163 (by decide) ?_
  refine lv_addN E.1 E.2.1 dX4_readOne_164 ?_
  refine lv_aload_n E.1 E.2.1 dX4_readOne_165 rfl (lv_at hl 2 rfl) ?_
  refine lv_iconst (v := nI 0) E.1 E.2.1 dX4_readOne_166 (by decide) ?_
  refine lv_iconst (v := nI 4) E.1 E.2.1 dX4_readOne_167 (by decide) ?_
  have q168 := hsl (p + 1)
  refine callVI E (c_X4_one_ok l G a N x C n hPd (r) (p + 1) (upd (O) (3 * r) (nI (120))) 0 4 (by omega) (by omega) (by omega)) mw_29_16 YX4_one ⟨rfl, rfl⟩ ⟨Nat.le_of_ble_eq_true rfl, Nat.le_of_ble_eq_true rfl⟩ ⟨Nat.zero_le _, Nat.zero_le _⟩ hw 0 rfl rfl rfl hl rfl (Nat.le_of_ble_eq_true rfl) dX4_readOne_168 (fun H locs hw => ?_)
  refine sX4_6 E hw (by omega) dX4_readOne_171 (fun H locs hw => ?_)
  replace hw : HB G AA sS.heap (mN G a (N) (tX (nI (r)) (nI (p + 1 + 1)) (nI (0)) (upd (upd (O) (3 * r) (nI (120))) (3 * r + 1) (nI (sg C n (p + 1) - 48))) x)) H locs := HB.eq hw (tX_Oe)
  refine lv_goto (tgt := 230) E.1 E.2.1 dX4_readOne_172 (by decide) ?_
  refine lv_aload_n E.1 E.2.1 dX4_readOne_230 rfl (lv_at hl 2 rfl) ?_
  refine lv_dup E.1 E.2.1 dX4_readOne_231 rfl ?_
  refine gX4_10 E hw mw_29_2 dX4_readOne_232 ?_
  refine lv_eqi (y := nI (r)) (rfl) ?_
  refine lv_iconst (v := nI 1) E.1 E.2.1 dX4_readOne_235 (by decide) ?_
  refine lv_addN E.1 E.2.1 dX4_readOne_236 ?_
  refine pX4_10 E hw mw_29_2 dX4_readOne_237 (fun H locs hw => ?_)
  replace hw : HB G AA sS.heap (mN G a (N) (tX (nI (r + 1)) (nI (p + 1 + 1)) (nI (0)) (upd (upd (O) (3 * r) (nI (120))) (3 * r + 1) (nI (sg C n (p + 1) - 48))) x)) H locs := HB.eq hw (by rw [tX_3])
  exact rV E hr hlk (HB.eq hw (rfl)) dX4_readOne_240
set_option maxHeartbeats 4000000 in
set_option maxRecDepth 100000 in
theorem c_X4_readOne_sb120 (l : Launch) (G : GP) (a : Nat → Nat) (N : NS) (x : MX) (C : Nat → Nat) (n : Nat) (hPd : PadM x C n) (r p : Nat) (O : Nat → Int32) (hr : r < 60) (hp : p < 80) (hlet : sg C n p = 120) (h : ¬ (48 ≤ sg C n (p + 1) ∧ sg C n (p + 1) ≤ 52)) : MV l yX4_readOne (.code yX4_readOne cX4_readOne 3 none :: GW) ({ frames := 4, cells := 0, slots := 0, locals := 110 }) [.ref (a 0)] G ES (mN G a (N) (tX (nI (r)) (nI (p)) (nI (0)) (O) x)) (mN G a (N) (tX (nI (r + 1)) (nI (p + 1)) (nI (1)) (upd (upd (O) (3 * r) (nI 120)) (3 * r + 1) (nI (sg C n (p + 1)) - nI 48)) x)) := by
  refine MV.of (own := RX4) rfl rfl (Nat.le_of_ble_eq_true rfl) ?_
  intro pP eE sS mM below meth cC ls AA E hw hl hr hlk hE
  replace hl : lv_has ls 3 [(0, .ref (a 0))] := hl
  have hn6 := hPd.2.1
  have hsl := fun i => hPd.lt i
  refine lv_iconst (v := nI 3) E.1 E.2.1 dX4_readOne_0 (by decide) ?_
  refine lv_aload_n E.1 E.2.1 dX4_readOne_1 rfl (lv_at hl 0 rfl) ?_
  refine gX4_10 E hw mw_29_2 dX4_readOne_2 ?_
  refine lv_eqi (y := nI (r)) (rfl) ?_
  refine lv_mulN E.1 E.2.1 dX4_readOne_5 ?_
  refine lv_istore_n (lv' := [(1, .int (nI (3 * r))), (0, .ref (a 0))]) E.1 E.2.1 dX4_readOne_6 rfl hl (by decide) rfl (fun ls hl => ?_)
  refine lv_aload_n E.1 E.2.1 dX4_readOne_7 rfl (lv_at hl 1 rfl) ?_
  refine callVI E (c_X4_sign l G a (N) x C n hPd (r) (p) (nI (0)) (O) (by omega)) mw_29_8 YX4_sign ⟨rfl, rfl⟩ ⟨Nat.le_of_ble_eq_true rfl, Nat.le_of_ble_eq_true rfl⟩ ⟨Nat.zero_le _, Nat.zero_le _⟩ hw 0 rfl rfl rfl hl rfl (Nat.le_of_ble_eq_true rfl) dX4_readOne_8 (fun H locs hw => ?_)
  have q8 := hsl (p)
  refine lv_eqi (y := nI (120)) (by rw [hlet]) ?_
  refine lv_istore_n (lv' := [(2, .int (nI (120))), (1, .int (nI (3 * r))), (0, .ref (a 0))]) E.1 E.2.1 dX4_readOne_11 rfl hl (by decide) rfl (fun ls hl => ?_)
  refine lv_aload_n E.1 E.2.1 dX4_readOne_12 rfl (lv_at hl 2 rfl) ?_
  refine gX4_9 E hw mw_3_15 dX4_readOne_13 ?_
  refine lv_iload_n E.1 E.2.1 dX4_readOne_16 rfl (lv_at hl 1 rfl) ?_
  refine lv_iload_n E.1 E.2.1 dX4_readOne_17 rfl (lv_at hl 0 rfl) ?_
  refine sX4_6 E hw (by omega) dX4_readOne_18 (fun H locs hw => ?_)
  replace hw : HB G AA sS.heap (mN G a (N) (tX (nI (r)) (nI (p)) (nI (0)) (upd (O) (3 * r) (nI (120))) x)) H locs := HB.eq hw (tX_Oe)
  refine lv_aload_n E.1 E.2.1 dX4_readOne_19 rfl (lv_at hl 2 rfl) ?_
  refine lv_dup E.1 E.2.1 dX4_readOne_20 rfl ?_
  refine gX4_11 E hw mw_29_1 dX4_readOne_21 ?_
  refine lv_eqi (y := nI (p)) (rfl) ?_
  refine lv_iconst (v := nI 1) E.1 E.2.1 dX4_readOne_24 (by decide) ?_
  refine lv_addN E.1 E.2.1 dX4_readOne_25 ?_
  refine pX4_11 E hw mw_29_1 dX4_readOne_26 (fun H locs hw => ?_)
  replace hw : HB G AA sS.heap (mN G a (N) (tX (nI (r)) (nI (p + 1)) (nI (0)) (upd (O) (3 * r) (nI (120))) x)) H locs := HB.eq hw (by rw [tX_4])
  refine lv_iload_n E.1 E.2.1 dX4_readOne_29 rfl (lv_at hl 0 rfl) ?_
  refine lv_tableIn (tgt := 158) E.1 E.2.1 dX4_readOne_30 (by decide) (by decide) rfl (by decide) ?_
  refine lv_aload_n E.1 E.2.1 dX4_readOne_158 rfl (lv_at hl 2 rfl) ?_
  refine gX4_9 E hw mw_3_15 dX4_readOne_159 ?_
  refine lv_iload_n E.1 E.2.1 dX4_readOne_162 rfl (lv_at hl 1 rfl) ?_
  refine lv_iconst (v := nI 1) E.1 E.2.1 dX4_readOne_163 (by decide) ?_
  refine lv_addN E.1 E.2.1 dX4_readOne_164 ?_
  refine lv_aload_n E.1 E.2.1 dX4_readOne_165 rfl (lv_at hl 2 rfl) ?_
  refine lv_iconst (v := nI 0) E.1 E.2.1 dX4_readOne_166 (by decide) ?_
  refine lv_iconst (v := nI 4) E.1 E.2.1 dX4_readOne_167 (by decide) ?_
  have q168 := hsl (p + 1)
  refine callVI E (c_X4_one_bad l G a N x C n hPd (r) (p + 1) (upd (O) (3 * r) (nI (120))) 0 4 (by omega) (by omega) (by omega)) mw_29_16 YX4_one ⟨rfl, rfl⟩ ⟨Nat.le_of_ble_eq_true rfl, Nat.le_of_ble_eq_true rfl⟩ ⟨Nat.zero_le _, Nat.zero_le _⟩ hw 0 rfl rfl rfl hl rfl (Nat.le_of_ble_eq_true rfl) dX4_readOne_168 (fun H locs hw => ?_)
  refine sX4_6 E hw (by omega) dX4_readOne_171 (fun H locs hw => ?_)
  replace hw : HB G AA sS.heap (mN G a (N) (tX (nI (r)) (nI (p + 1)) (nI (1)) (upd (upd (O) (3 * r) (nI (120))) (3 * r + 1) (nI (sg C n (p + 1)) - nI 48)) x)) H locs := HB.eq hw (tX_Oe)
  refine lv_goto (tgt := 230) E.1 E.2.1 dX4_readOne_172 (by decide) ?_
  refine lv_aload_n E.1 E.2.1 dX4_readOne_230 rfl (lv_at hl 2 rfl) ?_
  refine lv_dup E.1 E.2.1 dX4_readOne_231 rfl ?_
  refine gX4_10 E hw mw_29_2 dX4_readOne_232 ?_
  refine lv_eqi (y := nI (r)) (rfl) ?_
  refine lv_iconst (v := nI 1) E.1 E.2.1 dX4_readOne_235 (by decide) ?_
  refine lv_addN E.1 E.2.1 dX4_readOne_236 ?_
  refine pX4_10 E hw mw_29_2 dX4_readOne_237 (fun H locs hw => ?_)
  replace hw : HB G AA sS.heap (mN G a (N) (tX (nI (r + 1)) (nI (p + 1)) (nI (1)) (upd (upd (O) (3 * r) (nI (120))) (3 * r + 1) (nI (sg C n (p + 1)) - nI 48)) x)) H locs := HB.eq hw (by rw [tX_3])
  exact rV E hr hlk (HB.eq hw (rfl)) dX4_readOne_240
set_option maxHeartbeats 4000000 in
set_option maxRecDepth 100000 in
theorem c_X4_readOne_o (l : Launch) (G : GP) (a : Nat → Nat) (N : NS) (x : MX) (C : Nat → Nat) (n : Nat) (hPd : PadM x C n) (r p : Nat) (O : Nat → Int32) (hr : r < 60) (hp : p < 80) (hlet : sg C n p = 111) (h : 48 ≤ sg C n (p + 1) ∧ sg C n (p + 1) ≤ 51) : MV l yX4_readOne (.code yX4_readOne cX4_readOne 3 none :: GW) ({ frames := 4, cells := 0, slots := 0, locals := 110 }) [.ref (a 0)] G ES (mN G a (N) (tX (nI (r)) (nI (p)) (nI (0)) (O) x)) (mN G a (N) (tX (nI (r + 1)) (nI ((cmu C n 4 (p + 1 + 1) (sg C n (p + 1) - 48) (2 ^ (sg C n (p + 1) - 48))).1)) (nI (0)) (upd (upd (O) (3 * r) (nI 111)) (3 * r + 1) (nI (cmu C n 4 (p + 1 + 1) (sg C n (p + 1) - 48) (2 ^ (sg C n (p + 1) - 48))).2)) x)) := by
  refine MV.of (own := RX4) rfl rfl (Nat.le_of_ble_eq_true rfl) ?_
  intro pP eE sS mM below meth cC ls AA E hw hl hr hlk hE
  replace hl : lv_has ls 3 [(0, .ref (a 0))] := hl
  have hn6 := hPd.2.1
  have hsl := fun i => hPd.lt i
  refine lv_iconst (v := nI 3) E.1 E.2.1 dX4_readOne_0 (by decide) ?_
  refine lv_aload_n E.1 E.2.1 dX4_readOne_1 rfl (lv_at hl 0 rfl) ?_
  refine gX4_10 E hw mw_29_2 dX4_readOne_2 ?_
  refine lv_eqi (y := nI (r)) (rfl) ?_
  refine lv_mulN E.1 E.2.1 dX4_readOne_5 ?_
  refine lv_istore_n (lv' := [(1, .int (nI (3 * r))), (0, .ref (a 0))]) E.1 E.2.1 dX4_readOne_6 rfl hl (by decide) rfl (fun ls hl => ?_)
  refine lv_aload_n E.1 E.2.1 dX4_readOne_7 rfl (lv_at hl 1 rfl) ?_
  refine callVI E (c_X4_sign l G a (N) x C n hPd (r) (p) (nI (0)) (O) (by omega)) mw_29_8 YX4_sign ⟨rfl, rfl⟩ ⟨Nat.le_of_ble_eq_true rfl, Nat.le_of_ble_eq_true rfl⟩ ⟨Nat.zero_le _, Nat.zero_le _⟩ hw 0 rfl rfl rfl hl rfl (Nat.le_of_ble_eq_true rfl) dX4_readOne_8 (fun H locs hw => ?_)
  have q8 := hsl (p)
  refine lv_eqi (y := nI (111)) (by rw [hlet]) ?_
  refine lv_istore_n (lv' := [(2, .int (nI (111))), (1, .int (nI (3 * r))), (0, .ref (a 0))]) E.1 E.2.1 dX4_readOne_11 rfl hl (by decide) rfl (fun ls hl => ?_)
  refine lv_aload_n E.1 E.2.1 dX4_readOne_12 rfl (lv_at hl 2 rfl) ?_
  refine gX4_9 E hw mw_3_15 dX4_readOne_13 ?_
  refine lv_iload_n E.1 E.2.1 dX4_readOne_16 rfl (lv_at hl 1 rfl) ?_
  refine lv_iload_n E.1 E.2.1 dX4_readOne_17 rfl (lv_at hl 0 rfl) ?_
  refine sX4_6 E hw (by omega) dX4_readOne_18 (fun H locs hw => ?_)
  replace hw : HB G AA sS.heap (mN G a (N) (tX (nI (r)) (nI (p)) (nI (0)) (upd (O) (3 * r) (nI (111))) x)) H locs := HB.eq hw (tX_Oe)
  refine lv_aload_n E.1 E.2.1 dX4_readOne_19 rfl (lv_at hl 2 rfl) ?_
  refine lv_dup E.1 E.2.1 dX4_readOne_20 rfl ?_
  refine gX4_11 E hw mw_29_1 dX4_readOne_21 ?_
  refine lv_eqi (y := nI (p)) (rfl) ?_
  refine lv_iconst (v := nI 1) E.1 E.2.1 dX4_readOne_24 (by decide) ?_
  refine lv_addN E.1 E.2.1 dX4_readOne_25 ?_
  refine pX4_11 E hw mw_29_1 dX4_readOne_26 (fun H locs hw => ?_)
  replace hw : HB G AA sS.heap (mN G a (N) (tX (nI (r)) (nI (p + 1)) (nI (0)) (upd (O) (3 * r) (nI (111))) x)) H locs := HB.eq hw (by rw [tX_4])
  refine lv_iload_n E.1 E.2.1 dX4_readOne_29 rfl (lv_at hl 0 rfl) ?_
  refine lv_tableIn (tgt := 128) E.1 E.2.1 dX4_readOne_30 (by decide) (by decide) rfl (by decide) ?_
  refine lv_aload_n E.1 E.2.1 dX4_readOne_128 rfl (lv_at hl 2 rfl) ?_
  refine gX4_9 E hw mw_3_15 dX4_readOne_129 ?_
  refine lv_iload_n E.1 E.2.1 dX4_readOne_132 rfl (lv_at hl 1 rfl) ?_
  refine lv_iconst (v := nI 1) E.1 E.2.1 dX4_readOne_133 (by decide) ?_
  refine lv_addN E.1 E.2.1 dX4_readOne_134 ?_
  refine lv_aload_n E.1 E.2.1 dX4_readOne_135 rfl (lv_at hl 2 rfl) ?_
  refine callVI E (c_X4_clerks_ok l G a N x C n hPd (r) (p + 1) (upd (O) (3 * r) (nI (111))) (by omega) (by omega)) mw_29_12 YX4_clerks ⟨rfl, rfl⟩ ⟨Nat.le_of_ble_eq_true rfl, Nat.le_of_ble_eq_true rfl⟩ ⟨Nat.zero_le _, Nat.zero_le _⟩ hw 0 rfl rfl rfl hl rfl (Nat.le_of_ble_eq_true rfl) dX4_readOne_136 (fun H locs hw => ?_)
  refine sX4_6 E hw (by omega) dX4_readOne_139 (fun H locs hw => ?_)
  replace hw : HB G AA sS.heap (mN G a (N) (tX (nI (r)) (nI ((cmu C n 4 (p + 1 + 1) (sg C n (p + 1) - 48) (2 ^ (sg C n (p + 1) - 48))).1)) (nI (0)) (upd (upd (O) (3 * r) (nI (111))) (3 * r + 1) (nI ((cmu C n 4 (p + 1 + 1) (sg C n (p + 1) - 48) (2 ^ (sg C n (p + 1) - 48))).2))) x)) H locs := HB.eq hw (tX_Oe)
  refine lv_goto (tgt := 230) E.1 E.2.1 dX4_readOne_140 (by decide) ?_
  refine lv_aload_n E.1 E.2.1 dX4_readOne_230 rfl (lv_at hl 2 rfl) ?_
  refine lv_dup E.1 E.2.1 dX4_readOne_231 rfl ?_
  refine gX4_10 E hw mw_29_2 dX4_readOne_232 ?_
  refine lv_eqi (y := nI (r)) (rfl) ?_
  refine lv_iconst (v := nI 1) E.1 E.2.1 dX4_readOne_235 (by decide) ?_
  refine lv_addN E.1 E.2.1 dX4_readOne_236 ?_
  refine pX4_10 E hw mw_29_2 dX4_readOne_237 (fun H locs hw => ?_)
  replace hw : HB G AA sS.heap (mN G a (N) (tX (nI (r + 1)) (nI ((cmu C n 4 (p + 1 + 1) (sg C n (p + 1) - 48) (2 ^ (sg C n (p + 1) - 48))).1)) (nI (0)) (upd (upd (O) (3 * r) (nI (111))) (3 * r + 1) (nI ((cmu C n 4 (p + 1 + 1) (sg C n (p + 1) - 48) (2 ^ (sg C n (p + 1) - 48))).2))) x)) H locs := HB.eq hw (by rw [tX_3])
  exact rV E hr hlk (HB.eq hw (rfl)) dX4_readOne_240
set_option maxHeartbeats 4000000 in
set_option maxRecDepth 100000 in
theorem c_X4_readOne_ob (l : Launch) (G : GP) (a : Nat → Nat) (N : NS) (x : MX) (C : Nat → Nat) (n : Nat) (hPd : PadM x C n) (r p : Nat) (O : Nat → Int32) (hr : r < 60) (hp : p < 80) (hlet : sg C n p = 111) (h : ¬ (48 ≤ sg C n (p + 1) ∧ sg C n (p + 1) ≤ 51)) : MV l yX4_readOne (.code yX4_readOne cX4_readOne 3 none :: GW) ({ frames := 4, cells := 0, slots := 0, locals := 110 }) [.ref (a 0)] G ES (mN G a (N) (tX (nI (r)) (nI (p)) (nI (0)) (O) x)) (mN G a (N) (tX (nI (r + 1)) (nI (p + 1)) (nI (1)) (upd (upd (O) (3 * r) (nI 111)) (3 * r + 1) (nI 0)) x)) := by
  refine MV.of (own := RX4) rfl rfl (Nat.le_of_ble_eq_true rfl) ?_
  intro pP eE sS mM below meth cC ls AA E hw hl hr hlk hE
  replace hl : lv_has ls 3 [(0, .ref (a 0))] := hl
  have hn6 := hPd.2.1
  have hsl := fun i => hPd.lt i
  refine lv_iconst (v := nI 3) E.1 E.2.1 dX4_readOne_0 (by decide) ?_
  refine lv_aload_n E.1 E.2.1 dX4_readOne_1 rfl (lv_at hl 0 rfl) ?_
  refine gX4_10 E hw mw_29_2 dX4_readOne_2 ?_
  refine lv_eqi (y := nI (r)) (rfl) ?_
  refine lv_mulN E.1 E.2.1 dX4_readOne_5 ?_
  refine lv_istore_n (lv' := [(1, .int (nI (3 * r))), (0, .ref (a 0))]) E.1 E.2.1 dX4_readOne_6 rfl hl (by decide) rfl (fun ls hl => ?_)
  refine lv_aload_n E.1 E.2.1 dX4_readOne_7 rfl (lv_at hl 1 rfl) ?_
  refine callVI E (c_X4_sign l G a (N) x C n hPd (r) (p) (nI (0)) (O) (by omega)) mw_29_8 YX4_sign ⟨rfl, rfl⟩ ⟨Nat.le_of_ble_eq_true rfl, Nat.le_of_ble_eq_true rfl⟩ ⟨Nat.zero_le _, Nat.zero_le _⟩ hw 0 rfl rfl rfl hl rfl (Nat.le_of_ble_eq_true rfl) dX4_readOne_8 (fun H locs hw => ?_)
  have q8 := hsl (p)
  refine lv_eqi (y := nI (111)) (by rw [hlet]) ?_
  refine lv_istore_n (lv' := [(2, .int (nI (111))), (1, .int (nI (3 * r))), (0, .ref (a 0))]) E.1 E.2.1 dX4_readOne_11 rfl hl (by decide) rfl (fun ls hl => ?_)
  refine lv_aload_n E.1 E.2.1 dX4_readOne_12 rfl (lv_at hl 2 rfl) ?_
  refine gX4_9 E hw mw_3_15 dX4_readOne_13 ?_
  refine lv_iload_n E.1 E.2.1 dX4_readOne_16 rfl (lv_at hl 1 rfl) ?_
  refine lv_iload_n E.1 E.2.1 dX4_readOne_17 rfl (lv_at hl 0 rfl) ?_
  refine sX4_6 E hw (by omega) dX4_readOne_18 (fun H locs hw => ?_)
  replace hw : HB G AA sS.heap (mN G a (N) (tX (nI (r)) (nI (p)) (nI (0)) (upd (O) (3 * r) (nI (111))) x)) H locs := HB.eq hw (tX_Oe)
  refine lv_aload_n E.1 E.2.1 dX4_readOne_19 rfl (lv_at hl 2 rfl) ?_
  refine lv_dup E.1 E.2.1 dX4_readOne_20 rfl ?_
  refine gX4_11 E hw mw_29_1 dX4_readOne_21 ?_
  refine lv_eqi (y := nI (p)) (rfl) ?_
  refine lv_iconst (v := nI 1) E.1 E.2.1 dX4_readOne_24 (by decide) ?_
  refine lv_addN E.1 E.2.1 dX4_readOne_25 ?_
  refine pX4_11 E hw mw_29_1 dX4_readOne_26 (fun H locs hw => ?_)
  replace hw : HB G AA sS.heap (mN G a (N) (tX (nI (r)) (nI (p + 1)) (nI (0)) (upd (O) (3 * r) (nI (111))) x)) H locs := HB.eq hw (by rw [tX_4])
  refine lv_iload_n E.1 E.2.1 dX4_readOne_29 rfl (lv_at hl 0 rfl) ?_
  refine lv_tableIn (tgt := 128) E.1 E.2.1 dX4_readOne_30 (by decide) (by decide) rfl (by decide) ?_
  refine lv_aload_n E.1 E.2.1 dX4_readOne_128 rfl (lv_at hl 2 rfl) ?_
  refine gX4_9 E hw mw_3_15 dX4_readOne_129 ?_
  refine lv_iload_n E.1 E.2.1 dX4_readOne_132 rfl (lv_at hl 1 rfl) ?_
  refine lv_iconst (v := nI 1) E.1 E.2.1 dX4_readOne_133 (by decide) ?_
  refine lv_addN E.1 E.2.1 dX4_readOne_134 ?_
  refine lv_aload_n E.1 E.2.1 dX4_readOne_135 rfl (lv_at hl 2 rfl) ?_
  refine callVI E (c_X4_clerks_bad l G a N x C n hPd (r) (p + 1) (upd (O) (3 * r) (nI (111))) (by omega) (by omega)) mw_29_12 YX4_clerks ⟨rfl, rfl⟩ ⟨Nat.le_of_ble_eq_true rfl, Nat.le_of_ble_eq_true rfl⟩ ⟨Nat.zero_le _, Nat.zero_le _⟩ hw 0 rfl rfl rfl hl rfl (Nat.le_of_ble_eq_true rfl) dX4_readOne_136 (fun H locs hw => ?_)
  refine sX4_6 E hw (by omega) dX4_readOne_139 (fun H locs hw => ?_)
  replace hw : HB G AA sS.heap (mN G a (N) (tX (nI (r)) (nI (p + 1)) (nI (1)) (upd (upd (O) (3 * r) (nI (111))) (3 * r + 1) (nI (0))) x)) H locs := HB.eq hw (tX_Oe)
  refine lv_goto (tgt := 230) E.1 E.2.1 dX4_readOne_140 (by decide) ?_
  refine lv_aload_n E.1 E.2.1 dX4_readOne_230 rfl (lv_at hl 2 rfl) ?_
  refine lv_dup E.1 E.2.1 dX4_readOne_231 rfl ?_
  refine gX4_10 E hw mw_29_2 dX4_readOne_232 ?_
  refine lv_eqi (y := nI (r)) (rfl) ?_
  refine lv_iconst (v := nI 1) E.1 E.2.1 dX4_readOne_235 (by decide) ?_
  refine lv_addN E.1 E.2.1 dX4_readOne_236 ?_
  refine pX4_10 E hw mw_29_2 dX4_readOne_237 (fun H locs hw => ?_)
  replace hw : HB G AA sS.heap (mN G a (N) (tX (nI (r + 1)) (nI (p + 1)) (nI (1)) (upd (upd (O) (3 * r) (nI (111))) (3 * r + 1) (nI (0))) x)) H locs := HB.eq hw (by rw [tX_3])
  exact rV E hr hlk (HB.eq hw (rfl)) dX4_readOne_240
set_option maxHeartbeats 4000000 in
set_option maxRecDepth 100000 in
theorem c_X4_readOne_wb (l : Launch) (G : GP) (a : Nat → Nat) (N : NS) (x : MX) (C : Nat → Nat) (n : Nat) (hPd : PadM x C n) (r p : Nat) (O : Nat → Int32) (hr : r < 60) (hp : p < 80) (hlet : sg C n p = 119) (h : ¬ (48 ≤ sg C n (p + 1) ∧ sg C n (p + 1) ≤ 51)) : MV l yX4_readOne (.code yX4_readOne cX4_readOne 3 none :: GW) ({ frames := 4, cells := 0, slots := 0, locals := 110 }) [.ref (a 0)] G ES (mN G a (N) (tX (nI (r)) (nI (p)) (nI (0)) (O) x)) (mN G a (N) (tX (nI (r + 1)) (nI (p + 1)) (nI (1)) (upd (upd (upd (O) (3 * r) (nI 119)) (3 * r + 1) (nI (sg C n (p + 1)) - nI 48)) (3 * r + 2) (nI 0)) x)) := by
  refine MV.of (own := RX4) rfl rfl (Nat.le_of_ble_eq_true rfl) ?_
  intro pP eE sS mM below meth cC ls AA E hw hl hr hlk hE
  replace hl : lv_has ls 3 [(0, .ref (a 0))] := hl
  have hn6 := hPd.2.1
  have hsl := fun i => hPd.lt i
  refine lv_iconst (v := nI 3) E.1 E.2.1 dX4_readOne_0 (by decide) ?_
  refine lv_aload_n E.1 E.2.1 dX4_readOne_1 rfl (lv_at hl 0 rfl) ?_
  refine gX4_10 E hw mw_29_2 dX4_readOne_2 ?_
  refine lv_eqi (y := nI (r)) (rfl) ?_
  refine lv_mulN E.1 E.2.1 dX4_readOne_5 ?_
  refine lv_istore_n (lv' := [(1, .int (nI (3 * r))), (0, .ref (a 0))]) E.1 E.2.1 dX4_readOne_6 rfl hl (by decide) rfl (fun ls hl => ?_)
  refine lv_aload_n E.1 E.2.1 dX4_readOne_7 rfl (lv_at hl 1 rfl) ?_
  refine callVI E (c_X4_sign l G a (N) x C n hPd (r) (p) (nI (0)) (O) (by omega)) mw_29_8 YX4_sign ⟨rfl, rfl⟩ ⟨Nat.le_of_ble_eq_true rfl, Nat.le_of_ble_eq_true rfl⟩ ⟨Nat.zero_le _, Nat.zero_le _⟩ hw 0 rfl rfl rfl hl rfl (Nat.le_of_ble_eq_true rfl) dX4_readOne_8 (fun H locs hw => ?_)
  have q8 := hsl (p)
  refine lv_eqi (y := nI (119)) (by rw [hlet]) ?_
  refine lv_istore_n (lv' := [(2, .int (nI (119))), (1, .int (nI (3 * r))), (0, .ref (a 0))]) E.1 E.2.1 dX4_readOne_11 rfl hl (by decide) rfl (fun ls hl => ?_)
  refine lv_aload_n E.1 E.2.1 dX4_readOne_12 rfl (lv_at hl 2 rfl) ?_
  refine gX4_9 E hw mw_3_15 dX4_readOne_13 ?_
  refine lv_iload_n E.1 E.2.1 dX4_readOne_16 rfl (lv_at hl 1 rfl) ?_
  refine lv_iload_n E.1 E.2.1 dX4_readOne_17 rfl (lv_at hl 0 rfl) ?_
  refine sX4_6 E hw (by omega) dX4_readOne_18 (fun H locs hw => ?_)
  replace hw : HB G AA sS.heap (mN G a (N) (tX (nI (r)) (nI (p)) (nI (0)) (upd (O) (3 * r) (nI (119))) x)) H locs := HB.eq hw (tX_Oe)
  refine lv_aload_n E.1 E.2.1 dX4_readOne_19 rfl (lv_at hl 2 rfl) ?_
  refine lv_dup E.1 E.2.1 dX4_readOne_20 rfl ?_
  refine gX4_11 E hw mw_29_1 dX4_readOne_21 ?_
  refine lv_eqi (y := nI (p)) (rfl) ?_
  refine lv_iconst (v := nI 1) E.1 E.2.1 dX4_readOne_24 (by decide) ?_
  refine lv_addN E.1 E.2.1 dX4_readOne_25 ?_
  refine pX4_11 E hw mw_29_1 dX4_readOne_26 (fun H locs hw => ?_)
  replace hw : HB G AA sS.heap (mN G a (N) (tX (nI (r)) (nI (p + 1)) (nI (0)) (upd (O) (3 * r) (nI (119))) x)) H locs := HB.eq hw (by rw [tX_4])
  refine lv_iload_n E.1 E.2.1 dX4_readOne_29 rfl (lv_at hl 0 rfl) ?_
  refine lv_tableIn (tgt := 175) E.1 E.2.1 dX4_readOne_30 (by decide) (by decide) rfl (by decide) ?_
  refine lv_aload_n E.1 E.2.1 dX4_readOne_175 rfl (lv_at hl 2 rfl) ?_
  refine gX4_9 E hw mw_3_15 dX4_readOne_176 ?_
  refine lv_iload_n E.1 E.2.1 dX4_readOne_179 rfl (lv_at hl 1 rfl) ?_
  refine lv_iconst (v := nI 1) E.1 E.2.1 dX4_readOne_180 (by decide) ?_
  refine lv_addN E.1 E.2.1 dX4_readOne_181 ?_
  refine lv_aload_n E.1 E.2.1 dX4_readOne_182 rfl (lv_at hl 2 rfl) ?_
  refine lv_iconst (v := nI 0) E.1 E.2.1 dX4_readOne_183 (by decide) ?_
  refine lv_iconst (v := nI 3) E.1 E.2.1 dX4_readOne_184 (by decide) ?_
  have q185 := hsl (p + 1)
  refine callVI E (c_X4_one_bad l G a N x C n hPd (r) (p + 1) (upd (O) (3 * r) (nI (119))) 0 3 (by omega) (by omega) (by omega)) mw_29_16 YX4_one ⟨rfl, rfl⟩ ⟨Nat.le_of_ble_eq_true rfl, Nat.le_of_ble_eq_true rfl⟩ ⟨Nat.zero_le _, Nat.zero_le _⟩ hw 0 rfl rfl rfl hl rfl (Nat.le_of_ble_eq_true rfl) dX4_readOne_185 (fun H locs hw => ?_)
  refine sX4_6 E hw (by omega) dX4_readOne_188 (fun H locs hw => ?_)
  replace hw : HB G AA sS.heap (mN G a (N) (tX (nI (r)) (nI (p + 1)) (nI (1)) (upd (upd (O) (3 * r) (nI (119))) (3 * r + 1) (nI (sg C n (p + 1)) - nI 48)) x)) H locs := HB.eq hw (tX_Oe)
  refine lv_aload_n E.1 E.2.1 dX4_readOne_189 rfl (lv_at hl 2 rfl) ?_
  refine gX4_9 E hw mw_3_15 dX4_readOne_190 ?_
  refine lv_iload_n E.1 E.2.1 dX4_readOne_193 rfl (lv_at hl 1 rfl) ?_
  refine lv_iconst (v := nI 2) E.1 E.2.1 dX4_readOne_194 (by decide) ?_
  refine lv_addN E.1 E.2.1 dX4_readOne_195 ?_
  refine lv_aload_n E.1 E.2.1 dX4_readOne_196 rfl (lv_at hl 2 rfl) ?_
  refine gX4_12 E hw mw_29_3 dX4_readOne_197 ?_
  refine lv_eqi (y := nI (1)) (rfl) ?_
  refine lv_if_eqN (tgt := 207) E.1 E.2.1 (by omega) dX4_readOne_200 (by decide) (fun c200 => ?_) (fun c200 => ?_)
  · exact absurd c200 (by decide)
  · skip
    refine lv_iconst (v := nI 0) E.1 E.2.1 dX4_readOne_203 (by decide) ?_
    refine lv_goto (tgt := 211) E.1 E.2.1 dX4_readOne_204 (by decide) ?_
    refine sX4_6 E hw (by omega) dX4_readOne_211 (fun H locs hw => ?_)
    replace hw : HB G AA sS.heap (mN G a (N) (tX (nI (r)) (nI (p + 1)) (nI (1)) (upd (upd (upd (O) (3 * r) (nI (119))) (3 * r + 1) (nI (sg C n (p + 1)) - nI 48)) (3 * r + 2) (nI (0))) x)) H locs := HB.eq hw (tX_Oe)
    refine lv_goto (tgt := 230) E.1 E.2.1 dX4_readOne_212 (by decide) ?_
    refine lv_aload_n E.1 E.2.1 dX4_readOne_230 rfl (lv_at hl 2 rfl) ?_
    refine lv_dup E.1 E.2.1 dX4_readOne_231 rfl ?_
    refine gX4_10 E hw mw_29_2 dX4_readOne_232 ?_
    refine lv_eqi (y := nI (r)) (rfl) ?_
    refine lv_iconst (v := nI 1) E.1 E.2.1 dX4_readOne_235 (by decide) ?_
    refine lv_addN E.1 E.2.1 dX4_readOne_236 ?_
    refine pX4_10 E hw mw_29_2 dX4_readOne_237 (fun H locs hw => ?_)
    replace hw : HB G AA sS.heap (mN G a (N) (tX (nI (r + 1)) (nI (p + 1)) (nI (1)) (upd (upd (upd (O) (3 * r) (nI (119))) (3 * r + 1) (nI (sg C n (p + 1)) - nI 48)) (3 * r + 2) (nI (0))) x)) H locs := HB.eq hw (by rw [tX_3])
    exact rV E hr hlk (HB.eq hw (rfl)) dX4_readOne_240
set_option maxHeartbeats 4000000 in
set_option maxRecDepth 100000 in
theorem c_X4_readOne_wy (l : Launch) (G : GP) (a : Nat → Nat) (N : NS) (x : MX) (C : Nat → Nat) (n : Nat) (hPd : PadM x C n) (r p : Nat) (O : Nat → Int32) (hr : r < 60) (hp : p < 80) (hlet : sg C n p = 119) (h : 48 ≤ sg C n (p + 1) ∧ sg C n (p + 1) ≤ 51) (h2 : sg C n (p + 1 + 1) = 43) : MV l yX4_readOne (.code yX4_readOne cX4_readOne 3 none :: GW) ({ frames := 4, cells := 0, slots := 0, locals := 110 }) [.ref (a 0)] G ES (mN G a (N) (tX (nI (r)) (nI (p)) (nI (0)) (O) x)) (mN G a (N) (tX (nI (r + 1)) (nI (p + 1 + 1 + 1)) (nI (0)) (upd (upd (upd (O) (3 * r) (nI 119)) (3 * r + 1) (nI (sg C n (p + 1) - 48))) (3 * r + 2) (nI 1)) x)) := by
  refine MV.of (own := RX4) rfl rfl (Nat.le_of_ble_eq_true rfl) ?_
  intro pP eE sS mM below meth cC ls AA E hw hl hr hlk hE
  replace hl : lv_has ls 3 [(0, .ref (a 0))] := hl
  have hn6 := hPd.2.1
  have hsl := fun i => hPd.lt i
  refine lv_iconst (v := nI 3) E.1 E.2.1 dX4_readOne_0 (by decide) ?_
  refine lv_aload_n E.1 E.2.1 dX4_readOne_1 rfl (lv_at hl 0 rfl) ?_
  refine gX4_10 E hw mw_29_2 dX4_readOne_2 ?_
  refine lv_eqi (y := nI (r)) (rfl) ?_
  refine lv_mulN E.1 E.2.1 dX4_readOne_5 ?_
  refine lv_istore_n (lv' := [(1, .int (nI (3 * r))), (0, .ref (a 0))]) E.1 E.2.1 dX4_readOne_6 rfl hl (by decide) rfl (fun ls hl => ?_)
  refine lv_aload_n E.1 E.2.1 dX4_readOne_7 rfl (lv_at hl 1 rfl) ?_
  refine callVI E (c_X4_sign l G a (N) x C n hPd (r) (p) (nI (0)) (O) (by omega)) mw_29_8 YX4_sign ⟨rfl, rfl⟩ ⟨Nat.le_of_ble_eq_true rfl, Nat.le_of_ble_eq_true rfl⟩ ⟨Nat.zero_le _, Nat.zero_le _⟩ hw 0 rfl rfl rfl hl rfl (Nat.le_of_ble_eq_true rfl) dX4_readOne_8 (fun H locs hw => ?_)
  have q8 := hsl (p)
  refine lv_eqi (y := nI (119)) (by rw [hlet]) ?_
  refine lv_istore_n (lv' := [(2, .int (nI (119))), (1, .int (nI (3 * r))), (0, .ref (a 0))]) E.1 E.2.1 dX4_readOne_11 rfl hl (by decide) rfl (fun ls hl => ?_)
  refine lv_aload_n E.1 E.2.1 dX4_readOne_12 rfl (lv_at hl 2 rfl) ?_
  refine gX4_9 E hw mw_3_15 dX4_readOne_13 ?_
  refine lv_iload_n E.1 E.2.1 dX4_readOne_16 rfl (lv_at hl 1 rfl) ?_
  refine lv_iload_n E.1 E.2.1 dX4_readOne_17 rfl (lv_at hl 0 rfl) ?_
  refine sX4_6 E hw (by omega) dX4_readOne_18 (fun H locs hw => ?_)
  replace hw : HB G AA sS.heap (mN G a (N) (tX (nI (r)) (nI (p)) (nI (0)) (upd (O) (3 * r) (nI (119))) x)) H locs := HB.eq hw (tX_Oe)
  refine lv_aload_n E.1 E.2.1 dX4_readOne_19 rfl (lv_at hl 2 rfl) ?_
  refine lv_dup E.1 E.2.1 dX4_readOne_20 rfl ?_
  refine gX4_11 E hw mw_29_1 dX4_readOne_21 ?_
  refine lv_eqi (y := nI (p)) (rfl) ?_
  refine lv_iconst (v := nI 1) E.1 E.2.1 dX4_readOne_24 (by decide) ?_
  refine lv_addN E.1 E.2.1 dX4_readOne_25 ?_
  refine pX4_11 E hw mw_29_1 dX4_readOne_26 (fun H locs hw => ?_)
  replace hw : HB G AA sS.heap (mN G a (N) (tX (nI (r)) (nI (p + 1)) (nI (0)) (upd (O) (3 * r) (nI (119))) x)) H locs := HB.eq hw (by rw [tX_4])
  refine lv_iload_n E.1 E.2.1 dX4_readOne_29 rfl (lv_at hl 0 rfl) ?_
  refine lv_tableIn (tgt := 175) E.1 E.2.1 dX4_readOne_30 (by decide) (by decide) rfl (by decide) ?_
  refine lv_aload_n E.1 E.2.1 dX4_readOne_175 rfl (lv_at hl 2 rfl) ?_
  refine gX4_9 E hw mw_3_15 dX4_readOne_176 ?_
  refine lv_iload_n E.1 E.2.1 dX4_readOne_179 rfl (lv_at hl 1 rfl) ?_
  refine lv_iconst (v := nI 1) E.1 E.2.1 dX4_readOne_180 (by decide) ?_
  refine lv_addN E.1 E.2.1 dX4_readOne_181 ?_
  refine lv_aload_n E.1 E.2.1 dX4_readOne_182 rfl (lv_at hl 2 rfl) ?_
  refine lv_iconst (v := nI 0) E.1 E.2.1 dX4_readOne_183 (by decide) ?_
  refine lv_iconst (v := nI 3) E.1 E.2.1 dX4_readOne_184 (by decide) ?_
  have q185 := hsl (p + 1)
  refine callVI E (c_X4_one_ok l G a N x C n hPd (r) (p + 1) (upd (O) (3 * r) (nI (119))) 0 3 (by omega) (by omega) (by omega)) mw_29_16 YX4_one ⟨rfl, rfl⟩ ⟨Nat.le_of_ble_eq_true rfl, Nat.le_of_ble_eq_true rfl⟩ ⟨Nat.zero_le _, Nat.zero_le _⟩ hw 0 rfl rfl rfl hl rfl (Nat.le_of_ble_eq_true rfl) dX4_readOne_185 (fun H locs hw => ?_)
  refine sX4_6 E hw (by omega) dX4_readOne_188 (fun H locs hw => ?_)
  replace hw : HB G AA sS.heap (mN G a (N) (tX (nI (r)) (nI (p + 1 + 1)) (nI (0)) (upd (upd (O) (3 * r) (nI (119))) (3 * r + 1) (nI (sg C n (p + 1) - 48))) x)) H locs := HB.eq hw (tX_Oe)
  refine lv_aload_n E.1 E.2.1 dX4_readOne_189 rfl (lv_at hl 2 rfl) ?_
  refine gX4_9 E hw mw_3_15 dX4_readOne_190 ?_
  refine lv_iload_n E.1 E.2.1 dX4_readOne_193 rfl (lv_at hl 1 rfl) ?_
  refine lv_iconst (v := nI 2) E.1 E.2.1 dX4_readOne_194 (by decide) ?_
  refine lv_addN E.1 E.2.1 dX4_readOne_195 ?_
  refine lv_aload_n E.1 E.2.1 dX4_readOne_196 rfl (lv_at hl 2 rfl) ?_
  refine gX4_12 E hw mw_29_3 dX4_readOne_197 ?_
  refine lv_eqi (y := nI (0)) (rfl) ?_
  refine lv_if_eqN (tgt := 207) E.1 E.2.1 (by omega) dX4_readOne_200 (by decide) (fun c200 => ?_) (fun c200 => ?_)
  · skip
    refine lv_aload_n E.1 E.2.1 dX4_readOne_207 rfl (lv_at hl 2 rfl) ?_
    refine callVI E (c_X4_plus_y l G a N x C n hPd (r) (p + 1 + 1) (upd (upd (O) (3 * r) (nI (119))) (3 * r + 1) (nI (sg C n (p + 1) - 48))) (by omega) (by omega)) mw_30_0 YX4_plus ⟨rfl, rfl⟩ ⟨Nat.le_of_ble_eq_true rfl, Nat.le_of_ble_eq_true rfl⟩ ⟨Nat.zero_le _, Nat.zero_le _⟩ hw 0 rfl rfl rfl hl rfl (Nat.le_of_ble_eq_true rfl) dX4_readOne_208 (fun H locs hw => ?_)
    refine sX4_6 E hw (by omega) dX4_readOne_211 (fun H locs hw => ?_)
    replace hw : HB G AA sS.heap (mN G a (N) (tX (nI (r)) (nI (p + 1 + 1 + 1)) (nI (0)) (upd (upd (upd (O) (3 * r) (nI (119))) (3 * r + 1) (nI (sg C n (p + 1) - 48))) (3 * r + 2) (nI (1))) x)) H locs := HB.eq hw (tX_Oe)
    refine lv_goto (tgt := 230) E.1 E.2.1 dX4_readOne_212 (by decide) ?_
    refine lv_aload_n E.1 E.2.1 dX4_readOne_230 rfl (lv_at hl 2 rfl) ?_
    refine lv_dup E.1 E.2.1 dX4_readOne_231 rfl ?_
    refine gX4_10 E hw mw_29_2 dX4_readOne_232 ?_
    refine lv_eqi (y := nI (r)) (rfl) ?_
    refine lv_iconst (v := nI 1) E.1 E.2.1 dX4_readOne_235 (by decide) ?_
    refine lv_addN E.1 E.2.1 dX4_readOne_236 ?_
    refine pX4_10 E hw mw_29_2 dX4_readOne_237 (fun H locs hw => ?_)
    replace hw : HB G AA sS.heap (mN G a (N) (tX (nI (r + 1)) (nI (p + 1 + 1 + 1)) (nI (0)) (upd (upd (upd (O) (3 * r) (nI (119))) (3 * r + 1) (nI (sg C n (p + 1) - 48))) (3 * r + 2) (nI (1))) x)) H locs := HB.eq hw (by rw [tX_3])
    exact rV E hr hlk (HB.eq hw (rfl)) dX4_readOne_240
  · exact absurd c200 (by decide)
set_option maxHeartbeats 4000000 in
set_option maxRecDepth 100000 in
theorem c_X4_readOne_wn (l : Launch) (G : GP) (a : Nat → Nat) (N : NS) (x : MX) (C : Nat → Nat) (n : Nat) (hPd : PadM x C n) (r p : Nat) (O : Nat → Int32) (hr : r < 60) (hp : p < 80) (hlet : sg C n p = 119) (h : 48 ≤ sg C n (p + 1) ∧ sg C n (p + 1) ≤ 51) (h2 : sg C n (p + 1 + 1) = 45) : MV l yX4_readOne (.code yX4_readOne cX4_readOne 3 none :: GW) ({ frames := 4, cells := 0, slots := 0, locals := 110 }) [.ref (a 0)] G ES (mN G a (N) (tX (nI (r)) (nI (p)) (nI (0)) (O) x)) (mN G a (N) (tX (nI (r + 1)) (nI (p + 1 + 1 + 1)) (nI (0)) (upd (upd (upd (O) (3 * r) (nI 119)) (3 * r + 1) (nI (sg C n (p + 1) - 48))) (3 * r + 2) (nI 0)) x)) := by
  refine MV.of (own := RX4) rfl rfl (Nat.le_of_ble_eq_true rfl) ?_
  intro pP eE sS mM below meth cC ls AA E hw hl hr hlk hE
  replace hl : lv_has ls 3 [(0, .ref (a 0))] := hl
  have hn6 := hPd.2.1
  have hsl := fun i => hPd.lt i
  refine lv_iconst (v := nI 3) E.1 E.2.1 dX4_readOne_0 (by decide) ?_
  refine lv_aload_n E.1 E.2.1 dX4_readOne_1 rfl (lv_at hl 0 rfl) ?_
  refine gX4_10 E hw mw_29_2 dX4_readOne_2 ?_
  refine lv_eqi (y := nI (r)) (rfl) ?_
  refine lv_mulN E.1 E.2.1 dX4_readOne_5 ?_
  refine lv_istore_n (lv' := [(1, .int (nI (3 * r))), (0, .ref (a 0))]) E.1 E.2.1 dX4_readOne_6 rfl hl (by decide) rfl (fun ls hl => ?_)
  refine lv_aload_n E.1 E.2.1 dX4_readOne_7 rfl (lv_at hl 1 rfl) ?_
  refine callVI E (c_X4_sign l G a (N) x C n hPd (r) (p) (nI (0)) (O) (by omega)) mw_29_8 YX4_sign ⟨rfl, rfl⟩ ⟨Nat.le_of_ble_eq_true rfl, Nat.le_of_ble_eq_true rfl⟩ ⟨Nat.zero_le _, Nat.zero_le _⟩ hw 0 rfl rfl rfl hl rfl (Nat.le_of_ble_eq_true rfl) dX4_readOne_8 (fun H locs hw => ?_)
  have q8 := hsl (p)
  refine lv_eqi (y := nI (119)) (by rw [hlet]) ?_
  refine lv_istore_n (lv' := [(2, .int (nI (119))), (1, .int (nI (3 * r))), (0, .ref (a 0))]) E.1 E.2.1 dX4_readOne_11 rfl hl (by decide) rfl (fun ls hl => ?_)
  refine lv_aload_n E.1 E.2.1 dX4_readOne_12 rfl (lv_at hl 2 rfl) ?_
  refine gX4_9 E hw mw_3_15 dX4_readOne_13 ?_
  refine lv_iload_n E.1 E.2.1 dX4_readOne_16 rfl (lv_at hl 1 rfl) ?_
  refine lv_iload_n E.1 E.2.1 dX4_readOne_17 rfl (lv_at hl 0 rfl) ?_
  refine sX4_6 E hw (by omega) dX4_readOne_18 (fun H locs hw => ?_)
  replace hw : HB G AA sS.heap (mN G a (N) (tX (nI (r)) (nI (p)) (nI (0)) (upd (O) (3 * r) (nI (119))) x)) H locs := HB.eq hw (tX_Oe)
  refine lv_aload_n E.1 E.2.1 dX4_readOne_19 rfl (lv_at hl 2 rfl) ?_
  refine lv_dup E.1 E.2.1 dX4_readOne_20 rfl ?_
  refine gX4_11 E hw mw_29_1 dX4_readOne_21 ?_
  refine lv_eqi (y := nI (p)) (rfl) ?_
  refine lv_iconst (v := nI 1) E.1 E.2.1 dX4_readOne_24 (by decide) ?_
  refine lv_addN E.1 E.2.1 dX4_readOne_25 ?_
  refine pX4_11 E hw mw_29_1 dX4_readOne_26 (fun H locs hw => ?_)
  replace hw : HB G AA sS.heap (mN G a (N) (tX (nI (r)) (nI (p + 1)) (nI (0)) (upd (O) (3 * r) (nI (119))) x)) H locs := HB.eq hw (by rw [tX_4])
  refine lv_iload_n E.1 E.2.1 dX4_readOne_29 rfl (lv_at hl 0 rfl) ?_
  refine lv_tableIn (tgt := 175) E.1 E.2.1 dX4_readOne_30 (by decide) (by decide) rfl (by decide) ?_
  refine lv_aload_n E.1 E.2.1 dX4_readOne_175 rfl (lv_at hl 2 rfl) ?_
  refine gX4_9 E hw mw_3_15 dX4_readOne_176 ?_
  refine lv_iload_n E.1 E.2.1 dX4_readOne_179 rfl (lv_at hl 1 rfl) ?_
  refine lv_iconst (v := nI 1) E.1 E.2.1 dX4_readOne_180 (by decide) ?_
  refine lv_addN E.1 E.2.1 dX4_readOne_181 ?_
  refine lv_aload_n E.1 E.2.1 dX4_readOne_182 rfl (lv_at hl 2 rfl) ?_
  refine lv_iconst (v := nI 0) E.1 E.2.1 dX4_readOne_183 (by decide) ?_
  refine lv_iconst (v := nI 3) E.1 E.2.1 dX4_readOne_184 (by decide) ?_
  have q185 := hsl (p + 1)
  refine callVI E (c_X4_one_ok l G a N x C n hPd (r) (p + 1) (upd (O) (3 * r) (nI (119))) 0 3 (by omega) (by omega) (by omega)) mw_29_16 YX4_one ⟨rfl, rfl⟩ ⟨Nat.le_of_ble_eq_true rfl, Nat.le_of_ble_eq_true rfl⟩ ⟨Nat.zero_le _, Nat.zero_le _⟩ hw 0 rfl rfl rfl hl rfl (Nat.le_of_ble_eq_true rfl) dX4_readOne_185 (fun H locs hw => ?_)
  refine sX4_6 E hw (by omega) dX4_readOne_188 (fun H locs hw => ?_)
  replace hw : HB G AA sS.heap (mN G a (N) (tX (nI (r)) (nI (p + 1 + 1)) (nI (0)) (upd (upd (O) (3 * r) (nI (119))) (3 * r + 1) (nI (sg C n (p + 1) - 48))) x)) H locs := HB.eq hw (tX_Oe)
  refine lv_aload_n E.1 E.2.1 dX4_readOne_189 rfl (lv_at hl 2 rfl) ?_
  refine gX4_9 E hw mw_3_15 dX4_readOne_190 ?_
  refine lv_iload_n E.1 E.2.1 dX4_readOne_193 rfl (lv_at hl 1 rfl) ?_
  refine lv_iconst (v := nI 2) E.1 E.2.1 dX4_readOne_194 (by decide) ?_
  refine lv_addN E.1 E.2.1 dX4_readOne_195 ?_
  refine lv_aload_n E.1 E.2.1 dX4_readOne_196 rfl (lv_at hl 2 rfl) ?_
  refine gX4_12 E hw mw_29_3 dX4_readOne_197 ?_
  refine lv_eqi (y := nI (0)) (rfl) ?_
  refine lv_if_eqN (tgt := 207) E.1 E.2.1 (by omega) dX4_readOne_200 (by decide) (fun c200 => ?_) (fun c200 => ?_)
  · skip
    refine lv_aload_n E.1 E.2.1 dX4_readOne_207 rfl (lv_at hl 2 rfl) ?_
    refine callVI E (c_X4_plus_n l G a N x C n hPd (r) (p + 1 + 1) (upd (upd (O) (3 * r) (nI (119))) (3 * r + 1) (nI (sg C n (p + 1) - 48))) (by omega) (by omega)) mw_30_0 YX4_plus ⟨rfl, rfl⟩ ⟨Nat.le_of_ble_eq_true rfl, Nat.le_of_ble_eq_true rfl⟩ ⟨Nat.zero_le _, Nat.zero_le _⟩ hw 0 rfl rfl rfl hl rfl (Nat.le_of_ble_eq_true rfl) dX4_readOne_208 (fun H locs hw => ?_)
    refine sX4_6 E hw (by omega) dX4_readOne_211 (fun H locs hw => ?_)
    replace hw : HB G AA sS.heap (mN G a (N) (tX (nI (r)) (nI (p + 1 + 1 + 1)) (nI (0)) (upd (upd (upd (O) (3 * r) (nI (119))) (3 * r + 1) (nI (sg C n (p + 1) - 48))) (3 * r + 2) (nI (0))) x)) H locs := HB.eq hw (tX_Oe)
    refine lv_goto (tgt := 230) E.1 E.2.1 dX4_readOne_212 (by decide) ?_
    refine lv_aload_n E.1 E.2.1 dX4_readOne_230 rfl (lv_at hl 2 rfl) ?_
    refine lv_dup E.1 E.2.1 dX4_readOne_231 rfl ?_
    refine gX4_10 E hw mw_29_2 dX4_readOne_232 ?_
    refine lv_eqi (y := nI (r)) (rfl) ?_
    refine lv_iconst (v := nI 1) E.1 E.2.1 dX4_readOne_235 (by decide) ?_
    refine lv_addN E.1 E.2.1 dX4_readOne_236 ?_
    refine pX4_10 E hw mw_29_2 dX4_readOne_237 (fun H locs hw => ?_)
    replace hw : HB G AA sS.heap (mN G a (N) (tX (nI (r + 1)) (nI (p + 1 + 1 + 1)) (nI (0)) (upd (upd (upd (O) (3 * r) (nI (119))) (3 * r + 1) (nI (sg C n (p + 1) - 48))) (3 * r + 2) (nI (0))) x)) H locs := HB.eq hw (by rw [tX_3])
    exact rV E hr hlk (HB.eq hw (rfl)) dX4_readOne_240
  · exact absurd c200 (by decide)
set_option maxHeartbeats 4000000 in
set_option maxRecDepth 100000 in
theorem c_X4_readOne_wx (l : Launch) (G : GP) (a : Nat → Nat) (N : NS) (x : MX) (C : Nat → Nat) (n : Nat) (hPd : PadM x C n) (r p : Nat) (O : Nat → Int32) (hr : r < 60) (hp : p < 80) (hlet : sg C n p = 119) (h : 48 ≤ sg C n (p + 1) ∧ sg C n (p + 1) ≤ 51) (h2 : ¬ sg C n (p + 1 + 1) = 43 ∧ ¬ sg C n (p + 1 + 1) = 45) : MV l yX4_readOne (.code yX4_readOne cX4_readOne 3 none :: GW) ({ frames := 4, cells := 0, slots := 0, locals := 110 }) [.ref (a 0)] G ES (mN G a (N) (tX (nI (r)) (nI (p)) (nI (0)) (O) x)) (mN G a (N) (tX (nI (r + 1)) (nI (p + 1 + 1)) (nI (1)) (upd (upd (upd (O) (3 * r) (nI 119)) (3 * r + 1) (nI (sg C n (p + 1) - 48))) (3 * r + 2) (nI 0)) x)) := by
  refine MV.of (own := RX4) rfl rfl (Nat.le_of_ble_eq_true rfl) ?_
  intro pP eE sS mM below meth cC ls AA E hw hl hr hlk hE
  replace hl : lv_has ls 3 [(0, .ref (a 0))] := hl
  have hn6 := hPd.2.1
  have hsl := fun i => hPd.lt i
  refine lv_iconst (v := nI 3) E.1 E.2.1 dX4_readOne_0 (by decide) ?_
  refine lv_aload_n E.1 E.2.1 dX4_readOne_1 rfl (lv_at hl 0 rfl) ?_
  refine gX4_10 E hw mw_29_2 dX4_readOne_2 ?_
  refine lv_eqi (y := nI (r)) (rfl) ?_
  refine lv_mulN E.1 E.2.1 dX4_readOne_5 ?_
  refine lv_istore_n (lv' := [(1, .int (nI (3 * r))), (0, .ref (a 0))]) E.1 E.2.1 dX4_readOne_6 rfl hl (by decide) rfl (fun ls hl => ?_)
  refine lv_aload_n E.1 E.2.1 dX4_readOne_7 rfl (lv_at hl 1 rfl) ?_
  refine callVI E (c_X4_sign l G a (N) x C n hPd (r) (p) (nI (0)) (O) (by omega)) mw_29_8 YX4_sign ⟨rfl, rfl⟩ ⟨Nat.le_of_ble_eq_true rfl, Nat.le_of_ble_eq_true rfl⟩ ⟨Nat.zero_le _, Nat.zero_le _⟩ hw 0 rfl rfl rfl hl rfl (Nat.le_of_ble_eq_true rfl) dX4_readOne_8 (fun H locs hw => ?_)
  have q8 := hsl (p)
  refine lv_eqi (y := nI (119)) (by rw [hlet]) ?_
  refine lv_istore_n (lv' := [(2, .int (nI (119))), (1, .int (nI (3 * r))), (0, .ref (a 0))]) E.1 E.2.1 dX4_readOne_11 rfl hl (by decide) rfl (fun ls hl => ?_)
  refine lv_aload_n E.1 E.2.1 dX4_readOne_12 rfl (lv_at hl 2 rfl) ?_
  refine gX4_9 E hw mw_3_15 dX4_readOne_13 ?_
  refine lv_iload_n E.1 E.2.1 dX4_readOne_16 rfl (lv_at hl 1 rfl) ?_
  refine lv_iload_n E.1 E.2.1 dX4_readOne_17 rfl (lv_at hl 0 rfl) ?_
  refine sX4_6 E hw (by omega) dX4_readOne_18 (fun H locs hw => ?_)
  replace hw : HB G AA sS.heap (mN G a (N) (tX (nI (r)) (nI (p)) (nI (0)) (upd (O) (3 * r) (nI (119))) x)) H locs := HB.eq hw (tX_Oe)
  refine lv_aload_n E.1 E.2.1 dX4_readOne_19 rfl (lv_at hl 2 rfl) ?_
  refine lv_dup E.1 E.2.1 dX4_readOne_20 rfl ?_
  refine gX4_11 E hw mw_29_1 dX4_readOne_21 ?_
  refine lv_eqi (y := nI (p)) (rfl) ?_
  refine lv_iconst (v := nI 1) E.1 E.2.1 dX4_readOne_24 (by decide) ?_
  refine lv_addN E.1 E.2.1 dX4_readOne_25 ?_
  refine pX4_11 E hw mw_29_1 dX4_readOne_26 (fun H locs hw => ?_)
  replace hw : HB G AA sS.heap (mN G a (N) (tX (nI (r)) (nI (p + 1)) (nI (0)) (upd (O) (3 * r) (nI (119))) x)) H locs := HB.eq hw (by rw [tX_4])
  refine lv_iload_n E.1 E.2.1 dX4_readOne_29 rfl (lv_at hl 0 rfl) ?_
  refine lv_tableIn (tgt := 175) E.1 E.2.1 dX4_readOne_30 (by decide) (by decide) rfl (by decide) ?_
  refine lv_aload_n E.1 E.2.1 dX4_readOne_175 rfl (lv_at hl 2 rfl) ?_
  refine gX4_9 E hw mw_3_15 dX4_readOne_176 ?_
  refine lv_iload_n E.1 E.2.1 dX4_readOne_179 rfl (lv_at hl 1 rfl) ?_
  refine lv_iconst (v := nI 1) E.1 E.2.1 dX4_readOne_180 (by decide) ?_
  refine lv_addN E.1 E.2.1 dX4_readOne_181 ?_
  refine lv_aload_n E.1 E.2.1 dX4_readOne_182 rfl (lv_at hl 2 rfl) ?_
  refine lv_iconst (v := nI 0) E.1 E.2.1 dX4_readOne_183 (by decide) ?_
  refine lv_iconst (v := nI 3) E.1 E.2.1 dX4_readOne_184 (by decide) ?_
  have q185 := hsl (p + 1)
  refine callVI E (c_X4_one_ok l G a N x C n hPd (r) (p + 1) (upd (O) (3 * r) (nI (119))) 0 3 (by omega) (by omega) (by omega)) mw_29_16 YX4_one ⟨rfl, rfl⟩ ⟨Nat.le_of_ble_eq_true rfl, Nat.le_of_ble_eq_true rfl⟩ ⟨Nat.zero_le _, Nat.zero_le _⟩ hw 0 rfl rfl rfl hl rfl (Nat.le_of_ble_eq_true rfl) dX4_readOne_185 (fun H locs hw => ?_)
  refine sX4_6 E hw (by omega) dX4_readOne_188 (fun H locs hw => ?_)
  replace hw : HB G AA sS.heap (mN G a (N) (tX (nI (r)) (nI (p + 1 + 1)) (nI (0)) (upd (upd (O) (3 * r) (nI (119))) (3 * r + 1) (nI (sg C n (p + 1) - 48))) x)) H locs := HB.eq hw (tX_Oe)
  refine lv_aload_n E.1 E.2.1 dX4_readOne_189 rfl (lv_at hl 2 rfl) ?_
  refine gX4_9 E hw mw_3_15 dX4_readOne_190 ?_
  refine lv_iload_n E.1 E.2.1 dX4_readOne_193 rfl (lv_at hl 1 rfl) ?_
  refine lv_iconst (v := nI 2) E.1 E.2.1 dX4_readOne_194 (by decide) ?_
  refine lv_addN E.1 E.2.1 dX4_readOne_195 ?_
  refine lv_aload_n E.1 E.2.1 dX4_readOne_196 rfl (lv_at hl 2 rfl) ?_
  refine gX4_12 E hw mw_29_3 dX4_readOne_197 ?_
  refine lv_eqi (y := nI (0)) (rfl) ?_
  refine lv_if_eqN (tgt := 207) E.1 E.2.1 (by omega) dX4_readOne_200 (by decide) (fun c200 => ?_) (fun c200 => ?_)
  · skip
    refine lv_aload_n E.1 E.2.1 dX4_readOne_207 rfl (lv_at hl 2 rfl) ?_
    refine callVI E (c_X4_plus_bad l G a N x C n hPd (r) (p + 1 + 1) (upd (upd (O) (3 * r) (nI (119))) (3 * r + 1) (nI (sg C n (p + 1) - 48))) (by omega) (by omega)) mw_30_0 YX4_plus ⟨rfl, rfl⟩ ⟨Nat.le_of_ble_eq_true rfl, Nat.le_of_ble_eq_true rfl⟩ ⟨Nat.zero_le _, Nat.zero_le _⟩ hw 0 rfl rfl rfl hl rfl (Nat.le_of_ble_eq_true rfl) dX4_readOne_208 (fun H locs hw => ?_)
    refine sX4_6 E hw (by omega) dX4_readOne_211 (fun H locs hw => ?_)
    replace hw : HB G AA sS.heap (mN G a (N) (tX (nI (r)) (nI (p + 1 + 1)) (nI (1)) (upd (upd (upd (O) (3 * r) (nI (119))) (3 * r + 1) (nI (sg C n (p + 1) - 48))) (3 * r + 2) (nI (0))) x)) H locs := HB.eq hw (tX_Oe)
    refine lv_goto (tgt := 230) E.1 E.2.1 dX4_readOne_212 (by decide) ?_
    refine lv_aload_n E.1 E.2.1 dX4_readOne_230 rfl (lv_at hl 2 rfl) ?_
    refine lv_dup E.1 E.2.1 dX4_readOne_231 rfl ?_
    refine gX4_10 E hw mw_29_2 dX4_readOne_232 ?_
    refine lv_eqi (y := nI (r)) (rfl) ?_
    refine lv_iconst (v := nI 1) E.1 E.2.1 dX4_readOne_235 (by decide) ?_
    refine lv_addN E.1 E.2.1 dX4_readOne_236 ?_
    refine pX4_10 E hw mw_29_2 dX4_readOne_237 (fun H locs hw => ?_)
    replace hw : HB G AA sS.heap (mN G a (N) (tX (nI (r + 1)) (nI (p + 1 + 1)) (nI (1)) (upd (upd (upd (O) (3 * r) (nI (119))) (3 * r + 1) (nI (sg C n (p + 1) - 48))) (3 * r + 2) (nI (0))) x)) H locs := HB.eq hw (by rw [tX_3])
    exact rV E hr hlk (HB.eq hw (rfl)) dX4_readOne_240
  · exact absurd c200 (by decide)
set_option maxHeartbeats 4000000 in
set_option maxRecDepth 100000 in
theorem c_X4_readOne_x (l : Launch) (G : GP) (a : Nat → Nat) (N : NS) (x : MX) (C : Nat → Nat) (n : Nat) (hPd : PadM x C n) (r p : Nat) (O : Nat → Int32) (hr : r < 60) (hp : p < 80) (hlet : ¬ sg C n p = 111 ∧ ¬ sg C n p = 100 ∧ ¬ sg C n p = 108 ∧ ¬ sg C n p = 116 ∧ ¬ sg C n p = 114 ∧ ¬ sg C n p = 120 ∧ ¬ sg C n p = 119) : MV l yX4_readOne (.code yX4_readOne cX4_readOne 3 none :: GW) ({ frames := 4, cells := 0, slots := 0, locals := 110 }) [.ref (a 0)] G ES (mN G a (N) (tX (nI (r)) (nI (p)) (nI (0)) (O) x)) (mN G a (N) (tX (nI (r + 1)) (nI (p)) (nI (1)) (upd (O) (3 * r) (nI (sg C n p))) x)) := by
  refine MV.of (own := RX4) rfl rfl (Nat.le_of_ble_eq_true rfl) ?_
  intro pP eE sS mM below meth cC ls AA E hw hl hr hlk hE
  replace hl : lv_has ls 3 [(0, .ref (a 0))] := hl
  have hn6 := hPd.2.1
  have hsl := fun i => hPd.lt i
  refine lv_iconst (v := nI 3) E.1 E.2.1 dX4_readOne_0 (by decide) ?_
  refine lv_aload_n E.1 E.2.1 dX4_readOne_1 rfl (lv_at hl 0 rfl) ?_
  refine gX4_10 E hw mw_29_2 dX4_readOne_2 ?_
  refine lv_eqi (y := nI (r)) (rfl) ?_
  refine lv_mulN E.1 E.2.1 dX4_readOne_5 ?_
  refine lv_istore_n (lv' := [(1, .int (nI (3 * r))), (0, .ref (a 0))]) E.1 E.2.1 dX4_readOne_6 rfl hl (by decide) rfl (fun ls hl => ?_)
  refine lv_aload_n E.1 E.2.1 dX4_readOne_7 rfl (lv_at hl 1 rfl) ?_
  refine callVI E (c_X4_sign l G a (N) x C n hPd (r) (p) (nI (0)) (O) (by omega)) mw_29_8 YX4_sign ⟨rfl, rfl⟩ ⟨Nat.le_of_ble_eq_true rfl, Nat.le_of_ble_eq_true rfl⟩ ⟨Nat.zero_le _, Nat.zero_le _⟩ hw 0 rfl rfl rfl hl rfl (Nat.le_of_ble_eq_true rfl) dX4_readOne_8 (fun H locs hw => ?_)
  have q8 := hsl (p)
  refine lv_istore_n (lv' := [(2, .int (nI (sg C n p))), (1, .int (nI (3 * r))), (0, .ref (a 0))]) E.1 E.2.1 dX4_readOne_11 rfl hl (by decide) rfl (fun ls hl => ?_)
  refine lv_aload_n E.1 E.2.1 dX4_readOne_12 rfl (lv_at hl 2 rfl) ?_
  refine gX4_9 E hw mw_3_15 dX4_readOne_13 ?_
  refine lv_iload_n E.1 E.2.1 dX4_readOne_16 rfl (lv_at hl 1 rfl) ?_
  refine lv_iload_n E.1 E.2.1 dX4_readOne_17 rfl (lv_at hl 0 rfl) ?_
  refine sX4_6 E hw (by omega) dX4_readOne_18 (fun H locs hw => ?_)
  replace hw : HB G AA sS.heap (mN G a (N) (tX (nI (r)) (nI (p)) (nI (0)) (upd (O) (3 * r) (nI (sg C n p))) x)) H locs := HB.eq hw (tX_Oe)
  refine lv_aload_n E.1 E.2.1 dX4_readOne_19 rfl (lv_at hl 2 rfl) ?_
  refine lv_dup E.1 E.2.1 dX4_readOne_20 rfl ?_
  refine gX4_11 E hw mw_29_1 dX4_readOne_21 ?_
  refine lv_eqi (y := nI (p)) (rfl) ?_
  refine lv_iconst (v := nI 1) E.1 E.2.1 dX4_readOne_24 (by decide) ?_
  refine lv_addN E.1 E.2.1 dX4_readOne_25 ?_
  refine pX4_11 E hw mw_29_1 dX4_readOne_26 (fun H locs hw => ?_)
  replace hw : HB G AA sS.heap (mN G a (N) (tX (nI (r)) (nI (p + 1)) (nI (0)) (upd (O) (3 * r) (nI (sg C n p))) x)) H locs := HB.eq hw (by rw [tX_4])
  refine lv_iload_n E.1 E.2.1 dX4_readOne_29 rfl (lv_at hl 0 rfl) ?_
  by_cases z30_101 : sg C n p = 101
  · refine lv_eqi (y := nI 101) (by rw [z30_101]) ?_
    refine lv_tableIn (tgt := 215) E.1 E.2.1 dX4_readOne_30 (by decide) (by decide) rfl (by decide) ?_
    refine lv_aload_n E.1 E.2.1 dX4_readOne_215 rfl (lv_at hl 2 rfl) ?_
    refine lv_iconst (v := nI 1) E.1 E.2.1 dX4_readOne_216 (by decide) ?_
    refine pX4_12 E hw mw_29_3 rfl rfl dX4_readOne_217 (fun H locs hw => ?_)
    replace hw : HB G AA sS.heap (mN G a (N) (tX (nI (r)) (nI (p + 1)) (nI (1)) (upd (O) (3 * r) (nI (sg C n p))) x)) H locs := HB.eq hw (by rw [tX_5])
    refine lv_aload_n E.1 E.2.1 dX4_readOne_220 rfl (lv_at hl 2 rfl) ?_
    refine lv_dup E.1 E.2.1 dX4_readOne_221 rfl ?_
    refine gX4_11 E hw mw_29_1 dX4_readOne_222 ?_
    refine lv_eqi (y := nI (p + 1)) (rfl) ?_
    refine lv_iconst (v := nI 1) E.1 E.2.1 dX4_readOne_225 (by decide) ?_
    refine lv_subN E.1 E.2.1 (by omega) dX4_readOne_226 ?_
    refine pX4_11 E hw mw_29_1 dX4_readOne_227 (fun H locs hw => ?_)
    replace hw : HB G AA sS.heap (mN G a (N) (tX (nI (r)) (nI (p + 1 - 1)) (nI (1)) (upd (O) (3 * r) (nI (sg C n p))) x)) H locs := HB.eq hw (by rw [tX_4])
    refine lv_aload_n E.1 E.2.1 dX4_readOne_230 rfl (lv_at hl 2 rfl) ?_
    refine lv_dup E.1 E.2.1 dX4_readOne_231 rfl ?_
    refine gX4_10 E hw mw_29_2 dX4_readOne_232 ?_
    refine lv_eqi (y := nI (r)) (rfl) ?_
    refine lv_iconst (v := nI 1) E.1 E.2.1 dX4_readOne_235 (by decide) ?_
    refine lv_addN E.1 E.2.1 dX4_readOne_236 ?_
    refine pX4_10 E hw mw_29_2 dX4_readOne_237 (fun H locs hw => ?_)
    replace hw : HB G AA sS.heap (mN G a (N) (tX (nI (r + 1)) (nI (p + 1 - 1)) (nI (1)) (upd (O) (3 * r) (nI (sg C n p))) x)) H locs := HB.eq hw (by rw [tX_3])
    exact rV E hr hlk (HB.eq hw (rfl)) dX4_readOne_240
  by_cases z30_102 : sg C n p = 102
  · refine lv_eqi (y := nI 102) (by rw [z30_102]) ?_
    refine lv_tableIn (tgt := 215) E.1 E.2.1 dX4_readOne_30 (by decide) (by decide) rfl (by decide) ?_
    refine lv_aload_n E.1 E.2.1 dX4_readOne_215 rfl (lv_at hl 2 rfl) ?_
    refine lv_iconst (v := nI 1) E.1 E.2.1 dX4_readOne_216 (by decide) ?_
    refine pX4_12 E hw mw_29_3 rfl rfl dX4_readOne_217 (fun H locs hw => ?_)
    replace hw : HB G AA sS.heap (mN G a (N) (tX (nI (r)) (nI (p + 1)) (nI (1)) (upd (O) (3 * r) (nI (sg C n p))) x)) H locs := HB.eq hw (by rw [tX_5])
    refine lv_aload_n E.1 E.2.1 dX4_readOne_220 rfl (lv_at hl 2 rfl) ?_
    refine lv_dup E.1 E.2.1 dX4_readOne_221 rfl ?_
    refine gX4_11 E hw mw_29_1 dX4_readOne_222 ?_
    refine lv_eqi (y := nI (p + 1)) (rfl) ?_
    refine lv_iconst (v := nI 1) E.1 E.2.1 dX4_readOne_225 (by decide) ?_
    refine lv_subN E.1 E.2.1 (by omega) dX4_readOne_226 ?_
    refine pX4_11 E hw mw_29_1 dX4_readOne_227 (fun H locs hw => ?_)
    replace hw : HB G AA sS.heap (mN G a (N) (tX (nI (r)) (nI (p + 1 - 1)) (nI (1)) (upd (O) (3 * r) (nI (sg C n p))) x)) H locs := HB.eq hw (by rw [tX_4])
    refine lv_aload_n E.1 E.2.1 dX4_readOne_230 rfl (lv_at hl 2 rfl) ?_
    refine lv_dup E.1 E.2.1 dX4_readOne_231 rfl ?_
    refine gX4_10 E hw mw_29_2 dX4_readOne_232 ?_
    refine lv_eqi (y := nI (r)) (rfl) ?_
    refine lv_iconst (v := nI 1) E.1 E.2.1 dX4_readOne_235 (by decide) ?_
    refine lv_addN E.1 E.2.1 dX4_readOne_236 ?_
    refine pX4_10 E hw mw_29_2 dX4_readOne_237 (fun H locs hw => ?_)
    replace hw : HB G AA sS.heap (mN G a (N) (tX (nI (r + 1)) (nI (p + 1 - 1)) (nI (1)) (upd (O) (3 * r) (nI (sg C n p))) x)) H locs := HB.eq hw (by rw [tX_3])
    exact rV E hr hlk (HB.eq hw (rfl)) dX4_readOne_240
  by_cases z30_103 : sg C n p = 103
  · refine lv_eqi (y := nI 103) (by rw [z30_103]) ?_
    refine lv_tableIn (tgt := 215) E.1 E.2.1 dX4_readOne_30 (by decide) (by decide) rfl (by decide) ?_
    refine lv_aload_n E.1 E.2.1 dX4_readOne_215 rfl (lv_at hl 2 rfl) ?_
    refine lv_iconst (v := nI 1) E.1 E.2.1 dX4_readOne_216 (by decide) ?_
    refine pX4_12 E hw mw_29_3 rfl rfl dX4_readOne_217 (fun H locs hw => ?_)
    replace hw : HB G AA sS.heap (mN G a (N) (tX (nI (r)) (nI (p + 1)) (nI (1)) (upd (O) (3 * r) (nI (sg C n p))) x)) H locs := HB.eq hw (by rw [tX_5])
    refine lv_aload_n E.1 E.2.1 dX4_readOne_220 rfl (lv_at hl 2 rfl) ?_
    refine lv_dup E.1 E.2.1 dX4_readOne_221 rfl ?_
    refine gX4_11 E hw mw_29_1 dX4_readOne_222 ?_
    refine lv_eqi (y := nI (p + 1)) (rfl) ?_
    refine lv_iconst (v := nI 1) E.1 E.2.1 dX4_readOne_225 (by decide) ?_
    refine lv_subN E.1 E.2.1 (by omega) dX4_readOne_226 ?_
    refine pX4_11 E hw mw_29_1 dX4_readOne_227 (fun H locs hw => ?_)
    replace hw : HB G AA sS.heap (mN G a (N) (tX (nI (r)) (nI (p + 1 - 1)) (nI (1)) (upd (O) (3 * r) (nI (sg C n p))) x)) H locs := HB.eq hw (by rw [tX_4])
    refine lv_aload_n E.1 E.2.1 dX4_readOne_230 rfl (lv_at hl 2 rfl) ?_
    refine lv_dup E.1 E.2.1 dX4_readOne_231 rfl ?_
    refine gX4_10 E hw mw_29_2 dX4_readOne_232 ?_
    refine lv_eqi (y := nI (r)) (rfl) ?_
    refine lv_iconst (v := nI 1) E.1 E.2.1 dX4_readOne_235 (by decide) ?_
    refine lv_addN E.1 E.2.1 dX4_readOne_236 ?_
    refine pX4_10 E hw mw_29_2 dX4_readOne_237 (fun H locs hw => ?_)
    replace hw : HB G AA sS.heap (mN G a (N) (tX (nI (r + 1)) (nI (p + 1 - 1)) (nI (1)) (upd (O) (3 * r) (nI (sg C n p))) x)) H locs := HB.eq hw (by rw [tX_3])
    exact rV E hr hlk (HB.eq hw (rfl)) dX4_readOne_240
  by_cases z30_104 : sg C n p = 104
  · refine lv_eqi (y := nI 104) (by rw [z30_104]) ?_
    refine lv_tableIn (tgt := 215) E.1 E.2.1 dX4_readOne_30 (by decide) (by decide) rfl (by decide) ?_
    refine lv_aload_n E.1 E.2.1 dX4_readOne_215 rfl (lv_at hl 2 rfl) ?_
    refine lv_iconst (v := nI 1) E.1 E.2.1 dX4_readOne_216 (by decide) ?_
    refine pX4_12 E hw mw_29_3 rfl rfl dX4_readOne_217 (fun H locs hw => ?_)
    replace hw : HB G AA sS.heap (mN G a (N) (tX (nI (r)) (nI (p + 1)) (nI (1)) (upd (O) (3 * r) (nI (sg C n p))) x)) H locs := HB.eq hw (by rw [tX_5])
    refine lv_aload_n E.1 E.2.1 dX4_readOne_220 rfl (lv_at hl 2 rfl) ?_
    refine lv_dup E.1 E.2.1 dX4_readOne_221 rfl ?_
    refine gX4_11 E hw mw_29_1 dX4_readOne_222 ?_
    refine lv_eqi (y := nI (p + 1)) (rfl) ?_
    refine lv_iconst (v := nI 1) E.1 E.2.1 dX4_readOne_225 (by decide) ?_
    refine lv_subN E.1 E.2.1 (by omega) dX4_readOne_226 ?_
    refine pX4_11 E hw mw_29_1 dX4_readOne_227 (fun H locs hw => ?_)
    replace hw : HB G AA sS.heap (mN G a (N) (tX (nI (r)) (nI (p + 1 - 1)) (nI (1)) (upd (O) (3 * r) (nI (sg C n p))) x)) H locs := HB.eq hw (by rw [tX_4])
    refine lv_aload_n E.1 E.2.1 dX4_readOne_230 rfl (lv_at hl 2 rfl) ?_
    refine lv_dup E.1 E.2.1 dX4_readOne_231 rfl ?_
    refine gX4_10 E hw mw_29_2 dX4_readOne_232 ?_
    refine lv_eqi (y := nI (r)) (rfl) ?_
    refine lv_iconst (v := nI 1) E.1 E.2.1 dX4_readOne_235 (by decide) ?_
    refine lv_addN E.1 E.2.1 dX4_readOne_236 ?_
    refine pX4_10 E hw mw_29_2 dX4_readOne_237 (fun H locs hw => ?_)
    replace hw : HB G AA sS.heap (mN G a (N) (tX (nI (r + 1)) (nI (p + 1 - 1)) (nI (1)) (upd (O) (3 * r) (nI (sg C n p))) x)) H locs := HB.eq hw (by rw [tX_3])
    exact rV E hr hlk (HB.eq hw (rfl)) dX4_readOne_240
  by_cases z30_105 : sg C n p = 105
  · refine lv_eqi (y := nI 105) (by rw [z30_105]) ?_
    refine lv_tableIn (tgt := 215) E.1 E.2.1 dX4_readOne_30 (by decide) (by decide) rfl (by decide) ?_
    refine lv_aload_n E.1 E.2.1 dX4_readOne_215 rfl (lv_at hl 2 rfl) ?_
    refine lv_iconst (v := nI 1) E.1 E.2.1 dX4_readOne_216 (by decide) ?_
    refine pX4_12 E hw mw_29_3 rfl rfl dX4_readOne_217 (fun H locs hw => ?_)
    replace hw : HB G AA sS.heap (mN G a (N) (tX (nI (r)) (nI (p + 1)) (nI (1)) (upd (O) (3 * r) (nI (sg C n p))) x)) H locs := HB.eq hw (by rw [tX_5])
    refine lv_aload_n E.1 E.2.1 dX4_readOne_220 rfl (lv_at hl 2 rfl) ?_
    refine lv_dup E.1 E.2.1 dX4_readOne_221 rfl ?_
    refine gX4_11 E hw mw_29_1 dX4_readOne_222 ?_
    refine lv_eqi (y := nI (p + 1)) (rfl) ?_
    refine lv_iconst (v := nI 1) E.1 E.2.1 dX4_readOne_225 (by decide) ?_
    refine lv_subN E.1 E.2.1 (by omega) dX4_readOne_226 ?_
    refine pX4_11 E hw mw_29_1 dX4_readOne_227 (fun H locs hw => ?_)
    replace hw : HB G AA sS.heap (mN G a (N) (tX (nI (r)) (nI (p + 1 - 1)) (nI (1)) (upd (O) (3 * r) (nI (sg C n p))) x)) H locs := HB.eq hw (by rw [tX_4])
    refine lv_aload_n E.1 E.2.1 dX4_readOne_230 rfl (lv_at hl 2 rfl) ?_
    refine lv_dup E.1 E.2.1 dX4_readOne_231 rfl ?_
    refine gX4_10 E hw mw_29_2 dX4_readOne_232 ?_
    refine lv_eqi (y := nI (r)) (rfl) ?_
    refine lv_iconst (v := nI 1) E.1 E.2.1 dX4_readOne_235 (by decide) ?_
    refine lv_addN E.1 E.2.1 dX4_readOne_236 ?_
    refine pX4_10 E hw mw_29_2 dX4_readOne_237 (fun H locs hw => ?_)
    replace hw : HB G AA sS.heap (mN G a (N) (tX (nI (r + 1)) (nI (p + 1 - 1)) (nI (1)) (upd (O) (3 * r) (nI (sg C n p))) x)) H locs := HB.eq hw (by rw [tX_3])
    exact rV E hr hlk (HB.eq hw (rfl)) dX4_readOne_240
  by_cases z30_106 : sg C n p = 106
  · refine lv_eqi (y := nI 106) (by rw [z30_106]) ?_
    refine lv_tableIn (tgt := 215) E.1 E.2.1 dX4_readOne_30 (by decide) (by decide) rfl (by decide) ?_
    refine lv_aload_n E.1 E.2.1 dX4_readOne_215 rfl (lv_at hl 2 rfl) ?_
    refine lv_iconst (v := nI 1) E.1 E.2.1 dX4_readOne_216 (by decide) ?_
    refine pX4_12 E hw mw_29_3 rfl rfl dX4_readOne_217 (fun H locs hw => ?_)
    replace hw : HB G AA sS.heap (mN G a (N) (tX (nI (r)) (nI (p + 1)) (nI (1)) (upd (O) (3 * r) (nI (sg C n p))) x)) H locs := HB.eq hw (by rw [tX_5])
    refine lv_aload_n E.1 E.2.1 dX4_readOne_220 rfl (lv_at hl 2 rfl) ?_
    refine lv_dup E.1 E.2.1 dX4_readOne_221 rfl ?_
    refine gX4_11 E hw mw_29_1 dX4_readOne_222 ?_
    refine lv_eqi (y := nI (p + 1)) (rfl) ?_
    refine lv_iconst (v := nI 1) E.1 E.2.1 dX4_readOne_225 (by decide) ?_
    refine lv_subN E.1 E.2.1 (by omega) dX4_readOne_226 ?_
    refine pX4_11 E hw mw_29_1 dX4_readOne_227 (fun H locs hw => ?_)
    replace hw : HB G AA sS.heap (mN G a (N) (tX (nI (r)) (nI (p + 1 - 1)) (nI (1)) (upd (O) (3 * r) (nI (sg C n p))) x)) H locs := HB.eq hw (by rw [tX_4])
    refine lv_aload_n E.1 E.2.1 dX4_readOne_230 rfl (lv_at hl 2 rfl) ?_
    refine lv_dup E.1 E.2.1 dX4_readOne_231 rfl ?_
    refine gX4_10 E hw mw_29_2 dX4_readOne_232 ?_
    refine lv_eqi (y := nI (r)) (rfl) ?_
    refine lv_iconst (v := nI 1) E.1 E.2.1 dX4_readOne_235 (by decide) ?_
    refine lv_addN E.1 E.2.1 dX4_readOne_236 ?_
    refine pX4_10 E hw mw_29_2 dX4_readOne_237 (fun H locs hw => ?_)
    replace hw : HB G AA sS.heap (mN G a (N) (tX (nI (r + 1)) (nI (p + 1 - 1)) (nI (1)) (upd (O) (3 * r) (nI (sg C n p))) x)) H locs := HB.eq hw (by rw [tX_3])
    exact rV E hr hlk (HB.eq hw (rfl)) dX4_readOne_240
  by_cases z30_107 : sg C n p = 107
  · refine lv_eqi (y := nI 107) (by rw [z30_107]) ?_
    refine lv_tableIn (tgt := 215) E.1 E.2.1 dX4_readOne_30 (by decide) (by decide) rfl (by decide) ?_
    refine lv_aload_n E.1 E.2.1 dX4_readOne_215 rfl (lv_at hl 2 rfl) ?_
    refine lv_iconst (v := nI 1) E.1 E.2.1 dX4_readOne_216 (by decide) ?_
    refine pX4_12 E hw mw_29_3 rfl rfl dX4_readOne_217 (fun H locs hw => ?_)
    replace hw : HB G AA sS.heap (mN G a (N) (tX (nI (r)) (nI (p + 1)) (nI (1)) (upd (O) (3 * r) (nI (sg C n p))) x)) H locs := HB.eq hw (by rw [tX_5])
    refine lv_aload_n E.1 E.2.1 dX4_readOne_220 rfl (lv_at hl 2 rfl) ?_
    refine lv_dup E.1 E.2.1 dX4_readOne_221 rfl ?_
    refine gX4_11 E hw mw_29_1 dX4_readOne_222 ?_
    refine lv_eqi (y := nI (p + 1)) (rfl) ?_
    refine lv_iconst (v := nI 1) E.1 E.2.1 dX4_readOne_225 (by decide) ?_
    refine lv_subN E.1 E.2.1 (by omega) dX4_readOne_226 ?_
    refine pX4_11 E hw mw_29_1 dX4_readOne_227 (fun H locs hw => ?_)
    replace hw : HB G AA sS.heap (mN G a (N) (tX (nI (r)) (nI (p + 1 - 1)) (nI (1)) (upd (O) (3 * r) (nI (sg C n p))) x)) H locs := HB.eq hw (by rw [tX_4])
    refine lv_aload_n E.1 E.2.1 dX4_readOne_230 rfl (lv_at hl 2 rfl) ?_
    refine lv_dup E.1 E.2.1 dX4_readOne_231 rfl ?_
    refine gX4_10 E hw mw_29_2 dX4_readOne_232 ?_
    refine lv_eqi (y := nI (r)) (rfl) ?_
    refine lv_iconst (v := nI 1) E.1 E.2.1 dX4_readOne_235 (by decide) ?_
    refine lv_addN E.1 E.2.1 dX4_readOne_236 ?_
    refine pX4_10 E hw mw_29_2 dX4_readOne_237 (fun H locs hw => ?_)
    replace hw : HB G AA sS.heap (mN G a (N) (tX (nI (r + 1)) (nI (p + 1 - 1)) (nI (1)) (upd (O) (3 * r) (nI (sg C n p))) x)) H locs := HB.eq hw (by rw [tX_3])
    exact rV E hr hlk (HB.eq hw (rfl)) dX4_readOne_240
  by_cases z30_109 : sg C n p = 109
  · refine lv_eqi (y := nI 109) (by rw [z30_109]) ?_
    refine lv_tableIn (tgt := 215) E.1 E.2.1 dX4_readOne_30 (by decide) (by decide) rfl (by decide) ?_
    refine lv_aload_n E.1 E.2.1 dX4_readOne_215 rfl (lv_at hl 2 rfl) ?_
    refine lv_iconst (v := nI 1) E.1 E.2.1 dX4_readOne_216 (by decide) ?_
    refine pX4_12 E hw mw_29_3 rfl rfl dX4_readOne_217 (fun H locs hw => ?_)
    replace hw : HB G AA sS.heap (mN G a (N) (tX (nI (r)) (nI (p + 1)) (nI (1)) (upd (O) (3 * r) (nI (sg C n p))) x)) H locs := HB.eq hw (by rw [tX_5])
    refine lv_aload_n E.1 E.2.1 dX4_readOne_220 rfl (lv_at hl 2 rfl) ?_
    refine lv_dup E.1 E.2.1 dX4_readOne_221 rfl ?_
    refine gX4_11 E hw mw_29_1 dX4_readOne_222 ?_
    refine lv_eqi (y := nI (p + 1)) (rfl) ?_
    refine lv_iconst (v := nI 1) E.1 E.2.1 dX4_readOne_225 (by decide) ?_
    refine lv_subN E.1 E.2.1 (by omega) dX4_readOne_226 ?_
    refine pX4_11 E hw mw_29_1 dX4_readOne_227 (fun H locs hw => ?_)
    replace hw : HB G AA sS.heap (mN G a (N) (tX (nI (r)) (nI (p + 1 - 1)) (nI (1)) (upd (O) (3 * r) (nI (sg C n p))) x)) H locs := HB.eq hw (by rw [tX_4])
    refine lv_aload_n E.1 E.2.1 dX4_readOne_230 rfl (lv_at hl 2 rfl) ?_
    refine lv_dup E.1 E.2.1 dX4_readOne_231 rfl ?_
    refine gX4_10 E hw mw_29_2 dX4_readOne_232 ?_
    refine lv_eqi (y := nI (r)) (rfl) ?_
    refine lv_iconst (v := nI 1) E.1 E.2.1 dX4_readOne_235 (by decide) ?_
    refine lv_addN E.1 E.2.1 dX4_readOne_236 ?_
    refine pX4_10 E hw mw_29_2 dX4_readOne_237 (fun H locs hw => ?_)
    replace hw : HB G AA sS.heap (mN G a (N) (tX (nI (r + 1)) (nI (p + 1 - 1)) (nI (1)) (upd (O) (3 * r) (nI (sg C n p))) x)) H locs := HB.eq hw (by rw [tX_3])
    exact rV E hr hlk (HB.eq hw (rfl)) dX4_readOne_240
  by_cases z30_110 : sg C n p = 110
  · refine lv_eqi (y := nI 110) (by rw [z30_110]) ?_
    refine lv_tableIn (tgt := 215) E.1 E.2.1 dX4_readOne_30 (by decide) (by decide) rfl (by decide) ?_
    refine lv_aload_n E.1 E.2.1 dX4_readOne_215 rfl (lv_at hl 2 rfl) ?_
    refine lv_iconst (v := nI 1) E.1 E.2.1 dX4_readOne_216 (by decide) ?_
    refine pX4_12 E hw mw_29_3 rfl rfl dX4_readOne_217 (fun H locs hw => ?_)
    replace hw : HB G AA sS.heap (mN G a (N) (tX (nI (r)) (nI (p + 1)) (nI (1)) (upd (O) (3 * r) (nI (sg C n p))) x)) H locs := HB.eq hw (by rw [tX_5])
    refine lv_aload_n E.1 E.2.1 dX4_readOne_220 rfl (lv_at hl 2 rfl) ?_
    refine lv_dup E.1 E.2.1 dX4_readOne_221 rfl ?_
    refine gX4_11 E hw mw_29_1 dX4_readOne_222 ?_
    refine lv_eqi (y := nI (p + 1)) (rfl) ?_
    refine lv_iconst (v := nI 1) E.1 E.2.1 dX4_readOne_225 (by decide) ?_
    refine lv_subN E.1 E.2.1 (by omega) dX4_readOne_226 ?_
    refine pX4_11 E hw mw_29_1 dX4_readOne_227 (fun H locs hw => ?_)
    replace hw : HB G AA sS.heap (mN G a (N) (tX (nI (r)) (nI (p + 1 - 1)) (nI (1)) (upd (O) (3 * r) (nI (sg C n p))) x)) H locs := HB.eq hw (by rw [tX_4])
    refine lv_aload_n E.1 E.2.1 dX4_readOne_230 rfl (lv_at hl 2 rfl) ?_
    refine lv_dup E.1 E.2.1 dX4_readOne_231 rfl ?_
    refine gX4_10 E hw mw_29_2 dX4_readOne_232 ?_
    refine lv_eqi (y := nI (r)) (rfl) ?_
    refine lv_iconst (v := nI 1) E.1 E.2.1 dX4_readOne_235 (by decide) ?_
    refine lv_addN E.1 E.2.1 dX4_readOne_236 ?_
    refine pX4_10 E hw mw_29_2 dX4_readOne_237 (fun H locs hw => ?_)
    replace hw : HB G AA sS.heap (mN G a (N) (tX (nI (r + 1)) (nI (p + 1 - 1)) (nI (1)) (upd (O) (3 * r) (nI (sg C n p))) x)) H locs := HB.eq hw (by rw [tX_3])
    exact rV E hr hlk (HB.eq hw (rfl)) dX4_readOne_240
  by_cases z30_112 : sg C n p = 112
  · refine lv_eqi (y := nI 112) (by rw [z30_112]) ?_
    refine lv_tableIn (tgt := 215) E.1 E.2.1 dX4_readOne_30 (by decide) (by decide) rfl (by decide) ?_
    refine lv_aload_n E.1 E.2.1 dX4_readOne_215 rfl (lv_at hl 2 rfl) ?_
    refine lv_iconst (v := nI 1) E.1 E.2.1 dX4_readOne_216 (by decide) ?_
    refine pX4_12 E hw mw_29_3 rfl rfl dX4_readOne_217 (fun H locs hw => ?_)
    replace hw : HB G AA sS.heap (mN G a (N) (tX (nI (r)) (nI (p + 1)) (nI (1)) (upd (O) (3 * r) (nI (sg C n p))) x)) H locs := HB.eq hw (by rw [tX_5])
    refine lv_aload_n E.1 E.2.1 dX4_readOne_220 rfl (lv_at hl 2 rfl) ?_
    refine lv_dup E.1 E.2.1 dX4_readOne_221 rfl ?_
    refine gX4_11 E hw mw_29_1 dX4_readOne_222 ?_
    refine lv_eqi (y := nI (p + 1)) (rfl) ?_
    refine lv_iconst (v := nI 1) E.1 E.2.1 dX4_readOne_225 (by decide) ?_
    refine lv_subN E.1 E.2.1 (by omega) dX4_readOne_226 ?_
    refine pX4_11 E hw mw_29_1 dX4_readOne_227 (fun H locs hw => ?_)
    replace hw : HB G AA sS.heap (mN G a (N) (tX (nI (r)) (nI (p + 1 - 1)) (nI (1)) (upd (O) (3 * r) (nI (sg C n p))) x)) H locs := HB.eq hw (by rw [tX_4])
    refine lv_aload_n E.1 E.2.1 dX4_readOne_230 rfl (lv_at hl 2 rfl) ?_
    refine lv_dup E.1 E.2.1 dX4_readOne_231 rfl ?_
    refine gX4_10 E hw mw_29_2 dX4_readOne_232 ?_
    refine lv_eqi (y := nI (r)) (rfl) ?_
    refine lv_iconst (v := nI 1) E.1 E.2.1 dX4_readOne_235 (by decide) ?_
    refine lv_addN E.1 E.2.1 dX4_readOne_236 ?_
    refine pX4_10 E hw mw_29_2 dX4_readOne_237 (fun H locs hw => ?_)
    replace hw : HB G AA sS.heap (mN G a (N) (tX (nI (r + 1)) (nI (p + 1 - 1)) (nI (1)) (upd (O) (3 * r) (nI (sg C n p))) x)) H locs := HB.eq hw (by rw [tX_3])
    exact rV E hr hlk (HB.eq hw (rfl)) dX4_readOne_240
  by_cases z30_113 : sg C n p = 113
  · refine lv_eqi (y := nI 113) (by rw [z30_113]) ?_
    refine lv_tableIn (tgt := 215) E.1 E.2.1 dX4_readOne_30 (by decide) (by decide) rfl (by decide) ?_
    refine lv_aload_n E.1 E.2.1 dX4_readOne_215 rfl (lv_at hl 2 rfl) ?_
    refine lv_iconst (v := nI 1) E.1 E.2.1 dX4_readOne_216 (by decide) ?_
    refine pX4_12 E hw mw_29_3 rfl rfl dX4_readOne_217 (fun H locs hw => ?_)
    replace hw : HB G AA sS.heap (mN G a (N) (tX (nI (r)) (nI (p + 1)) (nI (1)) (upd (O) (3 * r) (nI (sg C n p))) x)) H locs := HB.eq hw (by rw [tX_5])
    refine lv_aload_n E.1 E.2.1 dX4_readOne_220 rfl (lv_at hl 2 rfl) ?_
    refine lv_dup E.1 E.2.1 dX4_readOne_221 rfl ?_
    refine gX4_11 E hw mw_29_1 dX4_readOne_222 ?_
    refine lv_eqi (y := nI (p + 1)) (rfl) ?_
    refine lv_iconst (v := nI 1) E.1 E.2.1 dX4_readOne_225 (by decide) ?_
    refine lv_subN E.1 E.2.1 (by omega) dX4_readOne_226 ?_
    refine pX4_11 E hw mw_29_1 dX4_readOne_227 (fun H locs hw => ?_)
    replace hw : HB G AA sS.heap (mN G a (N) (tX (nI (r)) (nI (p + 1 - 1)) (nI (1)) (upd (O) (3 * r) (nI (sg C n p))) x)) H locs := HB.eq hw (by rw [tX_4])
    refine lv_aload_n E.1 E.2.1 dX4_readOne_230 rfl (lv_at hl 2 rfl) ?_
    refine lv_dup E.1 E.2.1 dX4_readOne_231 rfl ?_
    refine gX4_10 E hw mw_29_2 dX4_readOne_232 ?_
    refine lv_eqi (y := nI (r)) (rfl) ?_
    refine lv_iconst (v := nI 1) E.1 E.2.1 dX4_readOne_235 (by decide) ?_
    refine lv_addN E.1 E.2.1 dX4_readOne_236 ?_
    refine pX4_10 E hw mw_29_2 dX4_readOne_237 (fun H locs hw => ?_)
    replace hw : HB G AA sS.heap (mN G a (N) (tX (nI (r + 1)) (nI (p + 1 - 1)) (nI (1)) (upd (O) (3 * r) (nI (sg C n p))) x)) H locs := HB.eq hw (by rw [tX_3])
    exact rV E hr hlk (HB.eq hw (rfl)) dX4_readOne_240
  by_cases z30_115 : sg C n p = 115
  · refine lv_eqi (y := nI 115) (by rw [z30_115]) ?_
    refine lv_tableIn (tgt := 215) E.1 E.2.1 dX4_readOne_30 (by decide) (by decide) rfl (by decide) ?_
    refine lv_aload_n E.1 E.2.1 dX4_readOne_215 rfl (lv_at hl 2 rfl) ?_
    refine lv_iconst (v := nI 1) E.1 E.2.1 dX4_readOne_216 (by decide) ?_
    refine pX4_12 E hw mw_29_3 rfl rfl dX4_readOne_217 (fun H locs hw => ?_)
    replace hw : HB G AA sS.heap (mN G a (N) (tX (nI (r)) (nI (p + 1)) (nI (1)) (upd (O) (3 * r) (nI (sg C n p))) x)) H locs := HB.eq hw (by rw [tX_5])
    refine lv_aload_n E.1 E.2.1 dX4_readOne_220 rfl (lv_at hl 2 rfl) ?_
    refine lv_dup E.1 E.2.1 dX4_readOne_221 rfl ?_
    refine gX4_11 E hw mw_29_1 dX4_readOne_222 ?_
    refine lv_eqi (y := nI (p + 1)) (rfl) ?_
    refine lv_iconst (v := nI 1) E.1 E.2.1 dX4_readOne_225 (by decide) ?_
    refine lv_subN E.1 E.2.1 (by omega) dX4_readOne_226 ?_
    refine pX4_11 E hw mw_29_1 dX4_readOne_227 (fun H locs hw => ?_)
    replace hw : HB G AA sS.heap (mN G a (N) (tX (nI (r)) (nI (p + 1 - 1)) (nI (1)) (upd (O) (3 * r) (nI (sg C n p))) x)) H locs := HB.eq hw (by rw [tX_4])
    refine lv_aload_n E.1 E.2.1 dX4_readOne_230 rfl (lv_at hl 2 rfl) ?_
    refine lv_dup E.1 E.2.1 dX4_readOne_231 rfl ?_
    refine gX4_10 E hw mw_29_2 dX4_readOne_232 ?_
    refine lv_eqi (y := nI (r)) (rfl) ?_
    refine lv_iconst (v := nI 1) E.1 E.2.1 dX4_readOne_235 (by decide) ?_
    refine lv_addN E.1 E.2.1 dX4_readOne_236 ?_
    refine pX4_10 E hw mw_29_2 dX4_readOne_237 (fun H locs hw => ?_)
    replace hw : HB G AA sS.heap (mN G a (N) (tX (nI (r + 1)) (nI (p + 1 - 1)) (nI (1)) (upd (O) (3 * r) (nI (sg C n p))) x)) H locs := HB.eq hw (by rw [tX_3])
    exact rV E hr hlk (HB.eq hw (rfl)) dX4_readOne_240
  by_cases z30_117 : sg C n p = 117
  · refine lv_eqi (y := nI 117) (by rw [z30_117]) ?_
    refine lv_tableIn (tgt := 215) E.1 E.2.1 dX4_readOne_30 (by decide) (by decide) rfl (by decide) ?_
    refine lv_aload_n E.1 E.2.1 dX4_readOne_215 rfl (lv_at hl 2 rfl) ?_
    refine lv_iconst (v := nI 1) E.1 E.2.1 dX4_readOne_216 (by decide) ?_
    refine pX4_12 E hw mw_29_3 rfl rfl dX4_readOne_217 (fun H locs hw => ?_)
    replace hw : HB G AA sS.heap (mN G a (N) (tX (nI (r)) (nI (p + 1)) (nI (1)) (upd (O) (3 * r) (nI (sg C n p))) x)) H locs := HB.eq hw (by rw [tX_5])
    refine lv_aload_n E.1 E.2.1 dX4_readOne_220 rfl (lv_at hl 2 rfl) ?_
    refine lv_dup E.1 E.2.1 dX4_readOne_221 rfl ?_
    refine gX4_11 E hw mw_29_1 dX4_readOne_222 ?_
    refine lv_eqi (y := nI (p + 1)) (rfl) ?_
    refine lv_iconst (v := nI 1) E.1 E.2.1 dX4_readOne_225 (by decide) ?_
    refine lv_subN E.1 E.2.1 (by omega) dX4_readOne_226 ?_
    refine pX4_11 E hw mw_29_1 dX4_readOne_227 (fun H locs hw => ?_)
    replace hw : HB G AA sS.heap (mN G a (N) (tX (nI (r)) (nI (p + 1 - 1)) (nI (1)) (upd (O) (3 * r) (nI (sg C n p))) x)) H locs := HB.eq hw (by rw [tX_4])
    refine lv_aload_n E.1 E.2.1 dX4_readOne_230 rfl (lv_at hl 2 rfl) ?_
    refine lv_dup E.1 E.2.1 dX4_readOne_231 rfl ?_
    refine gX4_10 E hw mw_29_2 dX4_readOne_232 ?_
    refine lv_eqi (y := nI (r)) (rfl) ?_
    refine lv_iconst (v := nI 1) E.1 E.2.1 dX4_readOne_235 (by decide) ?_
    refine lv_addN E.1 E.2.1 dX4_readOne_236 ?_
    refine pX4_10 E hw mw_29_2 dX4_readOne_237 (fun H locs hw => ?_)
    replace hw : HB G AA sS.heap (mN G a (N) (tX (nI (r + 1)) (nI (p + 1 - 1)) (nI (1)) (upd (O) (3 * r) (nI (sg C n p))) x)) H locs := HB.eq hw (by rw [tX_3])
    exact rV E hr hlk (HB.eq hw (rfl)) dX4_readOne_240
  by_cases z30_118 : sg C n p = 118
  · refine lv_eqi (y := nI 118) (by rw [z30_118]) ?_
    refine lv_tableIn (tgt := 215) E.1 E.2.1 dX4_readOne_30 (by decide) (by decide) rfl (by decide) ?_
    refine lv_aload_n E.1 E.2.1 dX4_readOne_215 rfl (lv_at hl 2 rfl) ?_
    refine lv_iconst (v := nI 1) E.1 E.2.1 dX4_readOne_216 (by decide) ?_
    refine pX4_12 E hw mw_29_3 rfl rfl dX4_readOne_217 (fun H locs hw => ?_)
    replace hw : HB G AA sS.heap (mN G a (N) (tX (nI (r)) (nI (p + 1)) (nI (1)) (upd (O) (3 * r) (nI (sg C n p))) x)) H locs := HB.eq hw (by rw [tX_5])
    refine lv_aload_n E.1 E.2.1 dX4_readOne_220 rfl (lv_at hl 2 rfl) ?_
    refine lv_dup E.1 E.2.1 dX4_readOne_221 rfl ?_
    refine gX4_11 E hw mw_29_1 dX4_readOne_222 ?_
    refine lv_eqi (y := nI (p + 1)) (rfl) ?_
    refine lv_iconst (v := nI 1) E.1 E.2.1 dX4_readOne_225 (by decide) ?_
    refine lv_subN E.1 E.2.1 (by omega) dX4_readOne_226 ?_
    refine pX4_11 E hw mw_29_1 dX4_readOne_227 (fun H locs hw => ?_)
    replace hw : HB G AA sS.heap (mN G a (N) (tX (nI (r)) (nI (p + 1 - 1)) (nI (1)) (upd (O) (3 * r) (nI (sg C n p))) x)) H locs := HB.eq hw (by rw [tX_4])
    refine lv_aload_n E.1 E.2.1 dX4_readOne_230 rfl (lv_at hl 2 rfl) ?_
    refine lv_dup E.1 E.2.1 dX4_readOne_231 rfl ?_
    refine gX4_10 E hw mw_29_2 dX4_readOne_232 ?_
    refine lv_eqi (y := nI (r)) (rfl) ?_
    refine lv_iconst (v := nI 1) E.1 E.2.1 dX4_readOne_235 (by decide) ?_
    refine lv_addN E.1 E.2.1 dX4_readOne_236 ?_
    refine pX4_10 E hw mw_29_2 dX4_readOne_237 (fun H locs hw => ?_)
    replace hw : HB G AA sS.heap (mN G a (N) (tX (nI (r + 1)) (nI (p + 1 - 1)) (nI (1)) (upd (O) (3 * r) (nI (sg C n p))) x)) H locs := HB.eq hw (by rw [tX_3])
    exact rV E hr hlk (HB.eq hw (rfl)) dX4_readOne_240
  refine lv_tableOutN (tgt := 215) E.1 E.2.1 (by omega) dX4_readOne_30 (by omega) (by decide) ?_
  refine lv_aload_n E.1 E.2.1 dX4_readOne_215 rfl (lv_at hl 2 rfl) ?_
  refine lv_iconst (v := nI 1) E.1 E.2.1 dX4_readOne_216 (by decide) ?_
  refine pX4_12 E hw mw_29_3 rfl rfl dX4_readOne_217 (fun H locs hw => ?_)
  replace hw : HB G AA sS.heap (mN G a (N) (tX (nI (r)) (nI (p + 1)) (nI (1)) (upd (O) (3 * r) (nI (sg C n p))) x)) H locs := HB.eq hw (by rw [tX_5])
  refine lv_aload_n E.1 E.2.1 dX4_readOne_220 rfl (lv_at hl 2 rfl) ?_
  refine lv_dup E.1 E.2.1 dX4_readOne_221 rfl ?_
  refine gX4_11 E hw mw_29_1 dX4_readOne_222 ?_
  refine lv_eqi (y := nI (p + 1)) (rfl) ?_
  refine lv_iconst (v := nI 1) E.1 E.2.1 dX4_readOne_225 (by decide) ?_
  refine lv_subN E.1 E.2.1 (by omega) dX4_readOne_226 ?_
  refine pX4_11 E hw mw_29_1 dX4_readOne_227 (fun H locs hw => ?_)
  replace hw : HB G AA sS.heap (mN G a (N) (tX (nI (r)) (nI (p + 1 - 1)) (nI (1)) (upd (O) (3 * r) (nI (sg C n p))) x)) H locs := HB.eq hw (by rw [tX_4])
  refine lv_aload_n E.1 E.2.1 dX4_readOne_230 rfl (lv_at hl 2 rfl) ?_
  refine lv_dup E.1 E.2.1 dX4_readOne_231 rfl ?_
  refine gX4_10 E hw mw_29_2 dX4_readOne_232 ?_
  refine lv_eqi (y := nI (r)) (rfl) ?_
  refine lv_iconst (v := nI 1) E.1 E.2.1 dX4_readOne_235 (by decide) ?_
  refine lv_addN E.1 E.2.1 dX4_readOne_236 ?_
  refine pX4_10 E hw mw_29_2 dX4_readOne_237 (fun H locs hw => ?_)
  replace hw : HB G AA sS.heap (mN G a (N) (tX (nI (r + 1)) (nI (p + 1 - 1)) (nI (1)) (upd (O) (3 * r) (nI (sg C n p))) x)) H locs := HB.eq hw (by rw [tX_3])
  exact rV E hr hlk (HB.eq hw (rfl)) dX4_readOne_240

theorem nsub {a b : Nat} (h : b ≤ a) : nI a - nI b = nI (a - b) := by
  have := nI_add (a - b) b
  rw [Nat.sub_add_cancel h] at this
  rw [← this, Int32.add_sub_cancel]
theorem nsub_lt {a b : Nat} (ha : a < 200) (hb : b < 200) : nI a - nI b < 0 ↔ a < b := by
  have h1 : (nI a - nI b).toInt = (a : Int) - b := by
    rw [Int32.toInt_sub, nI_toInt (by omega), nI_toInt (by omega)]
    exact Int.bmod_eq_of_le (by omega) (by omega)
  rw [Int32.lt_iff_toInt_lt, h1, show (0 : Int32).toInt = 0 by decide]
  omega
theorem nsub_d {k m : Nat} (h : m + 1 ≤ k) : nI (k - (m + 1)) + (-1) = nI k - nI (m + 1 + 1) := by
  rw [← nsub h, ← nI_add (m + 1) 1, Int32.sub_eq_add_neg, Int32.sub_eq_add_neg, Int32.neg_add, Int32.sub_eq_add_neg, Int32.add_assoc]
  rfl
theorem YX3_put : YV yX3_put RX3 cX3_put 5 (some .int) 1 := ⟨mw_25_17, mw_25_18, mw_1_2, mw_25_19, by decide +kernel⟩
set_option maxHeartbeats 4000000 in
set_option maxRecDepth 100000 in
theorem c_X3_put_bad (l : Launch) (G : GP) (b : Nat → Nat) (ad : Nat → Nat → Nat) (v pd rv : Nat → Int32) (Ns : Nat → NS) (pl : Nat) (hl0 : v 3 = nI pl) (hpl : pl ≤ 60) (X : Nat) (hX : X < 2 ^ 64) (hk : (ch 8 X).getD 0 = 0) : MI l yX3_put (.code yX3_put cX3_put 5 (some .int) :: GW) ({ frames := 2, cells := 0, slots := 0, locals := 70 }) [.ref (b 0), .long (nL (X))] G ES (cW G b ad (v) (pd) (rv) (Ns)) (cW G b ad (v) (pd) (rv) (Ns)) (-2) := by
  refine MI.of (own := RX3) rfl rfl (Nat.le_of_ble_eq_true rfl) ?_
  intro pP eE sS mM below meth cC ls AA E hw hl hr hlk hE
  replace hl : lv_has ls 5 [(0, .ref (b 0)), (1, .long (nL (X)))] := hl
  refine lv_lload_n E.1 E.2.1 dX3_put_0 rfl (lv_at hl 1 rfl) ?_
  refine callSI E (c_X3_charactersIn l G X hX) mw_25_20 YX3_charactersIn ⟨rfl, rfl⟩ ⟨Nat.le_of_ble_eq_true rfl, Nat.le_of_ble_eq_true rfl⟩ ⟨Nat.zero_le _, Nat.zero_le _⟩ hw (w := []) (w' := []) (rr := cW G b ad (v) (pd) (rv) (Ns)) (big' := cW G b ad (v) (pd) (rv) (Ns)) (List.Perm.refl _) (List.Perm.refl _) rfl hl rfl (Nat.le_of_ble_eq_true rfl) dX3_put_1 (fun H locs hw => ?_)
  refine lv_istore_n (lv' := [(3, .int (nI ((ch 8 X).getD 0))), (0, .ref (b 0)), (1, .long (nL (X)))]) E.1 E.2.1 dX3_put_4 rfl hl (by decide) rfl (fun ls hl => ?_)
  refine lv_iload_n E.1 E.2.1 dX3_put_5 rfl (lv_at hl 0 rfl) ?_
  refine lv_if_neN (tgt := 12) E.1 E.2.1 (by omega) dX3_put_6 (by decide) (fun c6 => ?_) (fun c6 => ?_)
  · omega
  · skip
    refine lv_bipush (v := -2) E.1 E.2.1 dX3_put_9 (by decide) ?_
    exact rI E hr hlk (HB.eq hw (rfl)) (rfl) dX3_put_11
set_option maxHeartbeats 4000000 in
set_option maxRecDepth 100000 in
theorem c_X3_put_full (l : Launch) (G : GP) (b : Nat → Nat) (ad : Nat → Nat → Nat) (v pd rv : Nat → Int32) (Ns : Nat → NS) (pl : Nat) (hl0 : v 3 = nI pl) (hpl : pl ≤ 60) (X : Nat) (hX : X < 2 ^ 64) (k : Nat) (hk : ch 8 X = some k) (hk0 : 0 < k) (hf : 60 < pl + k) : MI l yX3_put (.code yX3_put cX3_put 5 (some .int) :: GW) ({ frames := 2, cells := 0, slots := 0, locals := 70 }) [.ref (b 0), .long (nL (X))] G ES (cW G b ad (v) (pd) (rv) (Ns)) (cW G b ad (v) (pd) (rv) (Ns)) (-4) := by
  refine MI.of (own := RX3) rfl rfl (Nat.le_of_ble_eq_true rfl) ?_
  intro pP eE sS mM below meth cC ls AA E hw hl hr hlk hE
  replace hl : lv_has ls 5 [(0, .ref (b 0)), (1, .long (nL (X)))] := hl
  have hk8 := (ch_le 8 X k hk).1
  have hkD : (ch 8 X).getD 0 = k := by rw [hk]; rfl
  refine lv_lload_n E.1 E.2.1 dX3_put_0 rfl (lv_at hl 1 rfl) ?_
  refine callSI E (c_X3_charactersIn l G X hX) mw_25_20 YX3_charactersIn ⟨rfl, rfl⟩ ⟨Nat.le_of_ble_eq_true rfl, Nat.le_of_ble_eq_true rfl⟩ ⟨Nat.zero_le _, Nat.zero_le _⟩ hw (w := []) (w' := []) (rr := cW G b ad (v) (pd) (rv) (Ns)) (big' := cW G b ad (v) (pd) (rv) (Ns)) (List.Perm.refl _) (List.Perm.refl _) rfl hl rfl (Nat.le_of_ble_eq_true rfl) dX3_put_1 (fun H locs hw => ?_)
  refine lv_eqi (y := nI (k)) (by rw [hkD]) ?_
  refine lv_istore_n (lv' := [(3, .int (nI (k))), (0, .ref (b 0)), (1, .long (nL (X)))]) E.1 E.2.1 dX3_put_4 rfl hl (by decide) rfl (fun ls hl => ?_)
  refine lv_iload_n E.1 E.2.1 dX3_put_5 rfl (lv_at hl 0 rfl) ?_
  refine lv_if_neN (tgt := 12) E.1 E.2.1 (by omega) dX3_put_6 (by decide) (fun c6 => ?_) (fun c6 => ?_)
  · skip
    refine lv_aload_n E.1 E.2.1 dX3_put_12 rfl (lv_at hl 1 rfl) ?_
    refine gX3_8 E hw mw_21_2 dX3_put_13 ?_
    refine lv_eqi (y := nI (pl)) (hl0) ?_
    refine lv_iload_n E.1 E.2.1 dX3_put_16 rfl (lv_at hl 0 rfl) ?_
    refine lv_addN E.1 E.2.1 dX3_put_17 ?_
    refine lv_bipush (v := nI 60) E.1 E.2.1 dX3_put_18 (by decide) ?_
    refine lv_icmp_leN (tgt := 26) E.1 E.2.1 (by omega) (by omega) dX3_put_20 (by decide) (fun c20 => ?_) (fun c20 => ?_)
    · omega
    · skip
      refine lv_bipush (v := -4) E.1 E.2.1 dX3_put_23 (by decide) ?_
      exact rI E hr hlk (HB.eq hw (rfl)) (rfl) dX3_put_25
  · omega
set_option maxHeartbeats 4000000 in
set_option maxRecDepth 100000 in
theorem c_X3_put_ok (l : Launch) (G : GP) (b : Nat → Nat) (ad : Nat → Nat → Nat) (v pd rv : Nat → Int32) (Ns : Nat → NS) (pl : Nat) (hl0 : v 3 = nI pl) (hpl : pl ≤ 60) (X : Nat) (hX : X < 2 ^ 64) (k : Nat) (hk : ch 8 X = some k) (hk0 : 0 < k) (hf : pl + k ≤ 60) : MI l yX3_put (.code yX3_put cX3_put 5 (some .int) :: GW) ({ frames := 2, cells := 0, slots := 0, locals := 70 }) [.ref (b 0), .long (nL (X))] G ES (cW G b ad (v) (pd) (rv) (Ns)) (cW G b ad (upd (v) 3 (nI (pl + k))) (cP X pl k k pd) (rv) (Ns)) (nI (pl + k)) := by
  refine MI.of (own := RX3) rfl rfl (Nat.le_of_ble_eq_true rfl) ?_
  intro pP eE sS mM below meth cC ls AA E hw hl hr hlk hE
  replace hl : lv_has ls 5 [(0, .ref (b 0)), (1, .long (nL (X)))] := hl
  have hk8 := (ch_le 8 X k hk).1
  have hkD : (ch 8 X).getD 0 = k := by rw [hk]; rfl
  refine lv_lload_n E.1 E.2.1 dX3_put_0 rfl (lv_at hl 1 rfl) ?_
  refine callSI E (c_X3_charactersIn l G X hX) mw_25_20 YX3_charactersIn ⟨rfl, rfl⟩ ⟨Nat.le_of_ble_eq_true rfl, Nat.le_of_ble_eq_true rfl⟩ ⟨Nat.zero_le _, Nat.zero_le _⟩ hw (w := []) (w' := []) (rr := cW G b ad (v) (pd) (rv) (Ns)) (big' := cW G b ad (v) (pd) (rv) (Ns)) (List.Perm.refl _) (List.Perm.refl _) rfl hl rfl (Nat.le_of_ble_eq_true rfl) dX3_put_1 (fun H locs hw => ?_)
  refine lv_eqi (y := nI (k)) (by rw [hkD]) ?_
  refine lv_istore_n (lv' := [(3, .int (nI (k))), (0, .ref (b 0)), (1, .long (nL (X)))]) E.1 E.2.1 dX3_put_4 rfl hl (by decide) rfl (fun ls hl => ?_)
  refine lv_iload_n E.1 E.2.1 dX3_put_5 rfl (lv_at hl 0 rfl) ?_
  refine lv_if_neN (tgt := 12) E.1 E.2.1 (by omega) dX3_put_6 (by decide) (fun c6 => ?_) (fun c6 => ?_)
  · skip
    refine lv_aload_n E.1 E.2.1 dX3_put_12 rfl (lv_at hl 1 rfl) ?_
    refine gX3_8 E hw mw_21_2 dX3_put_13 ?_
    refine lv_eqi (y := nI (pl)) (hl0) ?_
    refine lv_iload_n E.1 E.2.1 dX3_put_16 rfl (lv_at hl 0 rfl) ?_
    refine lv_addN E.1 E.2.1 dX3_put_17 ?_
    refine lv_bipush (v := nI 60) E.1 E.2.1 dX3_put_18 (by decide) ?_
    refine lv_icmp_leN (tgt := 26) E.1 E.2.1 (by omega) (by omega) dX3_put_20 (by decide) (fun c20 => ?_) (fun c20 => ?_)
    · skip
      refine lv_aload_n E.1 E.2.1 dX3_put_26 rfl (lv_at hl 1 rfl) ?_
      refine lv_dup E.1 E.2.1 dX3_put_27 rfl ?_
      refine gX3_8 E hw mw_21_2 dX3_put_28 ?_
      refine lv_eqi (y := nI (pl)) (hl0) ?_
      refine lv_iload_n E.1 E.2.1 dX3_put_31 rfl (lv_at hl 0 rfl) ?_
      refine lv_addN E.1 E.2.1 dX3_put_32 ?_
      refine pX3_8 E hw mw_21_2 dX3_put_33 (fun H locs hw => ?_)
      refine lv_iconst (v := nI 0) E.1 E.2.1 dX3_put_36 (by decide) ?_
      refine lv_istore (lv' := [(4, .int (nI (0))), (3, .int (nI (k))), (0, .ref (b 0)), (1, .long (nL (X)))]) E.1 E.2.1 dX3_put_37 hl (by decide) rfl (fun ls hl => ?_)
      refine W_ind1 (nL := 5) (P := fun m => m ≤ k) (μ := fun m => k - m) (I := fun m => cW G b ad (upd (v) 3 (nI (pl + k))) (cP X pl k m pd) (rv) (Ns)) (L := fun m => [(0, .ref (b 0)), (1, .long (nL (X))), (3, .int (nI (k))), (4, .int (nI (m)))]) ?_ (0) (Nat.zero_le _) (HB.eq hw (by rw [cP_0])) (lvh_eq (l := [(0, .ref (b 0)), (1, .long (nL (X))), (3, .int (nI (k))), (4, .int (nI (0)))]) (lv_sub hl [2, 3, 1, 0] rfl) (rfl))
      intro m hP ih H locs ls hw hl
      replace hw : HB G AA sS.heap (cW G b ad (upd (v) 3 (nI (pl + k))) (cP X pl k m pd) (rv) (Ns)) H locs := hw
      replace hl : lv_has ls 5 [(0, .ref (b 0)), (1, .long (nL (X))), (3, .int (nI (k))), (4, .int (nI (m)))] := hl
      refine lv_iload E.1 E.2.1 dX3_put_39 (lv_at hl 3 rfl) ?_
      refine lv_iload_n E.1 E.2.1 dX3_put_41 rfl (lv_at hl 2 rfl) ?_
      refine lv_icmp_geN (tgt := 72) E.1 E.2.1 (by omega) (by omega) dX3_put_42 (by decide) (fun c42 => ?_) (fun c42 => ?_)
      · skip
        refine lv_aload_n E.1 E.2.1 dX3_put_72 rfl (lv_at hl 0 rfl) ?_
        refine gX3_8 E hw mw_21_2 dX3_put_73 ?_
        refine lv_eqi (y := nI (pl + k)) (rfl) ?_
        exact rI E hr hlk (HB.eq hw (by rw [show m = k by omega])) (rfl) dX3_put_76
      · skip
        refine lv_aload_n E.1 E.2.1 dX3_put_45 rfl (lv_at hl 0 rfl) ?_
        refine gX3_7 E hw mw_1_21 dX3_put_46 ?_
        refine lv_aload_n E.1 E.2.1 dX3_put_49 rfl (lv_at hl 0 rfl) ?_
        refine gX3_8 E hw mw_21_2 dX3_put_50 ?_
        refine lv_eqi (y := nI (pl + k)) (rfl) ?_
        refine lv_iconst (v := nI 1) E.1 E.2.1 dX3_put_53 (by decide) ?_
        refine lv_subN E.1 E.2.1 (by omega) dX3_put_54 ?_
        refine lv_iload E.1 E.2.1 dX3_put_55 (lv_at hl 3 rfl) ?_
        refine lv_subN E.1 E.2.1 (by omega) dX3_put_57 ?_
        refine lv_lload_n E.1 E.2.1 dX3_put_58 rfl (lv_at hl 1 rfl) ?_
        refine lv_iload E.1 E.2.1 dX3_put_59 (lv_at hl 3 rfl) ?_
        refine callSI E (c_X3_codeAt l G X hX m (by omega)) mw_25_23 YX3_codeAt ⟨rfl, rfl⟩ ⟨Nat.le_of_ble_eq_true rfl, Nat.le_of_ble_eq_true rfl⟩ ⟨Nat.zero_le _, Nat.zero_le _⟩ hw (w := []) (w' := []) (rr := cW G b ad (upd (v) 3 (nI (pl + k))) (cP X pl k m pd) (rv) (Ns)) (big' := cW G b ad (upd (v) 3 (nI (pl + k))) (cP X pl k m pd) (rv) (Ns)) (List.Perm.refl _) (List.Perm.refl _) rfl hl rfl (Nat.le_of_ble_eq_true rfl) dX3_put_61 (fun H locs hw => ?_)
        refine lv_i2c (v := nI (X / 256 ^ m % 256)) E.1 E.2.1 dX3_put_64 (nI_c _ (by omega)) ?_
        refine sX3_p E hw (by omega) (nI_nc _ (by omega)) dX3_put_65 (fun H locs hw => ?_)
        refine lv_iincN (k := 3) (lv' := [(4, .int (nI (m + 1))), (0, .ref (b 0)), (1, .long (nL (X))), (3, .int (nI (k)))]) E.1 E.2.1 dX3_put_66 hl rfl (by decide) rfl (fun ls hl => ?_)
        refine lv_goto (tgt := 39) E.1 E.2.1 dX3_put_69 (by decide) ?_
        exact ih (m + 1) (by omega) (by omega) _ _ _ (HB.eq hw (by rw [cP_s (by omega)])) (lvh_eq (l := [(0, .ref (b 0)), (1, .long (nL (X))), (3, .int (nI (k))), (4, .int (nI (m + 1)))]) (lv_sub hl [1, 2, 3, 0] rfl) (rfl))
    · omega
  · omega
theorem YX4_put : YV yX4_put RX4 cX4_put 7 (some .int) 1 := ⟨mw_26_4, mw_26_5, mw_1_5, mw_26_6, by decide +kernel⟩
set_option maxHeartbeats 4000000 in
set_option maxRecDepth 100000 in
theorem c_X4_put_bad (l : Launch) (G : GP) (a : Nat → Nat) (N : NS) (x : MX) (n : Nat) (hn1 : x.1 1 = nI n) (hn6 : n ≤ 60) (X : Nat) (hX : X < 2 ^ 64) (hk : (ch 8 X).getD 0 = 0) : MI l yX4_put (.code yX4_put cX4_put 7 (some .int) :: GW) ({ frames := 1, cells := 0, slots := 0, locals := 70 }) [.ref (a 0), .long (nL (X))] G ES (mN G a (N) (x)) (mN G a (N) (x)) (-2) := by
  refine MI.of (own := RX4) rfl rfl (Nat.le_of_ble_eq_true rfl) ?_
  intro pP eE sS mM below meth cC ls AA E hw hl hr hlk hE
  replace hl : lv_has ls 7 [(0, .ref (a 0)), (1, .long (nL (X)))] := hl
  refine lv_iconst (v := nI 0) E.1 E.2.1 dX4_put_0 (by decide) ?_
  refine lv_istore_n (lv' := [(3, .int (nI (0))), (0, .ref (a 0)), (1, .long (nL (X)))]) E.1 E.2.1 dX4_put_1 rfl hl (by decide) rfl (fun ls hl => ?_)
  refine lv_lload_n E.1 E.2.1 dX4_put_2 rfl (lv_at hl 2 rfl) ?_
  refine lv_lstore (lv' := [(4, .long (nL (X))), (3, .int (nI (0))), (0, .ref (a 0)), (1, .long (nL (X)))]) E.1 E.2.1 dX4_put_3 hl (by decide) rfl (fun ls hl => ?_)
  refine W_ind1 (nL := 7) (P := fun i => chI X i) (μ := fun i => 8 - i) (I := fun i => mN G a (N) (x)) (L := fun i => [(0, .ref (a 0)), (1, .long (nL (X))), (3, .int (nI (i))), (4, .long (nL (X / 256 ^ i)))]) ?_ (0) (chI.o X) (HB.eq hw (rfl)) (lvh_eq (l := [(0, .ref (a 0)), (1, .long (nL (X))), (3, .int (nI (0))), (4, .long (nL (X)))]) (lv_sub hl [2, 3, 1, 0] rfl) (by rw [Nat.pow_zero, Nat.div_one]))
  intro i hP ih H locs ls hw hl
  replace hw : HB G AA sS.heap (mN G a (N) (x)) H locs := hw
  replace hl : lv_has ls 7 [(0, .ref (a 0)), (1, .long (nL (X))), (3, .int (nI (i))), (4, .long (nL (X / 256 ^ i)))] := hl
  have hPi := hP.1
  have hdv := dvd8 hX i
  refine lv_lload E.1 E.2.1 dX4_put_5 (lv_at hl 3 rfl) ?_
  refine lv_ldc2 (v := 255) E.1 E.2.1 E.2.2.2.1 (E.2.2.2.2.1 _ mw_26_7) dX4_put_7 ?_
  refine lv_land E.1 E.2.1 dX4_put_10 (lv_eqL (y := nL ((X / 256 ^ i) % 256)) (nL_and (by omega)) ?_)
  refine lv_lconst (v := 0) E.1 E.2.1 dX4_put_11 (by decide) ?_
  refine W.lcmp E.1 E.2.1 dX4_put_12 ?_
  refine lv_if_eq (tgt := 49) E.1 E.2.1 dX4_put_13 (by decide) (fun c13 => ?_) (fun c13 => ?_)
  · skip
    have e13 : X / 256 ^ i % 256 = 0 := (cmp_0 (by omega)).mp c13
    refine lv_lload E.1 E.2.1 dX4_put_49 (lv_at hl 3 rfl) ?_
    refine lv_lconst (v := 0) E.1 E.2.1 dX4_put_51 (by decide) ?_
    refine W.lcmp E.1 E.2.1 dX4_put_52 ?_
    refine lv_if_ne (tgt := 60) E.1 E.2.1 dX4_put_53 (by decide) (fun c53 => ?_) (fun c53 => ?_)
    · skip
      have hno := hP.nz e13 (fun z => c53 ((cmp_0 (by omega)).mpr z))
      refine lv_bipush (v := -2) E.1 E.2.1 dX4_put_60 (by decide) ?_
      exact rI E hr hlk (HB.eq hw (rfl)) (rfl) dX4_put_62
    · skip
      have hso := hP.z ((cmp_0 (by omega)).mp c53)
      refine lv_iload_n E.1 E.2.1 dX4_put_56 rfl (lv_at hl 2 rfl) ?_
      refine lv_if_neN (tgt := 63) E.1 E.2.1 (by omega) dX4_put_57 (by decide) (fun c57 => ?_) (fun c57 => ?_)
      · rw [hso] at hk; exact absurd hk c57
      · skip
        refine lv_bipush (v := -2) E.1 E.2.1 dX4_put_60 (by decide) ?_
        exact rI E hr hlk (HB.eq hw (rfl)) (rfl) dX4_put_62
  · skip
    have e13 : ¬ X / 256 ^ i % 256 = 0 := fun z => c13 ((cmp_0 (by omega)).mpr z)
    refine lv_lload E.1 E.2.1 dX4_put_16 (lv_at hl 3 rfl) ?_
    refine lv_ldc2 (v := 255) E.1 E.2.1 E.2.2.2.1 (E.2.2.2.2.1 _ mw_26_7) dX4_put_18 ?_
    refine lv_land E.1 E.2.1 dX4_put_21 (lv_eqL (y := nL ((X / 256 ^ i) % 256)) (nL_and (by omega)) ?_)
    refine lv_l2i (v := nI ((X / 256 ^ i) % 256)) E.1 E.2.1 dX4_put_22 (nL_i _ (by omega)) ?_
    refine lv_bipush (v := nI 33) E.1 E.2.1 dX4_put_23 (by decide) ?_
    refine lv_bipush (v := nI 126) E.1 E.2.1 dX4_put_25 (by decide) ?_
    refine callSI E (c_X4_in l G (nI ((X / 256 ^ i) % 256)) (nI (33)) (nI (126))) mw_5_13 YX4_in ⟨rfl, rfl⟩ ⟨Nat.le_of_ble_eq_true rfl, Nat.le_of_ble_eq_true rfl⟩ ⟨Nat.zero_le _, Nat.zero_le _⟩ hw (w := []) (w' := []) (rr := mN G a (N) (x)) (big' := mN G a (N) (x)) (List.Perm.refl _) (List.Perm.refl _) rfl hl rfl (Nat.le_of_ble_eq_true rfl) dX4_put_27 (fun H locs hw => ?_)
    refine lv_if_neB (tgt := 36) E.1 E.2.1 dX4_put_30 (by decide) (fun c30 => ?_) (fun c30 => ?_)
    · skip
      have d30 := (nin (by omega) (by decide) (by decide)).mp c30
      refine lv_iincN (k := 2) (lv' := [(3, .int (nI (i + 1))), (0, .ref (a 0)), (1, .long (nL (X))), (4, .long (nL (X / 256 ^ i)))]) E.1 E.2.1 dX4_put_36 hl rfl (by decide) rfl (fun ls hl => ?_)
      refine lv_lload E.1 E.2.1 dX4_put_39 (lv_at hl 3 rfl) ?_
      refine lv_bipush (v := nI 8) E.1 E.2.1 dX4_put_41 (by decide) ?_
      refine lv_lushr (v := nL ((X / 256 ^ i) / 256)) E.1 E.2.1 dX4_put_43 (nL_sh8 (by omega)) ?_
      refine lv_lstore (lv' := [(4, .long (nL ((X / 256 ^ i) / 256))), (3, .int (nI (i + 1))), (0, .ref (a 0)), (1, .long (nL (X)))]) E.1 E.2.1 dX4_put_44 hl (by decide) rfl (fun ls hl => ?_)
      refine lv_goto (tgt := 5) E.1 E.2.1 dX4_put_46 (by decide) ?_
      exact ih (i + 1) (hP.up hX e13 d30) (by have := hP.h8 hX e13; omega) _ _ _ (HB.eq hw (rfl)) (lvh_eq (l := [(0, .ref (a 0)), (1, .long (nL (X))), (3, .int (nI (i + 1))), (4, .long (nL ((X / 256 ^ i) / 256)))]) (lv_sub hl [2, 3, 1, 0] rfl) (by rw [Nat.div_div_eq_div_mul, ← Nat.pow_succ]))
    · skip
      have hno := hP.no e13 (fun z => c30 ((nin (by omega) (by decide) (by decide)).mpr z))
      refine lv_bipush (v := -2) E.1 E.2.1 dX4_put_33 (by decide) ?_
      exact rI E hr hlk (HB.eq hw (rfl)) (rfl) dX4_put_35
set_option maxHeartbeats 4000000 in
set_option maxRecDepth 100000 in
theorem c_X4_put_full (l : Launch) (G : GP) (a : Nat → Nat) (N : NS) (x : MX) (n : Nat) (hn1 : x.1 1 = nI n) (hn6 : n ≤ 60) (X : Nat) (hX : X < 2 ^ 64) (k : Nat) (hk : ch 8 X = some k) (hk0 : 0 < k) (hf : 60 < n + k) : MI l yX4_put (.code yX4_put cX4_put 7 (some .int) :: GW) ({ frames := 1, cells := 0, slots := 0, locals := 70 }) [.ref (a 0), .long (nL (X))] G ES (mN G a (N) (x)) (mN G a (N) (x)) (-4) := by
  refine MI.of (own := RX4) rfl rfl (Nat.le_of_ble_eq_true rfl) ?_
  intro pP eE sS mM below meth cC ls AA E hw hl hr hlk hE
  replace hl : lv_has ls 7 [(0, .ref (a 0)), (1, .long (nL (X)))] := hl
  have hk8 := (ch_le 8 X k hk).1
  have hkD : (ch 8 X).getD 0 = k := by rw [hk]; rfl
  refine lv_iconst (v := nI 0) E.1 E.2.1 dX4_put_0 (by decide) ?_
  refine lv_istore_n (lv' := [(3, .int (nI (0))), (0, .ref (a 0)), (1, .long (nL (X)))]) E.1 E.2.1 dX4_put_1 rfl hl (by decide) rfl (fun ls hl => ?_)
  refine lv_lload_n E.1 E.2.1 dX4_put_2 rfl (lv_at hl 2 rfl) ?_
  refine lv_lstore (lv' := [(4, .long (nL (X))), (3, .int (nI (0))), (0, .ref (a 0)), (1, .long (nL (X)))]) E.1 E.2.1 dX4_put_3 hl (by decide) rfl (fun ls hl => ?_)
  refine W_ind1 (nL := 7) (P := fun i => chI X i) (μ := fun i => 8 - i) (I := fun i => mN G a (N) (x)) (L := fun i => [(0, .ref (a 0)), (1, .long (nL (X))), (3, .int (nI (i))), (4, .long (nL (X / 256 ^ i)))]) ?_ (0) (chI.o X) (HB.eq hw (rfl)) (lvh_eq (l := [(0, .ref (a 0)), (1, .long (nL (X))), (3, .int (nI (0))), (4, .long (nL (X)))]) (lv_sub hl [2, 3, 1, 0] rfl) (by rw [Nat.pow_zero, Nat.div_one]))
  intro i hP ih H locs ls hw hl
  replace hw : HB G AA sS.heap (mN G a (N) (x)) H locs := hw
  replace hl : lv_has ls 7 [(0, .ref (a 0)), (1, .long (nL (X))), (3, .int (nI (i))), (4, .long (nL (X / 256 ^ i)))] := hl
  have hPi := hP.1
  have hdv := dvd8 hX i
  refine lv_lload E.1 E.2.1 dX4_put_5 (lv_at hl 3 rfl) ?_
  refine lv_ldc2 (v := 255) E.1 E.2.1 E.2.2.2.1 (E.2.2.2.2.1 _ mw_26_7) dX4_put_7 ?_
  refine lv_land E.1 E.2.1 dX4_put_10 (lv_eqL (y := nL ((X / 256 ^ i) % 256)) (nL_and (by omega)) ?_)
  refine lv_lconst (v := 0) E.1 E.2.1 dX4_put_11 (by decide) ?_
  refine W.lcmp E.1 E.2.1 dX4_put_12 ?_
  refine lv_if_eq (tgt := 49) E.1 E.2.1 dX4_put_13 (by decide) (fun c13 => ?_) (fun c13 => ?_)
  · skip
    have e13 : X / 256 ^ i % 256 = 0 := (cmp_0 (by omega)).mp c13
    refine lv_lload E.1 E.2.1 dX4_put_49 (lv_at hl 3 rfl) ?_
    refine lv_lconst (v := 0) E.1 E.2.1 dX4_put_51 (by decide) ?_
    refine W.lcmp E.1 E.2.1 dX4_put_52 ?_
    refine lv_if_ne (tgt := 60) E.1 E.2.1 dX4_put_53 (by decide) (fun c53 => ?_) (fun c53 => ?_)
    · exact absurd ((hP.nz e13 (fun z => c53 ((cmp_0 (by omega)).mpr z))).symm.trans hk) (by simp)
    · skip
      have hso := hP.z ((cmp_0 (by omega)).mp c53)
      obtain rfl : k = i := Option.some.inj (hk.symm.trans hso)
      refine lv_iload_n E.1 E.2.1 dX4_put_56 rfl (lv_at hl 2 rfl) ?_
      refine lv_if_neN (tgt := 63) E.1 E.2.1 (by omega) dX4_put_57 (by decide) (fun c57 => ?_) (fun c57 => ?_)
      · skip
        refine lv_aload_n E.1 E.2.1 dX4_put_63 rfl (lv_at hl 0 rfl) ?_
        refine gX4_7 E hw mw_21_19 dX4_put_64 ?_
        refine lv_eqi (y := nI (n)) (hn1) ?_
        refine lv_iload_n E.1 E.2.1 dX4_put_67 rfl (lv_at hl 2 rfl) ?_
        refine lv_addN E.1 E.2.1 dX4_put_68 ?_
        refine lv_bipush (v := nI 60) E.1 E.2.1 dX4_put_69 (by decide) ?_
        refine lv_icmp_leN (tgt := 77) E.1 E.2.1 (by omega) (by omega) dX4_put_71 (by decide) (fun c71 => ?_) (fun c71 => ?_)
        · omega
        · skip
          refine lv_bipush (v := -4) E.1 E.2.1 dX4_put_74 (by decide) ?_
          exact rI E hr hlk (HB.eq hw (rfl)) (rfl) dX4_put_76
      · omega
  · skip
    have e13 : ¬ X / 256 ^ i % 256 = 0 := fun z => c13 ((cmp_0 (by omega)).mpr z)
    refine lv_lload E.1 E.2.1 dX4_put_16 (lv_at hl 3 rfl) ?_
    refine lv_ldc2 (v := 255) E.1 E.2.1 E.2.2.2.1 (E.2.2.2.2.1 _ mw_26_7) dX4_put_18 ?_
    refine lv_land E.1 E.2.1 dX4_put_21 (lv_eqL (y := nL ((X / 256 ^ i) % 256)) (nL_and (by omega)) ?_)
    refine lv_l2i (v := nI ((X / 256 ^ i) % 256)) E.1 E.2.1 dX4_put_22 (nL_i _ (by omega)) ?_
    refine lv_bipush (v := nI 33) E.1 E.2.1 dX4_put_23 (by decide) ?_
    refine lv_bipush (v := nI 126) E.1 E.2.1 dX4_put_25 (by decide) ?_
    refine callSI E (c_X4_in l G (nI ((X / 256 ^ i) % 256)) (nI (33)) (nI (126))) mw_5_13 YX4_in ⟨rfl, rfl⟩ ⟨Nat.le_of_ble_eq_true rfl, Nat.le_of_ble_eq_true rfl⟩ ⟨Nat.zero_le _, Nat.zero_le _⟩ hw (w := []) (w' := []) (rr := mN G a (N) (x)) (big' := mN G a (N) (x)) (List.Perm.refl _) (List.Perm.refl _) rfl hl rfl (Nat.le_of_ble_eq_true rfl) dX4_put_27 (fun H locs hw => ?_)
    refine lv_if_neB (tgt := 36) E.1 E.2.1 dX4_put_30 (by decide) (fun c30 => ?_) (fun c30 => ?_)
    · skip
      have d30 := (nin (by omega) (by decide) (by decide)).mp c30
      refine lv_iincN (k := 2) (lv' := [(3, .int (nI (i + 1))), (0, .ref (a 0)), (1, .long (nL (X))), (4, .long (nL (X / 256 ^ i)))]) E.1 E.2.1 dX4_put_36 hl rfl (by decide) rfl (fun ls hl => ?_)
      refine lv_lload E.1 E.2.1 dX4_put_39 (lv_at hl 3 rfl) ?_
      refine lv_bipush (v := nI 8) E.1 E.2.1 dX4_put_41 (by decide) ?_
      refine lv_lushr (v := nL ((X / 256 ^ i) / 256)) E.1 E.2.1 dX4_put_43 (nL_sh8 (by omega)) ?_
      refine lv_lstore (lv' := [(4, .long (nL ((X / 256 ^ i) / 256))), (3, .int (nI (i + 1))), (0, .ref (a 0)), (1, .long (nL (X)))]) E.1 E.2.1 dX4_put_44 hl (by decide) rfl (fun ls hl => ?_)
      refine lv_goto (tgt := 5) E.1 E.2.1 dX4_put_46 (by decide) ?_
      exact ih (i + 1) (hP.up hX e13 d30) (by have := hP.h8 hX e13; omega) _ _ _ (HB.eq hw (rfl)) (lvh_eq (l := [(0, .ref (a 0)), (1, .long (nL (X))), (3, .int (nI (i + 1))), (4, .long (nL ((X / 256 ^ i) / 256)))]) (lv_sub hl [2, 3, 1, 0] rfl) (by rw [Nat.div_div_eq_div_mul, ← Nat.pow_succ]))
    · exact absurd ((hP.no e13 (fun z => c30 ((nin (by omega) (by decide) (by decide)).mpr z))).symm.trans hk) (by simp)
set_option maxHeartbeats 4000000 in
set_option maxRecDepth 100000 in
theorem c_X4_put_ok (l : Launch) (G : GP) (a : Nat → Nat) (N : NS) (x : MX) (n : Nat) (hn1 : x.1 1 = nI n) (hn6 : n ≤ 60) (X : Nat) (hX : X < 2 ^ 64) (k : Nat) (hk : ch 8 X = some k) (hk0 : 0 < k) (hf : n + k ≤ 60) : MI l yX4_put (.code yX4_put cX4_put 7 (some .int) :: GW) ({ frames := 1, cells := 0, slots := 0, locals := 70 }) [.ref (a 0), .long (nL (X))] G ES (mN G a (N) (x)) (mN G a (N) (sx (ax x 4 (cP X n k k (x.2 4))) 1 (nI (n + k)))) (nI (n + k)) := by
  refine MI.of (own := RX4) rfl rfl (Nat.le_of_ble_eq_true rfl) ?_
  intro pP eE sS mM below meth cC ls AA E hw hl hr hlk hE
  replace hl : lv_has ls 7 [(0, .ref (a 0)), (1, .long (nL (X)))] := hl
  have hk8 := (ch_le 8 X k hk).1
  have hkD : (ch 8 X).getD 0 = k := by rw [hk]; rfl
  refine lv_iconst (v := nI 0) E.1 E.2.1 dX4_put_0 (by decide) ?_
  refine lv_istore_n (lv' := [(3, .int (nI (0))), (0, .ref (a 0)), (1, .long (nL (X)))]) E.1 E.2.1 dX4_put_1 rfl hl (by decide) rfl (fun ls hl => ?_)
  refine lv_lload_n E.1 E.2.1 dX4_put_2 rfl (lv_at hl 2 rfl) ?_
  refine lv_lstore (lv' := [(4, .long (nL (X))), (3, .int (nI (0))), (0, .ref (a 0)), (1, .long (nL (X)))]) E.1 E.2.1 dX4_put_3 hl (by decide) rfl (fun ls hl => ?_)
  refine W_ind1 (nL := 7) (P := fun i => chI X i) (μ := fun i => 8 - i) (I := fun i => mN G a (N) (x)) (L := fun i => [(0, .ref (a 0)), (1, .long (nL (X))), (3, .int (nI (i))), (4, .long (nL (X / 256 ^ i)))]) ?_ (0) (chI.o X) (HB.eq hw (rfl)) (lvh_eq (l := [(0, .ref (a 0)), (1, .long (nL (X))), (3, .int (nI (0))), (4, .long (nL (X)))]) (lv_sub hl [2, 3, 1, 0] rfl) (by rw [Nat.pow_zero, Nat.div_one]))
  intro i hP ih H locs ls hw hl
  replace hw : HB G AA sS.heap (mN G a (N) (x)) H locs := hw
  replace hl : lv_has ls 7 [(0, .ref (a 0)), (1, .long (nL (X))), (3, .int (nI (i))), (4, .long (nL (X / 256 ^ i)))] := hl
  have hPi := hP.1
  have hdv := dvd8 hX i
  refine lv_lload E.1 E.2.1 dX4_put_5 (lv_at hl 3 rfl) ?_
  refine lv_ldc2 (v := 255) E.1 E.2.1 E.2.2.2.1 (E.2.2.2.2.1 _ mw_26_7) dX4_put_7 ?_
  refine lv_land E.1 E.2.1 dX4_put_10 (lv_eqL (y := nL ((X / 256 ^ i) % 256)) (nL_and (by omega)) ?_)
  refine lv_lconst (v := 0) E.1 E.2.1 dX4_put_11 (by decide) ?_
  refine W.lcmp E.1 E.2.1 dX4_put_12 ?_
  refine lv_if_eq (tgt := 49) E.1 E.2.1 dX4_put_13 (by decide) (fun c13 => ?_) (fun c13 => ?_)
  · skip
    have e13 : X / 256 ^ i % 256 = 0 := (cmp_0 (by omega)).mp c13
    refine lv_lload E.1 E.2.1 dX4_put_49 (lv_at hl 3 rfl) ?_
    refine lv_lconst (v := 0) E.1 E.2.1 dX4_put_51 (by decide) ?_
    refine W.lcmp E.1 E.2.1 dX4_put_52 ?_
    refine lv_if_ne (tgt := 60) E.1 E.2.1 dX4_put_53 (by decide) (fun c53 => ?_) (fun c53 => ?_)
    · exact absurd ((hP.nz e13 (fun z => c53 ((cmp_0 (by omega)).mpr z))).symm.trans hk) (by simp)
    · skip
      have hso := hP.z ((cmp_0 (by omega)).mp c53)
      obtain rfl : k = i := Option.some.inj (hk.symm.trans hso)
      refine lv_iload_n E.1 E.2.1 dX4_put_56 rfl (lv_at hl 2 rfl) ?_
      refine lv_if_neN (tgt := 63) E.1 E.2.1 (by omega) dX4_put_57 (by decide) (fun c57 => ?_) (fun c57 => ?_)
      · skip
        refine lv_aload_n E.1 E.2.1 dX4_put_63 rfl (lv_at hl 0 rfl) ?_
        refine gX4_7 E hw mw_21_19 dX4_put_64 ?_
        refine lv_eqi (y := nI (n)) (hn1) ?_
        refine lv_iload_n E.1 E.2.1 dX4_put_67 rfl (lv_at hl 2 rfl) ?_
        refine lv_addN E.1 E.2.1 dX4_put_68 ?_
        refine lv_bipush (v := nI 60) E.1 E.2.1 dX4_put_69 (by decide) ?_
        refine lv_icmp_leN (tgt := 77) E.1 E.2.1 (by omega) (by omega) dX4_put_71 (by decide) (fun c71 => ?_) (fun c71 => ?_)
        · skip
          refine lv_lload_n E.1 E.2.1 dX4_put_77 rfl (lv_at hl 1 rfl) ?_
          refine lv_lstore (lv' := [(4, .long (nL (X))), (0, .ref (a 0)), (1, .long (nL (X))), (3, .int (nI (k)))]) E.1 E.2.1 dX4_put_78 hl (by decide) rfl (fun ls hl => ?_)
          refine lv_iload_n E.1 E.2.1 dX4_put_80 rfl (lv_at hl 3 rfl) ?_
          refine lv_iconst (v := nI 1) E.1 E.2.1 dX4_put_81 (by decide) ?_
          refine lv_isub E.1 E.2.1 dX4_put_82 ?_
          refine lv_istore (lv' := [(6, .int (nI (k) - nI (1))), (4, .long (nL (X))), (0, .ref (a 0)), (1, .long (nL (X))), (3, .int (nI (k)))]) E.1 E.2.1 dX4_put_83 hl (by decide) rfl (fun ls hl => ?_)
          refine W_ind1 (nL := 7) (P := fun m => m ≤ k) (μ := fun m => k - m) (I := fun m => mN G a (N) (ax (x) 4 (cP X n k m (x.2 4)))) (L := fun m => [(0, .ref (a 0)), (3, .int (nI (k))), (4, .long (nL (X / 256 ^ m))), (6, .int (nI k - nI (m + 1)))]) ?_ (0) (Nat.zero_le _) (HB.eq hw (by rw [cP_0, ax_r])) (lvh_eq (l := [(0, .ref (a 0)), (3, .int (nI (k))), (4, .long (nL (X))), (6, .int (nI (k) - nI (1)))]) (lv_sub hl [2, 4, 1, 0] rfl) (by rw [Nat.pow_zero, Nat.div_one]))
          intro m hP ih H locs ls hw hl
          replace hw : HB G AA sS.heap (mN G a (N) (ax (x) 4 (cP X n k m (x.2 4)))) H locs := hw
          replace hl : lv_has ls 7 [(0, .ref (a 0)), (3, .int (nI (k))), (4, .long (nL (X / 256 ^ m))), (6, .int (nI k - nI (m + 1)))] := hl
          have hdm := dvd8 hX m
          refine lv_iload E.1 E.2.1 dX4_put_85 (lv_at hl 3 rfl) ?_
          refine lv_if_lt (tgt := 122) E.1 E.2.1 dX4_put_87 (by decide) (fun c87 => ?_) (fun c87 => ?_)
          · skip
            have hmk : m = k := by have := (nsub_lt (by omega) (by omega)).mp c87; omega
            refine lv_aload_n E.1 E.2.1 dX4_put_122 rfl (lv_at hl 0 rfl) ?_
            refine lv_dup E.1 E.2.1 dX4_put_123 rfl ?_
            refine gX4_7 E hw mw_21_19 dX4_put_124 ?_
            refine lv_eqi (y := nI (n)) (hn1) ?_
            refine lv_iload_n E.1 E.2.1 dX4_put_127 rfl (lv_at hl 1 rfl) ?_
            refine lv_addN E.1 E.2.1 dX4_put_128 ?_
            refine pX4_7 E hw mw_21_19 dX4_put_129 (fun H locs hw => ?_)
            refine lv_aload_n E.1 E.2.1 dX4_put_132 rfl (lv_at hl 0 rfl) ?_
            refine gX4_7 E hw mw_21_19 dX4_put_133 ?_
            refine lv_eqi (y := nI (n + k)) (rfl) ?_
            exact rI E hr hlk (HB.eq hw (by rw [hmk])) (rfl) dX4_put_136
          · skip
            have hm1 : m + 1 ≤ k := Nat.le_of_not_lt (fun z => c87 ((nsub_lt (by omega) (by omega)).mpr z))
            rw [nsub hm1] at hl
            refine lv_aload_n E.1 E.2.1 dX4_put_90 rfl (lv_at hl 0 rfl) ?_
            refine gX4_6 E hw mw_3_14 dX4_put_91 ?_
            refine lv_aload_n E.1 E.2.1 dX4_put_94 rfl (lv_at hl 0 rfl) ?_
            refine gX4_7 E hw mw_21_19 dX4_put_95 ?_
            refine lv_eqi (y := nI (n)) (hn1) ?_
            refine lv_iload E.1 E.2.1 dX4_put_98 (lv_at hl 3 rfl) ?_
            refine lv_addN E.1 E.2.1 dX4_put_100 ?_
            refine lv_lload E.1 E.2.1 dX4_put_101 (lv_at hl 2 rfl) ?_
            refine lv_ldc2 (v := 255) E.1 E.2.1 E.2.2.2.1 (E.2.2.2.2.1 _ mw_26_7) dX4_put_103 ?_
            refine lv_land E.1 E.2.1 dX4_put_106 (lv_eqL (y := nL ((X / 256 ^ m) % 256)) (nL_and (by omega)) ?_)
            refine lv_l2i (v := nI ((X / 256 ^ m) % 256)) E.1 E.2.1 dX4_put_107 (nL_i _ (by omega)) ?_
            refine sX4_5 E hw (by omega) dX4_put_108 (fun H locs hw => ?_)
            refine lv_lload E.1 E.2.1 dX4_put_109 (lv_at hl 2 rfl) ?_
            refine lv_bipush (v := nI 8) E.1 E.2.1 dX4_put_111 (by decide) ?_
            refine lv_lushr (v := nL ((X / 256 ^ m) / 256)) E.1 E.2.1 dX4_put_113 (nL_sh8 (by omega)) ?_
            refine lv_lstore (lv' := [(4, .long (nL ((X / 256 ^ m) / 256))), (0, .ref (a 0)), (3, .int (nI (k))), (6, .int (nI (k - (m + 1))))]) E.1 E.2.1 dX4_put_114 hl (by decide) rfl (fun ls hl => ?_)
            refine lv_iinc (k := 3) (v := nI k - nI (m + 1 + 1)) (lv' := [(6, .int (nI k - nI (m + 1 + 1))), (4, .long (nL ((X / 256 ^ m) / 256))), (0, .ref (a 0)), (3, .int (nI (k)))]) E.1 E.2.1 dX4_put_116 hl rfl (nsub_d hm1) (by decide) rfl (fun ls hl => ?_)
            refine lv_goto (tgt := 85) E.1 E.2.1 dX4_put_119 (by decide) ?_
            exact ih (m + 1) (by omega) (by omega) _ _ _ (HB.eq hw (by rw [ax_ax, show n + (k - (m + 1)) = n + k - 1 - m by omega, ax_s, cP_s (by omega)])) (lvh_eq (l := [(0, .ref (a 0)), (3, .int (nI (k))), (4, .long (nL ((X / 256 ^ m) / 256))), (6, .int (nI k - nI (m + 1 + 1)))]) (lv_sub hl [2, 3, 1, 0] rfl) (by rw [Nat.div_div_eq_div_mul, ← Nat.pow_succ]))
        · omega
      · omega
  · skip
    have e13 : ¬ X / 256 ^ i % 256 = 0 := fun z => c13 ((cmp_0 (by omega)).mpr z)
    refine lv_lload E.1 E.2.1 dX4_put_16 (lv_at hl 3 rfl) ?_
    refine lv_ldc2 (v := 255) E.1 E.2.1 E.2.2.2.1 (E.2.2.2.2.1 _ mw_26_7) dX4_put_18 ?_
    refine lv_land E.1 E.2.1 dX4_put_21 (lv_eqL (y := nL ((X / 256 ^ i) % 256)) (nL_and (by omega)) ?_)
    refine lv_l2i (v := nI ((X / 256 ^ i) % 256)) E.1 E.2.1 dX4_put_22 (nL_i _ (by omega)) ?_
    refine lv_bipush (v := nI 33) E.1 E.2.1 dX4_put_23 (by decide) ?_
    refine lv_bipush (v := nI 126) E.1 E.2.1 dX4_put_25 (by decide) ?_
    refine callSI E (c_X4_in l G (nI ((X / 256 ^ i) % 256)) (nI (33)) (nI (126))) mw_5_13 YX4_in ⟨rfl, rfl⟩ ⟨Nat.le_of_ble_eq_true rfl, Nat.le_of_ble_eq_true rfl⟩ ⟨Nat.zero_le _, Nat.zero_le _⟩ hw (w := []) (w' := []) (rr := mN G a (N) (x)) (big' := mN G a (N) (x)) (List.Perm.refl _) (List.Perm.refl _) rfl hl rfl (Nat.le_of_ble_eq_true rfl) dX4_put_27 (fun H locs hw => ?_)
    refine lv_if_neB (tgt := 36) E.1 E.2.1 dX4_put_30 (by decide) (fun c30 => ?_) (fun c30 => ?_)
    · skip
      have d30 := (nin (by omega) (by decide) (by decide)).mp c30
      refine lv_iincN (k := 2) (lv' := [(3, .int (nI (i + 1))), (0, .ref (a 0)), (1, .long (nL (X))), (4, .long (nL (X / 256 ^ i)))]) E.1 E.2.1 dX4_put_36 hl rfl (by decide) rfl (fun ls hl => ?_)
      refine lv_lload E.1 E.2.1 dX4_put_39 (lv_at hl 3 rfl) ?_
      refine lv_bipush (v := nI 8) E.1 E.2.1 dX4_put_41 (by decide) ?_
      refine lv_lushr (v := nL ((X / 256 ^ i) / 256)) E.1 E.2.1 dX4_put_43 (nL_sh8 (by omega)) ?_
      refine lv_lstore (lv' := [(4, .long (nL ((X / 256 ^ i) / 256))), (3, .int (nI (i + 1))), (0, .ref (a 0)), (1, .long (nL (X)))]) E.1 E.2.1 dX4_put_44 hl (by decide) rfl (fun ls hl => ?_)
      refine lv_goto (tgt := 5) E.1 E.2.1 dX4_put_46 (by decide) ?_
      exact ih (i + 1) (hP.up hX e13 d30) (by have := hP.h8 hX e13; omega) _ _ _ (HB.eq hw (rfl)) (lvh_eq (l := [(0, .ref (a 0)), (1, .long (nL (X))), (3, .int (nI (i + 1))), (4, .long (nL ((X / 256 ^ i) / 256)))]) (lv_sub hl [2, 3, 1, 0] rfl) (by rw [Nat.div_div_eq_div_mul, ← Nat.pow_succ]))
    · exact absurd ((hP.no e13 (fun z => c30 ((nin (by omega) (by decide) (by decide)).mpr z))).symm.trans hk) (by simp)

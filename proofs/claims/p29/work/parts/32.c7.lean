def recV (nx u : Nat) (v : Nat → Int32) : Nat → Int32 := upd (upd v 0 (nI (if nx = 6 then 0 else nx + 1))) 1 (nI (if u = 6 then 6 else u + 1))
theorem min6 {u : Nat} (h : u ≤ 6) : (if nI 6 < nI (u + 1) then nI 6 else nI (u + 1)) = nI (if u = 6 then 6 else u + 1) := by
  by_cases q : u = 6
  · subst q; rfl
  · rw [if_neg q, if_neg (fun z => by have := (nI_ltI (a := 6) (b := u + 1) (by decide) (by omega)).mp z; omega)]
theorem YX3_noteStateBefore : YV yX3_noteStateBefore RX3 cX3_noteStateBefore 1 none 0 := ⟨mw_3_21, mw_3_22, mw_1_2, mw_3_23, by decide +kernel⟩
set_option maxHeartbeats 4000000 in
set_option maxRecDepth 100000 in
theorem c_X3_noteStateBefore (l : Launch) (G : GP) (b : Nat → Nat) (ad : Nat → Nat → Nat) (v pd rv : Nat → Int32) (Ns : Nat → NS) (nx u : Nat) (hx0 : v 0 = nI nx) (hnx : nx < 7) (hu0 : v 1 = nI u) (hu6 : u ≤ 6)  : MV l yX3_noteStateBefore (.code yX3_noteStateBefore cX3_noteStateBefore 1 none :: GW) ({ frames := 3, cells := 0, slots := 0, locals := 60 }) [.ref (b 0)] G ES (cW G b ad (v) (pd) (rv) (Ns)) (cW G b ad (v) (pd) (rv) (va_up (Ns) (2 + nx) (Ns 0))) := by
  refine MV.of (own := RX3) rfl rfl (Nat.le_of_ble_eq_true rfl) ?_
  intro pP eE sS mM below meth cC ls AA E hw hl hr hlk hE
  replace hl : lv_has ls 1 [(0, .ref (b 0))] := hl
  refine lv_aload_n E.1 E.2.1 dX3_noteStateBefore_0 rfl (lv_at hl 0 rfl) ?_
  refine gX3_2 E hw mw_1_18 dX3_noteStateBefore_1 ?_
  refine lv_aload_n E.1 E.2.1 dX3_noteStateBefore_4 rfl (lv_at hl 0 rfl) ?_
  refine gX3_3 E hw mw_4_0 dX3_noteStateBefore_5 ?_
  refine lv_eqi (y := nI (nx)) (hx0) ?_
  refine lX3_h E hw (by omega) dX3_noteStateBefore_8 ?_
  refine lv_aload_n E.1 E.2.1 dX3_noteStateBefore_9 rfl (lv_at hl 0 rfl) ?_
  refine gX3_0 E hw mw_1_16 dX3_noteStateBefore_10 ?_
  refine callVVp E (c_X2_copyN l G (ad (2 + nx)) (ad 0) (Ns (2 + nx)) (Ns 0)) ES.eb (fun _ _ _ => trivial) mw_4_1 YX2_copyFrom ⟨rfl, rfl⟩ ⟨Nat.le_of_ble_eq_true rfl, Nat.le_of_ble_eq_true rfl⟩ ⟨Nat.zero_le _, Nat.zero_le _⟩ hw (cW_20 (by omega) (by omega) (by omega)) (cW_21 (Ns 0) (by omega) (by omega) (by omega)) 0 rfl rfl rfl hl rfl (Nat.le_of_ble_eq_true rfl) dX3_noteStateBefore_13 (fun H locs hw => ?_)
  exact rV E hr hlk (HB.eq hw (rfl)) dX3_noteStateBefore_16
theorem YX3_recorded : YV yX3_recorded RX3 cX3_recorded 2 (some .int) 1 := ⟨mw_5_1, mw_5_2, mw_1_2, mw_5_3, by decide +kernel⟩
set_option maxHeartbeats 4000000 in
set_option maxRecDepth 100000 in
theorem c_X3_recorded_neg (l : Launch) (G : GP) (b : Nat → Nat) (ad : Nat → Nat → Nat) (v pd rv : Nat → Int32) (Ns : Nat → NS) (nx u : Nat) (hx0 : v 0 = nI nx) (hnx : nx < 7) (hu0 : v 1 = nI u) (hu6 : u ≤ 6) (r : Int32) (h : r < 0) : MI l yX3_recorded (.code yX3_recorded cX3_recorded 2 (some .int) :: GW) ({ frames := 0, cells := 0, slots := 0, locals := 0 }) [.ref (b 0), .int (r)] G ES (cW G b ad (v) (pd) (rv) (Ns)) (cW G b ad (v) (pd) (rv) (Ns)) (r) := by
  refine MI.of (own := RX3) rfl rfl (Nat.le_of_ble_eq_true rfl) ?_
  intro pP eE sS mM below meth cC ls AA E hw hl hr hlk hE
  replace hl : lv_has ls 2 [(0, .ref (b 0)), (1, .int (r))] := hl
  refine lv_iload_n E.1 E.2.1 dX3_recorded_0 rfl (lv_at hl 1 rfl) ?_
  refine lv_if_lt (tgt := 42) E.1 E.2.1 dX3_recorded_1 (by decide) (fun c1 => ?_) (fun c1 => ?_)
  · skip
    refine lv_iload_n E.1 E.2.1 dX3_recorded_42 rfl (lv_at hl 1 rfl) ?_
    exact rI E hr hlk (HB.eq hw (rfl)) (rfl) dX3_recorded_43
  · exact absurd h c1
set_option maxHeartbeats 4000000 in
set_option maxRecDepth 100000 in
theorem c_X3_recorded (l : Launch) (G : GP) (b : Nat → Nat) (ad : Nat → Nat → Nat) (v pd rv : Nat → Int32) (Ns : Nat → NS) (nx u : Nat) (hx0 : v 0 = nI nx) (hnx : nx < 7) (hu0 : v 1 = nI u) (hu6 : u ≤ 6) (r : Int32) (h : ¬ r < 0) : MI l yX3_recorded (.code yX3_recorded cX3_recorded 2 (some .int) :: GW) ({ frames := 1, cells := 0, slots := 0, locals := 14 }) [.ref (b 0), .int (r)] G ES (cW G b ad (v) (pd) (rv) (Ns)) (cW G b ad (recV nx u v) (pd) (rv) (Ns)) (r) := by
  refine MI.of (own := RX3) rfl rfl (Nat.le_of_ble_eq_true rfl) ?_
  intro pP eE sS mM below meth cC ls AA E hw hl hr hlk hE
  replace hl : lv_has ls 2 [(0, .ref (b 0)), (1, .int (r))] := hl
  refine lv_iload_n E.1 E.2.1 dX3_recorded_0 rfl (lv_at hl 1 rfl) ?_
  refine lv_if_lt (tgt := 42) E.1 E.2.1 dX3_recorded_1 (by decide) (fun c1 => ?_) (fun c1 => ?_)
  · exact absurd c1 h
  · skip
    refine lv_aload_n E.1 E.2.1 dX3_recorded_4 rfl (lv_at hl 0 rfl) ?_
    refine lv_aload_n E.1 E.2.1 dX3_recorded_5 rfl (lv_at hl 0 rfl) ?_
    refine gX3_3 E hw mw_4_0 dX3_recorded_6 ?_
    refine lv_eqi (y := nI (nx)) (hx0) ?_
    refine lv_bipush (v := nI 6) E.1 E.2.1 dX3_recorded_9 (by decide) ?_
    refine lv_icmp_neN (tgt := 18) E.1 E.2.1 (by omega) (by omega) dX3_recorded_11 (by decide) (fun c11 => ?_) (fun c11 => ?_)
    · skip
      refine lv_aload_n E.1 E.2.1 dX3_recorded_18 rfl (lv_at hl 0 rfl) ?_
      refine gX3_3 E hw mw_4_0 dX3_recorded_19 ?_
      refine lv_eqi (y := nI (nx)) (hx0) ?_
      refine lv_iconst (v := nI 1) E.1 E.2.1 dX3_recorded_22 (by decide) ?_
      refine lv_addN E.1 E.2.1 dX3_recorded_23 ?_
      refine pX3_3 E hw mw_4_0 dX3_recorded_24 (fun H locs hw => ?_)
      refine lv_aload_n E.1 E.2.1 dX3_recorded_27 rfl (lv_at hl 0 rfl) ?_
      refine lv_aload_n E.1 E.2.1 dX3_recorded_28 rfl (lv_at hl 0 rfl) ?_
      refine gX3_4 E hw mw_5_4 dX3_recorded_29 ?_
      refine lv_eqi (y := nI (u)) (hu0) ?_
      refine lv_iconst (v := nI 1) E.1 E.2.1 dX3_recorded_32 (by decide) ?_
      refine lv_addN E.1 E.2.1 dX3_recorded_33 ?_
      refine lv_bipush (v := nI 6) E.1 E.2.1 dX3_recorded_34 (by decide) ?_
      refine va_mmin E.1 E.2.1 (E.2.2.1.trans hl.1.symm) E.2.2.2.1 (E.2.2.2.2.1 _ mw_5_5) (E.2.2.2.2.1 _ mw_5_6) (E.2.2.2.2.1 _ mw_5_7) (E.2.2.2.2.1 _ mw_5_8) (Nat.le_of_ble_eq_true rfl) (Nat.le_of_ble_eq_true rfl) (Nat.zero_le _) (Nat.zero_le _) dX3_recorded_36 (lv_eqi (y := nI (if u = 6 then 6 else u + 1)) (min6 hu6) ?_)
      refine pX3_4 E hw mw_5_4 dX3_recorded_39 (fun H locs hw => ?_)
      refine lv_iload_n E.1 E.2.1 dX3_recorded_42 rfl (lv_at hl 1 rfl) ?_
      exact rI E hr hlk (HB.eq hw (by rw [recV, if_neg c11])) (rfl) dX3_recorded_43
    · skip
      refine lv_iconst (v := nI 0) E.1 E.2.1 dX3_recorded_14 (by decide) ?_
      refine lv_goto (tgt := 24) E.1 E.2.1 dX3_recorded_15 (by decide) ?_
      refine pX3_3 E hw mw_4_0 dX3_recorded_24 (fun H locs hw => ?_)
      refine lv_aload_n E.1 E.2.1 dX3_recorded_27 rfl (lv_at hl 0 rfl) ?_
      refine lv_aload_n E.1 E.2.1 dX3_recorded_28 rfl (lv_at hl 0 rfl) ?_
      refine gX3_4 E hw mw_5_4 dX3_recorded_29 ?_
      refine lv_eqi (y := nI (u)) (hu0) ?_
      refine lv_iconst (v := nI 1) E.1 E.2.1 dX3_recorded_32 (by decide) ?_
      refine lv_addN E.1 E.2.1 dX3_recorded_33 ?_
      refine lv_bipush (v := nI 6) E.1 E.2.1 dX3_recorded_34 (by decide) ?_
      refine va_mmin E.1 E.2.1 (E.2.2.1.trans hl.1.symm) E.2.2.2.1 (E.2.2.2.2.1 _ mw_5_5) (E.2.2.2.2.1 _ mw_5_6) (E.2.2.2.2.1 _ mw_5_7) (E.2.2.2.2.1 _ mw_5_8) (Nat.le_of_ble_eq_true rfl) (Nat.le_of_ble_eq_true rfl) (Nat.zero_le _) (Nat.zero_le _) dX3_recorded_36 (lv_eqi (y := nI (if u = 6 then 6 else u + 1)) (min6 hu6) ?_)
      refine pX3_4 E hw mw_5_4 dX3_recorded_39 (fun H locs hw => ?_)
      refine lv_iload_n E.1 E.2.1 dX3_recorded_42 rfl (lv_at hl 1 rfl) ?_
      exact rI E hr hlk (HB.eq hw (by rw [recV, if_pos c11])) (rfl) dX3_recorded_43
theorem YX3_willing : YV yX3_willing RX3 cX3_willing 3 (some .int) 2 := ⟨mw_5_23, mw_6_0, mw_1_2, mw_6_1, by decide +kernel⟩
set_option maxHeartbeats 4000000 in
set_option maxRecDepth 100000 in
theorem c_X3_willing_bad1 (l : Launch) (G : GP) (b : Nat → Nat) (ad : Nat → Nat → Nat) (v pd rv : Nat → Int32) (Ns : Nat → NS) (nx u : Nat) (hx0 : v 0 = nI nx) (hnx : nx < 7) (hu0 : v 1 = nI u) (hu6 : u ≤ 6) (e w : Int32) (h : ¬ (nI 0 ≤ e ∧ e ≤ nI 3)) : MI l yX3_willing (.code yX3_willing cX3_willing 3 (some .int) :: GW) ({ frames := 4, cells := 0, slots := 0, locals := 80 }) [.ref (b 0), .int (e), .int (w)] G ES (cW G b ad (v) (pd) (rv) (Ns)) (cW G b ad (v) (pd) (rv) (va_up (Ns) (2 + nx) (Ns 0))) (-1) := by
  refine MI.of (own := RX3) rfl rfl (Nat.le_of_ble_eq_true rfl) ?_
  intro pP eE sS mM below meth cC ls AA E hw hl hr hlk hE
  replace hl : lv_has ls 3 [(0, .ref (b 0)), (1, .int (e)), (2, .int (w))] := hl
  refine lv_aload_n E.1 E.2.1 dX3_willing_0 rfl (lv_at hl 0 rfl) ?_
  refine callVV E (c_X3_noteStateBefore l G b ad (v) (pd) (rv) (Ns) nx u hx0 hnx hu0 hu6) mw_3_20 YX3_noteStateBefore ⟨rfl, rfl⟩ ⟨Nat.le_of_ble_eq_true rfl, Nat.le_of_ble_eq_true rfl⟩ ⟨Nat.zero_le _, Nat.zero_le _⟩ hw 0 rfl rfl rfl hl rfl (Nat.le_of_ble_eq_true rfl) dX3_willing_1 (fun H locs hw => ?_)
  refine lv_aload_n E.1 E.2.1 dX3_willing_4 rfl (lv_at hl 0 rfl) ?_
  refine lv_aload_n E.1 E.2.1 dX3_willing_5 rfl (lv_at hl 0 rfl) ?_
  refine gX3_0 E hw mw_1_16 dX3_willing_6 ?_
  refine lv_iload_n E.1 E.2.1 dX3_willing_9 rfl (lv_at hl 1 rfl) ?_
  refine lv_iload_n E.1 E.2.1 dX3_willing_10 rfl (lv_at hl 2 rfl) ?_
  refine callVIp E (c_X2_makeWilling_bad1 l G (ad 0) (Ns 0) e w h) ES.eb (fun _ _ _ => trivial) mw_6_2 YX2_makeWilling ⟨rfl, rfl⟩ ⟨Nat.le_of_ble_eq_true rfl, Nat.le_of_ble_eq_true rfl⟩ ⟨Nat.zero_le _, Nat.zero_le _⟩ hw (cW_p0 (va_up_ne _ _ (by omega)) (by omega)) (cW_p0 (va_up_ne _ _ (by omega)) (by omega)) 0 rfl rfl rfl hl rfl (Nat.le_of_ble_eq_true rfl) dX3_willing_11 (fun H locs hw => ?_)
  refine callVI E (c_X3_recorded_neg l G b ad (v) (pd) (rv) (va_up (Ns) (2 + nx) (Ns 0)) nx u hx0 hnx hu0 hu6 (-1) (by decide)) mw_5_0 YX3_recorded ⟨rfl, rfl⟩ ⟨Nat.le_of_ble_eq_true rfl, Nat.le_of_ble_eq_true rfl⟩ ⟨Nat.zero_le _, Nat.zero_le _⟩ hw 0 rfl rfl rfl hl rfl (Nat.le_of_ble_eq_true rfl) dX3_willing_14 (fun H locs hw => ?_)
  exact rI E hr hlk (HB.eq hw (rfl)) (rfl) dX3_willing_17
set_option maxHeartbeats 4000000 in
set_option maxRecDepth 100000 in
theorem c_X3_willing_bad2 (l : Launch) (G : GP) (b : Nat → Nat) (ad : Nat → Nat → Nat) (v pd rv : Nat → Int32) (Ns : Nat → NS) (nx u : Nat) (hx0 : v 0 = nI nx) (hnx : nx < 7) (hu0 : v 1 = nI u) (hu6 : u ≤ 6) (e w : Int32) (h1 : nI 0 ≤ e ∧ e ≤ nI 3) (h : ¬ (nI 0 ≤ w ∧ w ≤ nI 1)) : MI l yX3_willing (.code yX3_willing cX3_willing 3 (some .int) :: GW) ({ frames := 4, cells := 0, slots := 0, locals := 80 }) [.ref (b 0), .int (e), .int (w)] G ES (cW G b ad (v) (pd) (rv) (Ns)) (cW G b ad (v) (pd) (rv) (va_up (Ns) (2 + nx) (Ns 0))) (-2) := by
  refine MI.of (own := RX3) rfl rfl (Nat.le_of_ble_eq_true rfl) ?_
  intro pP eE sS mM below meth cC ls AA E hw hl hr hlk hE
  replace hl : lv_has ls 3 [(0, .ref (b 0)), (1, .int (e)), (2, .int (w))] := hl
  refine lv_aload_n E.1 E.2.1 dX3_willing_0 rfl (lv_at hl 0 rfl) ?_
  refine callVV E (c_X3_noteStateBefore l G b ad (v) (pd) (rv) (Ns) nx u hx0 hnx hu0 hu6) mw_3_20 YX3_noteStateBefore ⟨rfl, rfl⟩ ⟨Nat.le_of_ble_eq_true rfl, Nat.le_of_ble_eq_true rfl⟩ ⟨Nat.zero_le _, Nat.zero_le _⟩ hw 0 rfl rfl rfl hl rfl (Nat.le_of_ble_eq_true rfl) dX3_willing_1 (fun H locs hw => ?_)
  refine lv_aload_n E.1 E.2.1 dX3_willing_4 rfl (lv_at hl 0 rfl) ?_
  refine lv_aload_n E.1 E.2.1 dX3_willing_5 rfl (lv_at hl 0 rfl) ?_
  refine gX3_0 E hw mw_1_16 dX3_willing_6 ?_
  refine lv_iload_n E.1 E.2.1 dX3_willing_9 rfl (lv_at hl 1 rfl) ?_
  refine lv_iload_n E.1 E.2.1 dX3_willing_10 rfl (lv_at hl 2 rfl) ?_
  refine callVIp E (c_X2_makeWilling_bad2 l G (ad 0) (Ns 0) e w h1 h) ES.eb (fun _ _ _ => trivial) mw_6_2 YX2_makeWilling ⟨rfl, rfl⟩ ⟨Nat.le_of_ble_eq_true rfl, Nat.le_of_ble_eq_true rfl⟩ ⟨Nat.zero_le _, Nat.zero_le _⟩ hw (cW_p0 (va_up_ne _ _ (by omega)) (by omega)) (cW_p0 (va_up_ne _ _ (by omega)) (by omega)) 0 rfl rfl rfl hl rfl (Nat.le_of_ble_eq_true rfl) dX3_willing_11 (fun H locs hw => ?_)
  refine callVI E (c_X3_recorded_neg l G b ad (v) (pd) (rv) (va_up (Ns) (2 + nx) (Ns 0)) nx u hx0 hnx hu0 hu6 (-2) (by decide)) mw_5_0 YX3_recorded ⟨rfl, rfl⟩ ⟨Nat.le_of_ble_eq_true rfl, Nat.le_of_ble_eq_true rfl⟩ ⟨Nat.zero_le _, Nat.zero_le _⟩ hw 0 rfl rfl rfl hl rfl (Nat.le_of_ble_eq_true rfl) dX3_willing_14 (fun H locs hw => ?_)
  exact rI E hr hlk (HB.eq hw (rfl)) (rfl) dX3_willing_17
set_option maxHeartbeats 4000000 in
set_option maxRecDepth 100000 in
theorem c_X3_willing_ok (l : Launch) (G : GP) (b : Nat → Nat) (ad : Nat → Nat → Nat) (v pd rv : Nat → Int32) (Ns : Nat → NS) (nx u : Nat) (hx0 : v 0 = nI nx) (hnx : nx < 7) (hu0 : v 1 = nI u) (hu6 : u ≤ 6) (k w : Nat) (hk : k < 4) (hw : w ≤ 1) (hF : FI (Ns 0)) : MI l yX3_willing (.code yX3_willing cX3_willing 3 (some .int) :: GW) ({ frames := 4, cells := 0, slots := 0, locals := 80 }) [.ref (b 0), .int (nI (k)), .int (nI (w))] G ES (cW G b ad (v) (pd) (rv) (Ns)) (cW G b ad (recV nx u v) (pd) (rv) (va_up (va_up (Ns) (2 + nx) (Ns 0)) 0 (un (Ns 0) (15 + k) w))) (nI (Ns 0 (15 + k))) := by
  have hw1 := hw
  refine MI.of (own := RX3) rfl rfl (Nat.le_of_ble_eq_true rfl) ?_
  intro pP eE sS mM below meth cC ls AA E hw hl hr hlk hE
  replace hl : lv_has ls 3 [(0, .ref (b 0)), (1, .int (nI (k))), (2, .int (nI (w)))] := hl
  have hwl := hF.wl hk
  refine lv_aload_n E.1 E.2.1 dX3_willing_0 rfl (lv_at hl 0 rfl) ?_
  refine callVV E (c_X3_noteStateBefore l G b ad (v) (pd) (rv) (Ns) nx u hx0 hnx hu0 hu6) mw_3_20 YX3_noteStateBefore ⟨rfl, rfl⟩ ⟨Nat.le_of_ble_eq_true rfl, Nat.le_of_ble_eq_true rfl⟩ ⟨Nat.zero_le _, Nat.zero_le _⟩ hw 0 rfl rfl rfl hl rfl (Nat.le_of_ble_eq_true rfl) dX3_willing_1 (fun H locs hw => ?_)
  refine lv_aload_n E.1 E.2.1 dX3_willing_4 rfl (lv_at hl 0 rfl) ?_
  refine lv_aload_n E.1 E.2.1 dX3_willing_5 rfl (lv_at hl 0 rfl) ?_
  refine gX3_0 E hw mw_1_16 dX3_willing_6 ?_
  refine lv_iload_n E.1 E.2.1 dX3_willing_9 rfl (lv_at hl 1 rfl) ?_
  refine lv_iload_n E.1 E.2.1 dX3_willing_10 rfl (lv_at hl 2 rfl) ?_
  refine callVIp E (c_X2_makeWilling_ok l G (ad 0) (Ns 0) k w hk hw1 hF) ES.eb (fun _ _ _ => trivial) mw_6_2 YX2_makeWilling ⟨rfl, rfl⟩ ⟨Nat.le_of_ble_eq_true rfl, Nat.le_of_ble_eq_true rfl⟩ ⟨Nat.zero_le _, Nat.zero_le _⟩ hw (cW_p0 (va_up_ne _ _ (by omega)) (by omega)) (cW_p (un (Ns 0) (15 + k) w) (by omega)) 0 rfl rfl rfl hl rfl (Nat.le_of_ble_eq_true rfl) dX3_willing_11 (fun H locs hw => ?_)
  refine callVI E (c_X3_recorded l G b ad (v) (pd) (rv) (va_up (va_up (Ns) (2 + nx) (Ns 0)) 0 (un (Ns 0) (15 + k) w)) nx u hx0 hnx hu0 hu6 (nI (Ns 0 (15 + k))) ((nI_pos (by omega)))) mw_5_0 YX3_recorded ⟨rfl, rfl⟩ ⟨Nat.le_of_ble_eq_true rfl, Nat.le_of_ble_eq_true rfl⟩ ⟨Nat.zero_le _, Nat.zero_le _⟩ hw 0 rfl rfl rfl hl rfl (Nat.le_of_ble_eq_true rfl) dX3_willing_14 (fun H locs hw => ?_)
  exact rI E hr hlk (HB.eq hw (rfl)) (rfl) dX3_willing_17
theorem YX3_open : YV yX3_open RX3 cX3_open 2 (some .int) 1 := ⟨mw_6_16, mw_6_17, mw_1_2, mw_6_18, by decide +kernel⟩
set_option maxHeartbeats 4000000 in
set_option maxRecDepth 100000 in
theorem c_X3_open_bad (l : Launch) (G : GP) (b : Nat → Nat) (ad : Nat → Nat → Nat) (v pd rv : Nat → Int32) (Ns : Nat → NS) (nx u : Nat) (hx0 : v 0 = nI nx) (hnx : nx < 7) (hu0 : v 1 = nI u) (hu6 : u ≤ 6) (e : Int32) (h : ¬ (nI 1 ≤ e ∧ e ≤ nI 15)) : MI l yX3_open (.code yX3_open cX3_open 2 (some .int) :: GW) ({ frames := 4, cells := 0, slots := 0, locals := 80 }) [.ref (b 0), .int (e)] G ES (cW G b ad (v) (pd) (rv) (Ns)) (cW G b ad (v) (pd) (rv) (va_up (Ns) (2 + nx) (Ns 0))) (-2) := by
  refine MI.of (own := RX3) rfl rfl (Nat.le_of_ble_eq_true rfl) ?_
  intro pP eE sS mM below meth cC ls AA E hw hl hr hlk hE
  replace hl : lv_has ls 2 [(0, .ref (b 0)), (1, .int (e))] := hl
  refine lv_aload_n E.1 E.2.1 dX3_open_0 rfl (lv_at hl 0 rfl) ?_
  refine callVV E (c_X3_noteStateBefore l G b ad (v) (pd) (rv) (Ns) nx u hx0 hnx hu0 hu6) mw_3_20 YX3_noteStateBefore ⟨rfl, rfl⟩ ⟨Nat.le_of_ble_eq_true rfl, Nat.le_of_ble_eq_true rfl⟩ ⟨Nat.zero_le _, Nat.zero_le _⟩ hw 0 rfl rfl rfl hl rfl (Nat.le_of_ble_eq_true rfl) dX3_open_1 (fun H locs hw => ?_)
  refine lv_aload_n E.1 E.2.1 dX3_open_4 rfl (lv_at hl 0 rfl) ?_
  refine lv_aload_n E.1 E.2.1 dX3_open_5 rfl (lv_at hl 0 rfl) ?_
  refine gX3_0 E hw mw_1_16 dX3_open_6 ?_
  refine lv_iload_n E.1 E.2.1 dX3_open_9 rfl (lv_at hl 1 rfl) ?_
  refine callVIp E (c_X2_openDeal_bad l G (ad 0) (Ns 0) e h) ES.eb (fun _ _ _ => trivial) mw_6_19 YX2_openDeal ⟨rfl, rfl⟩ ⟨Nat.le_of_ble_eq_true rfl, Nat.le_of_ble_eq_true rfl⟩ ⟨Nat.zero_le _, Nat.zero_le _⟩ hw (cW_p0 (va_up_ne _ _ (by omega)) (by omega)) (cW_p0 (va_up_ne _ _ (by omega)) (by omega)) 0 rfl rfl rfl hl rfl (Nat.le_of_ble_eq_true rfl) dX3_open_10 (fun H locs hw => ?_)
  refine callVI E (c_X3_recorded_neg l G b ad (v) (pd) (rv) (va_up (Ns) (2 + nx) (Ns 0)) nx u hx0 hnx hu0 hu6 (-2) (by decide)) mw_5_0 YX3_recorded ⟨rfl, rfl⟩ ⟨Nat.le_of_ble_eq_true rfl, Nat.le_of_ble_eq_true rfl⟩ ⟨Nat.zero_le _, Nat.zero_le _⟩ hw 0 rfl rfl rfl hl rfl (Nat.le_of_ble_eq_true rfl) dX3_open_13 (fun H locs hw => ?_)
  exact rI E hr hlk (HB.eq hw (rfl)) (rfl) dX3_open_16
set_option maxHeartbeats 4000000 in
set_option maxRecDepth 100000 in
theorem c_X3_open_no (l : Launch) (G : GP) (b : Nat → Nat) (ad : Nat → Nat → Nat) (v pd rv : Nat → Int32) (Ns : Nat → NS) (nx u : Nat) (hx0 : v 0 = nI nx) (hnx : nx < 7) (hu0 : v 1 = nI u) (hu6 : u ≤ 6) (S : Nat) (hS : 1 ≤ S ∧ S < 16) (hI : Inv (Ns 0)) (hf : rOpen (Ns 0) < 0) : MI l yX3_open (.code yX3_open cX3_open 2 (some .int) :: GW) ({ frames := 4, cells := 0, slots := 0, locals := 80 }) [.ref (b 0), .int (nI (S))] G ES (cW G b ad (v) (pd) (rv) (Ns)) (cW G b ad (v) (pd) (rv) (va_up (va_up (Ns) (2 + nx) (Ns 0)) 0 (nOpen S (Ns 0)))) (rOpen (Ns 0)) := by
  refine MI.of (own := RX3) rfl rfl (Nat.le_of_ble_eq_true rfl) ?_
  intro pP eE sS mM below meth cC ls AA E hw hl hr hlk hE
  replace hl : lv_has ls 2 [(0, .ref (b 0)), (1, .int (nI (S)))] := hl
  refine lv_aload_n E.1 E.2.1 dX3_open_0 rfl (lv_at hl 0 rfl) ?_
  refine callVV E (c_X3_noteStateBefore l G b ad (v) (pd) (rv) (Ns) nx u hx0 hnx hu0 hu6) mw_3_20 YX3_noteStateBefore ⟨rfl, rfl⟩ ⟨Nat.le_of_ble_eq_true rfl, Nat.le_of_ble_eq_true rfl⟩ ⟨Nat.zero_le _, Nat.zero_le _⟩ hw 0 rfl rfl rfl hl rfl (Nat.le_of_ble_eq_true rfl) dX3_open_1 (fun H locs hw => ?_)
  refine lv_aload_n E.1 E.2.1 dX3_open_4 rfl (lv_at hl 0 rfl) ?_
  refine lv_aload_n E.1 E.2.1 dX3_open_5 rfl (lv_at hl 0 rfl) ?_
  refine gX3_0 E hw mw_1_16 dX3_open_6 ?_
  refine lv_iload_n E.1 E.2.1 dX3_open_9 rfl (lv_at hl 1 rfl) ?_
  refine callVIp E (c_X2_openDeal_ok l G (ad 0) (Ns 0) S hS hI) ES.eb (fun _ _ _ => trivial) mw_6_19 YX2_openDeal ⟨rfl, rfl⟩ ⟨Nat.le_of_ble_eq_true rfl, Nat.le_of_ble_eq_true rfl⟩ ⟨Nat.zero_le _, Nat.zero_le _⟩ hw (cW_p0 (va_up_ne _ _ (by omega)) (by omega)) (cW_p (nOpen S (Ns 0)) (by omega)) 0 rfl rfl rfl hl rfl (Nat.le_of_ble_eq_true rfl) dX3_open_10 (fun H locs hw => ?_)
  refine callVI E (c_X3_recorded_neg l G b ad (v) (pd) (rv) (va_up (va_up (Ns) (2 + nx) (Ns 0)) 0 (nOpen S (Ns 0))) nx u hx0 hnx hu0 hu6 (rOpen (Ns 0)) (hf)) mw_5_0 YX3_recorded ⟨rfl, rfl⟩ ⟨Nat.le_of_ble_eq_true rfl, Nat.le_of_ble_eq_true rfl⟩ ⟨Nat.zero_le _, Nat.zero_le _⟩ hw 0 rfl rfl rfl hl rfl (Nat.le_of_ble_eq_true rfl) dX3_open_13 (fun H locs hw => ?_)
  exact rI E hr hlk (HB.eq hw (rfl)) (rfl) dX3_open_16
set_option maxHeartbeats 4000000 in
set_option maxRecDepth 100000 in
theorem c_X3_open_ok (l : Launch) (G : GP) (b : Nat → Nat) (ad : Nat → Nat → Nat) (v pd rv : Nat → Int32) (Ns : Nat → NS) (nx u : Nat) (hx0 : v 0 = nI nx) (hnx : nx < 7) (hu0 : v 1 = nI u) (hu6 : u ≤ 6) (S : Nat) (hS : 1 ≤ S ∧ S < 16) (hI : Inv (Ns 0)) (hf : ¬ rOpen (Ns 0) < 0) : MI l yX3_open (.code yX3_open cX3_open 2 (some .int) :: GW) ({ frames := 4, cells := 0, slots := 0, locals := 80 }) [.ref (b 0), .int (nI (S))] G ES (cW G b ad (v) (pd) (rv) (Ns)) (cW G b ad (recV nx u v) (pd) (rv) (va_up (va_up (Ns) (2 + nx) (Ns 0)) 0 (nOpen S (Ns 0)))) (rOpen (Ns 0)) := by
  refine MI.of (own := RX3) rfl rfl (Nat.le_of_ble_eq_true rfl) ?_
  intro pP eE sS mM below meth cC ls AA E hw hl hr hlk hE
  replace hl : lv_has ls 2 [(0, .ref (b 0)), (1, .int (nI (S)))] := hl
  refine lv_aload_n E.1 E.2.1 dX3_open_0 rfl (lv_at hl 0 rfl) ?_
  refine callVV E (c_X3_noteStateBefore l G b ad (v) (pd) (rv) (Ns) nx u hx0 hnx hu0 hu6) mw_3_20 YX3_noteStateBefore ⟨rfl, rfl⟩ ⟨Nat.le_of_ble_eq_true rfl, Nat.le_of_ble_eq_true rfl⟩ ⟨Nat.zero_le _, Nat.zero_le _⟩ hw 0 rfl rfl rfl hl rfl (Nat.le_of_ble_eq_true rfl) dX3_open_1 (fun H locs hw => ?_)
  refine lv_aload_n E.1 E.2.1 dX3_open_4 rfl (lv_at hl 0 rfl) ?_
  refine lv_aload_n E.1 E.2.1 dX3_open_5 rfl (lv_at hl 0 rfl) ?_
  refine gX3_0 E hw mw_1_16 dX3_open_6 ?_
  refine lv_iload_n E.1 E.2.1 dX3_open_9 rfl (lv_at hl 1 rfl) ?_
  refine callVIp E (c_X2_openDeal_ok l G (ad 0) (Ns 0) S hS hI) ES.eb (fun _ _ _ => trivial) mw_6_19 YX2_openDeal ⟨rfl, rfl⟩ ⟨Nat.le_of_ble_eq_true rfl, Nat.le_of_ble_eq_true rfl⟩ ⟨Nat.zero_le _, Nat.zero_le _⟩ hw (cW_p0 (va_up_ne _ _ (by omega)) (by omega)) (cW_p (nOpen S (Ns 0)) (by omega)) 0 rfl rfl rfl hl rfl (Nat.le_of_ble_eq_true rfl) dX3_open_10 (fun H locs hw => ?_)
  refine callVI E (c_X3_recorded l G b ad (v) (pd) (rv) (va_up (va_up (Ns) (2 + nx) (Ns 0)) 0 (nOpen S (Ns 0))) nx u hx0 hnx hu0 hu6 (rOpen (Ns 0)) (hf)) mw_5_0 YX3_recorded ⟨rfl, rfl⟩ ⟨Nat.le_of_ble_eq_true rfl, Nat.le_of_ble_eq_true rfl⟩ ⟨Nat.zero_le _, Nat.zero_le _⟩ hw 0 rfl rfl rfl hl rfl (Nat.le_of_ble_eq_true rfl) dX3_open_13 (fun H locs hw => ?_)
  exact rI E hr hlk (HB.eq hw (rfl)) (rfl) dX3_open_16
theorem YX3_deliver : YV yX3_deliver RX3 cX3_deliver 2 (some .int) 1 := ⟨mw_8_11, mw_8_12, mw_1_2, mw_8_13, by decide +kernel⟩
set_option maxHeartbeats 4000000 in
set_option maxRecDepth 100000 in
theorem c_X3_deliver_bad (l : Launch) (G : GP) (b : Nat → Nat) (ad : Nat → Nat → Nat) (v pd rv : Nat → Int32) (Ns : Nat → NS) (nx u : Nat) (hx0 : v 0 = nI nx) (hnx : nx < 7) (hu0 : v 1 = nI u) (hu6 : u ≤ 6) (p : Int32) (h : ¬ (0 ≤ p ∧ p < nI (Ns 0 6))) : MI l yX3_deliver (.code yX3_deliver cX3_deliver 2 (some .int) :: GW) ({ frames := 4, cells := 0, slots := 0, locals := 97 }) [.ref (b 0), .int (p)] G ES (cW G b ad (v) (pd) (rv) (Ns)) (cW G b ad (v) (pd) (rv) (va_up (Ns) (2 + nx) (Ns 0))) (-1) := by
  refine MI.of (own := RX3) rfl rfl (Nat.le_of_ble_eq_true rfl) ?_
  intro pP eE sS mM below meth cC ls AA E hw hl hr hlk hE
  replace hl : lv_has ls 2 [(0, .ref (b 0)), (1, .int (p))] := hl
  refine lv_aload_n E.1 E.2.1 dX3_deliver_0 rfl (lv_at hl 0 rfl) ?_
  refine callVV E (c_X3_noteStateBefore l G b ad (v) (pd) (rv) (Ns) nx u hx0 hnx hu0 hu6) mw_3_20 YX3_noteStateBefore ⟨rfl, rfl⟩ ⟨Nat.le_of_ble_eq_true rfl, Nat.le_of_ble_eq_true rfl⟩ ⟨Nat.zero_le _, Nat.zero_le _⟩ hw 0 rfl rfl rfl hl rfl (Nat.le_of_ble_eq_true rfl) dX3_deliver_1 (fun H locs hw => ?_)
  refine lv_aload_n E.1 E.2.1 dX3_deliver_4 rfl (lv_at hl 0 rfl) ?_
  refine lv_aload_n E.1 E.2.1 dX3_deliver_5 rfl (lv_at hl 0 rfl) ?_
  refine gX3_0 E hw mw_1_16 dX3_deliver_6 ?_
  refine lv_iload_n E.1 E.2.1 dX3_deliver_9 rfl (lv_at hl 1 rfl) ?_
  refine callVIp E (c_X2_handOver_bad l G (ad 0) (Ns 0) p h) ES.eb (fun _ _ _ => trivial) mw_8_14 YX2_handOver ⟨rfl, rfl⟩ ⟨Nat.le_of_ble_eq_true rfl, Nat.le_of_ble_eq_true rfl⟩ ⟨Nat.zero_le _, Nat.zero_le _⟩ hw (cW_p0 (va_up_ne _ _ (by omega)) (by omega)) (cW_p0 (va_up_ne _ _ (by omega)) (by omega)) 0 rfl rfl rfl hl rfl (Nat.le_of_ble_eq_true rfl) dX3_deliver_10 (fun H locs hw => ?_)
  refine callVI E (c_X3_recorded_neg l G b ad (v) (pd) (rv) (va_up (Ns) (2 + nx) (Ns 0)) nx u hx0 hnx hu0 hu6 (-1) (by decide)) mw_5_0 YX3_recorded ⟨rfl, rfl⟩ ⟨Nat.le_of_ble_eq_true rfl, Nat.le_of_ble_eq_true rfl⟩ ⟨Nat.zero_le _, Nat.zero_le _⟩ hw 0 rfl rfl rfl hl rfl (Nat.le_of_ble_eq_true rfl) dX3_deliver_13 (fun H locs hw => ?_)
  exact rI E hr hlk (HB.eq hw (rfl)) (rfl) dX3_deliver_16
set_option maxHeartbeats 4000000 in
set_option maxRecDepth 100000 in
theorem c_X3_deliver_ok (l : Launch) (G : GP) (b : Nat → Nat) (ad : Nat → Nat → Nat) (v pd rv : Nat → Int32) (Ns : Nat → NS) (nx u : Nat) (hx0 : v 0 = nI nx) (hnx : nx < 7) (hu0 : v 1 = nI u) (hu6 : u ≤ 6) (p : Nat) (hp : p < Ns 0 6) (hI : Inv (Ns 0)) : MI l yX3_deliver (.code yX3_deliver cX3_deliver 2 (some .int) :: GW) ({ frames := 4, cells := 0, slots := 0, locals := 97 }) [.ref (b 0), .int (nI (p))] G ES (cW G b ad (v) (pd) (rv) (Ns)) (cW G b ad (recV nx u v) (pd) (rv) (va_up (va_up (Ns) (2 + nx) (Ns 0)) 0 (mDlv p (Ns 0)))) (nI (mDlv p (Ns 0) 6)) := by
  refine MI.of (own := RX3) rfl rfl (Nat.le_of_ble_eq_true rfl) ?_
  intro pP eE sS mM below meth cC ls AA E hw hl hr hlk hE
  replace hl : lv_has ls 2 [(0, .ref (b 0)), (1, .int (nI (p)))] := hl
  have hb6 := (hI.dlv hp).1.1
  refine lv_aload_n E.1 E.2.1 dX3_deliver_0 rfl (lv_at hl 0 rfl) ?_
  refine callVV E (c_X3_noteStateBefore l G b ad (v) (pd) (rv) (Ns) nx u hx0 hnx hu0 hu6) mw_3_20 YX3_noteStateBefore ⟨rfl, rfl⟩ ⟨Nat.le_of_ble_eq_true rfl, Nat.le_of_ble_eq_true rfl⟩ ⟨Nat.zero_le _, Nat.zero_le _⟩ hw 0 rfl rfl rfl hl rfl (Nat.le_of_ble_eq_true rfl) dX3_deliver_1 (fun H locs hw => ?_)
  refine lv_aload_n E.1 E.2.1 dX3_deliver_4 rfl (lv_at hl 0 rfl) ?_
  refine lv_aload_n E.1 E.2.1 dX3_deliver_5 rfl (lv_at hl 0 rfl) ?_
  refine gX3_0 E hw mw_1_16 dX3_deliver_6 ?_
  refine lv_iload_n E.1 E.2.1 dX3_deliver_9 rfl (lv_at hl 1 rfl) ?_
  refine callVIp E (c_X2_handOver l G (ad 0) (Ns 0) p _ _ _ _ hI hp rfl rfl rfl rfl (hI.2.1 p hp)) ES.eb (fun _ _ _ => trivial) mw_8_14 YX2_handOver ⟨rfl, rfl⟩ ⟨Nat.le_of_ble_eq_true rfl, Nat.le_of_ble_eq_true rfl⟩ ⟨Nat.zero_le _, Nat.zero_le _⟩ hw (cW_p0 (va_up_ne _ _ (by omega)) (by omega)) (cW_p (mDlv p (Ns 0)) (by omega)) 0 rfl rfl rfl hl rfl (Nat.le_of_ble_eq_true rfl) dX3_deliver_10 (fun H locs hw => ?_)
  refine callVI E (c_X3_recorded l G b ad (v) (pd) (rv) (va_up (va_up (Ns) (2 + nx) (Ns 0)) 0 (mDlv p (Ns 0))) nx u hx0 hnx hu0 hu6 (nI (mDlv p (Ns 0) 6)) ((nI_pos (by omega)))) mw_5_0 YX3_recorded ⟨rfl, rfl⟩ ⟨Nat.le_of_ble_eq_true rfl, Nat.le_of_ble_eq_true rfl⟩ ⟨Nat.zero_le _, Nat.zero_le _⟩ hw 0 rfl rfl rfl hl rfl (Nat.le_of_ble_eq_true rfl) dX3_deliver_13 (fun H locs hw => ?_)
  exact rI E hr hlk (HB.eq hw (rfl)) (rfl) dX3_deliver_16
theorem YX3_lose : YV yX3_lose RX3 cX3_lose 2 (some .int) 1 := ⟨mw_12_22, mw_12_23, mw_1_2, mw_13_0, by decide +kernel⟩
set_option maxHeartbeats 4000000 in
set_option maxRecDepth 100000 in
theorem c_X3_lose_bad (l : Launch) (G : GP) (b : Nat → Nat) (ad : Nat → Nat → Nat) (v pd rv : Nat → Int32) (Ns : Nat → NS) (nx u : Nat) (hx0 : v 0 = nI nx) (hnx : nx < 7) (hu0 : v 1 = nI u) (hu6 : u ≤ 6) (p : Int32) (h : ¬ (0 ≤ p ∧ p < nI (Ns 0 6))) : MI l yX3_lose (.code yX3_lose cX3_lose 2 (some .int) :: GW) ({ frames := 4, cells := 0, slots := 0, locals := 80 }) [.ref (b 0), .int (p)] G ES (cW G b ad (v) (pd) (rv) (Ns)) (cW G b ad (v) (pd) (rv) (va_up (Ns) (2 + nx) (Ns 0))) (-1) := by
  refine MI.of (own := RX3) rfl rfl (Nat.le_of_ble_eq_true rfl) ?_
  intro pP eE sS mM below meth cC ls AA E hw hl hr hlk hE
  replace hl : lv_has ls 2 [(0, .ref (b 0)), (1, .int (p))] := hl
  refine lv_aload_n E.1 E.2.1 dX3_lose_0 rfl (lv_at hl 0 rfl) ?_
  refine callVV E (c_X3_noteStateBefore l G b ad (v) (pd) (rv) (Ns) nx u hx0 hnx hu0 hu6) mw_3_20 YX3_noteStateBefore ⟨rfl, rfl⟩ ⟨Nat.le_of_ble_eq_true rfl, Nat.le_of_ble_eq_true rfl⟩ ⟨Nat.zero_le _, Nat.zero_le _⟩ hw 0 rfl rfl rfl hl rfl (Nat.le_of_ble_eq_true rfl) dX3_lose_1 (fun H locs hw => ?_)
  refine lv_aload_n E.1 E.2.1 dX3_lose_4 rfl (lv_at hl 0 rfl) ?_
  refine lv_aload_n E.1 E.2.1 dX3_lose_5 rfl (lv_at hl 0 rfl) ?_
  refine gX3_0 E hw mw_1_16 dX3_lose_6 ?_
  refine lv_iload_n E.1 E.2.1 dX3_lose_9 rfl (lv_at hl 1 rfl) ?_
  refine callVIp E (c_X2_dropMessage_bad l G (ad 0) (Ns 0) p h) ES.eb (fun _ _ _ => trivial) mw_13_1 YX2_dropMessage ⟨rfl, rfl⟩ ⟨Nat.le_of_ble_eq_true rfl, Nat.le_of_ble_eq_true rfl⟩ ⟨Nat.zero_le _, Nat.zero_le _⟩ hw (cW_p0 (va_up_ne _ _ (by omega)) (by omega)) (cW_p0 (va_up_ne _ _ (by omega)) (by omega)) 0 rfl rfl rfl hl rfl (Nat.le_of_ble_eq_true rfl) dX3_lose_10 (fun H locs hw => ?_)
  refine callVI E (c_X3_recorded_neg l G b ad (v) (pd) (rv) (va_up (Ns) (2 + nx) (Ns 0)) nx u hx0 hnx hu0 hu6 (-1) (by decide)) mw_5_0 YX3_recorded ⟨rfl, rfl⟩ ⟨Nat.le_of_ble_eq_true rfl, Nat.le_of_ble_eq_true rfl⟩ ⟨Nat.zero_le _, Nat.zero_le _⟩ hw 0 rfl rfl rfl hl rfl (Nat.le_of_ble_eq_true rfl) dX3_lose_13 (fun H locs hw => ?_)
  exact rI E hr hlk (HB.eq hw (rfl)) (rfl) dX3_lose_16
set_option maxHeartbeats 4000000 in
set_option maxRecDepth 100000 in
theorem c_X3_lose_ok (l : Launch) (G : GP) (b : Nat → Nat) (ad : Nat → Nat → Nat) (v pd rv : Nat → Int32) (Ns : Nat → NS) (nx u : Nat) (hx0 : v 0 = nI nx) (hnx : nx < 7) (hu0 : v 1 = nI u) (hu6 : u ≤ 6) (p : Nat) (hp : p < Ns 0 6) (hI : Inv (Ns 0)) : MI l yX3_lose (.code yX3_lose cX3_lose 2 (some .int) :: GW) ({ frames := 4, cells := 0, slots := 0, locals := 80 }) [.ref (b 0), .int (nI (p))] G ES (cW G b ad (v) (pd) (rv) (Ns)) (cW G b ad (recV nx u v) (pd) (rv) (va_up (va_up (Ns) (2 + nx) (Ns 0)) 0 (mLose p (Ns 0)))) (nI (mLose p (Ns 0) 6)) := by
  refine MI.of (own := RX3) rfl rfl (Nat.le_of_ble_eq_true rfl) ?_
  intro pP eE sS mM below meth cC ls AA E hw hl hr hlk hE
  replace hl : lv_has ls 2 [(0, .ref (b 0)), (1, .int (nI (p)))] := hl
  have hb6 := (hI.los hp).1.1
  refine lv_aload_n E.1 E.2.1 dX3_lose_0 rfl (lv_at hl 0 rfl) ?_
  refine callVV E (c_X3_noteStateBefore l G b ad (v) (pd) (rv) (Ns) nx u hx0 hnx hu0 hu6) mw_3_20 YX3_noteStateBefore ⟨rfl, rfl⟩ ⟨Nat.le_of_ble_eq_true rfl, Nat.le_of_ble_eq_true rfl⟩ ⟨Nat.zero_le _, Nat.zero_le _⟩ hw 0 rfl rfl rfl hl rfl (Nat.le_of_ble_eq_true rfl) dX3_lose_1 (fun H locs hw => ?_)
  refine lv_aload_n E.1 E.2.1 dX3_lose_4 rfl (lv_at hl 0 rfl) ?_
  refine lv_aload_n E.1 E.2.1 dX3_lose_5 rfl (lv_at hl 0 rfl) ?_
  refine gX3_0 E hw mw_1_16 dX3_lose_6 ?_
  refine lv_iload_n E.1 E.2.1 dX3_lose_9 rfl (lv_at hl 1 rfl) ?_
  refine callVIp E (c_X2_dropMessage_ok l G (ad 0) (Ns 0) p hp hI.1.1) ES.eb (fun _ _ _ => trivial) mw_13_1 YX2_dropMessage ⟨rfl, rfl⟩ ⟨Nat.le_of_ble_eq_true rfl, Nat.le_of_ble_eq_true rfl⟩ ⟨Nat.zero_le _, Nat.zero_le _⟩ hw (cW_p0 (va_up_ne _ _ (by omega)) (by omega)) (cW_p (mLose p (Ns 0)) (by omega)) 0 rfl rfl rfl hl rfl (Nat.le_of_ble_eq_true rfl) dX3_lose_10 (fun H locs hw => ?_)
  refine callVI E (c_X3_recorded l G b ad (v) (pd) (rv) (va_up (va_up (Ns) (2 + nx) (Ns 0)) 0 (mLose p (Ns 0))) nx u hx0 hnx hu0 hu6 (nI (mLose p (Ns 0) 6)) ((nI_pos (by omega)))) mw_5_0 YX3_recorded ⟨rfl, rfl⟩ ⟨Nat.le_of_ble_eq_true rfl, Nat.le_of_ble_eq_true rfl⟩ ⟨Nat.zero_le _, Nat.zero_le _⟩ hw 0 rfl rfl rfl hl rfl (Nat.le_of_ble_eq_true rfl) dX3_lose_13 (fun H locs hw => ?_)
  exact rI E hr hlk (HB.eq hw (rfl)) (rfl) dX3_lose_16
theorem YX3_twice : YV yX3_twice RX3 cX3_twice 2 (some .int) 1 := ⟨mw_13_14, mw_13_15, mw_1_2, mw_13_16, by decide +kernel⟩
set_option maxHeartbeats 4000000 in
set_option maxRecDepth 100000 in
theorem c_X3_twice_bad (l : Launch) (G : GP) (b : Nat → Nat) (ad : Nat → Nat → Nat) (v pd rv : Nat → Int32) (Ns : Nat → NS) (nx u : Nat) (hx0 : v 0 = nI nx) (hnx : nx < 7) (hu0 : v 1 = nI u) (hu6 : u ≤ 6) (p : Int32) (h : ¬ (0 ≤ p ∧ p < nI (Ns 0 6))) : MI l yX3_twice (.code yX3_twice cX3_twice 2 (some .int) :: GW) ({ frames := 4, cells := 0, slots := 0, locals := 80 }) [.ref (b 0), .int (p)] G ES (cW G b ad (v) (pd) (rv) (Ns)) (cW G b ad (v) (pd) (rv) (va_up (Ns) (2 + nx) (Ns 0))) (-1) := by
  refine MI.of (own := RX3) rfl rfl (Nat.le_of_ble_eq_true rfl) ?_
  intro pP eE sS mM below meth cC ls AA E hw hl hr hlk hE
  replace hl : lv_has ls 2 [(0, .ref (b 0)), (1, .int (p))] := hl
  refine lv_aload_n E.1 E.2.1 dX3_twice_0 rfl (lv_at hl 0 rfl) ?_
  refine callVV E (c_X3_noteStateBefore l G b ad (v) (pd) (rv) (Ns) nx u hx0 hnx hu0 hu6) mw_3_20 YX3_noteStateBefore ⟨rfl, rfl⟩ ⟨Nat.le_of_ble_eq_true rfl, Nat.le_of_ble_eq_true rfl⟩ ⟨Nat.zero_le _, Nat.zero_le _⟩ hw 0 rfl rfl rfl hl rfl (Nat.le_of_ble_eq_true rfl) dX3_twice_1 (fun H locs hw => ?_)
  refine lv_aload_n E.1 E.2.1 dX3_twice_4 rfl (lv_at hl 0 rfl) ?_
  refine lv_aload_n E.1 E.2.1 dX3_twice_5 rfl (lv_at hl 0 rfl) ?_
  refine gX3_0 E hw mw_1_16 dX3_twice_6 ?_
  refine lv_iload_n E.1 E.2.1 dX3_twice_9 rfl (lv_at hl 1 rfl) ?_
  refine callVIp E (c_X2_repeatMessage_bad l G (ad 0) (Ns 0) p h) ES.eb (fun _ _ _ => trivial) mw_13_17 YX2_repeatMessage ⟨rfl, rfl⟩ ⟨Nat.le_of_ble_eq_true rfl, Nat.le_of_ble_eq_true rfl⟩ ⟨Nat.zero_le _, Nat.zero_le _⟩ hw (cW_p0 (va_up_ne _ _ (by omega)) (by omega)) (cW_p0 (va_up_ne _ _ (by omega)) (by omega)) 0 rfl rfl rfl hl rfl (Nat.le_of_ble_eq_true rfl) dX3_twice_10 (fun H locs hw => ?_)
  refine callVI E (c_X3_recorded_neg l G b ad (v) (pd) (rv) (va_up (Ns) (2 + nx) (Ns 0)) nx u hx0 hnx hu0 hu6 (-1) (by decide)) mw_5_0 YX3_recorded ⟨rfl, rfl⟩ ⟨Nat.le_of_ble_eq_true rfl, Nat.le_of_ble_eq_true rfl⟩ ⟨Nat.zero_le _, Nat.zero_le _⟩ hw 0 rfl rfl rfl hl rfl (Nat.le_of_ble_eq_true rfl) dX3_twice_13 (fun H locs hw => ?_)
  exact rI E hr hlk (HB.eq hw (rfl)) (rfl) dX3_twice_16
set_option maxHeartbeats 4000000 in
set_option maxRecDepth 100000 in
theorem c_X3_twice_full (l : Launch) (G : GP) (b : Nat → Nat) (ad : Nat → Nat → Nat) (v pd rv : Nat → Int32) (Ns : Nat → NS) (nx u : Nat) (hx0 : v 0 = nI nx) (hnx : nx < 7) (hu0 : v 1 = nI u) (hu6 : u ≤ 6) (p : Nat) (hp : p < Ns 0 6) (hI : Inv (Ns 0)) (hL : Ns 0 6 = 60) : MI l yX3_twice (.code yX3_twice cX3_twice 2 (some .int) :: GW) ({ frames := 4, cells := 0, slots := 0, locals := 80 }) [.ref (b 0), .int (nI (p))] G ES (cW G b ad (v) (pd) (rv) (Ns)) (cW G b ad (v) (pd) (rv) (va_up (Ns) (2 + nx) (Ns 0))) (-4) := by
  refine MI.of (own := RX3) rfl rfl (Nat.le_of_ble_eq_true rfl) ?_
  intro pP eE sS mM below meth cC ls AA E hw hl hr hlk hE
  replace hl : lv_has ls 2 [(0, .ref (b 0)), (1, .int (nI (p)))] := hl
  refine lv_aload_n E.1 E.2.1 dX3_twice_0 rfl (lv_at hl 0 rfl) ?_
  refine callVV E (c_X3_noteStateBefore l G b ad (v) (pd) (rv) (Ns) nx u hx0 hnx hu0 hu6) mw_3_20 YX3_noteStateBefore ⟨rfl, rfl⟩ ⟨Nat.le_of_ble_eq_true rfl, Nat.le_of_ble_eq_true rfl⟩ ⟨Nat.zero_le _, Nat.zero_le _⟩ hw 0 rfl rfl rfl hl rfl (Nat.le_of_ble_eq_true rfl) dX3_twice_1 (fun H locs hw => ?_)
  refine lv_aload_n E.1 E.2.1 dX3_twice_4 rfl (lv_at hl 0 rfl) ?_
  refine lv_aload_n E.1 E.2.1 dX3_twice_5 rfl (lv_at hl 0 rfl) ?_
  refine gX3_0 E hw mw_1_16 dX3_twice_6 ?_
  refine lv_iload_n E.1 E.2.1 dX3_twice_9 rfl (lv_at hl 1 rfl) ?_
  refine callVIp E (c_X2_repeatMessage_full l G (ad 0) (Ns 0) p hp hL) ES.eb (fun _ _ _ => trivial) mw_13_17 YX2_repeatMessage ⟨rfl, rfl⟩ ⟨Nat.le_of_ble_eq_true rfl, Nat.le_of_ble_eq_true rfl⟩ ⟨Nat.zero_le _, Nat.zero_le _⟩ hw (cW_p0 (va_up_ne _ _ (by omega)) (by omega)) (cW_p0 (va_up_ne _ _ (by omega)) (by omega)) 0 rfl rfl rfl hl rfl (Nat.le_of_ble_eq_true rfl) dX3_twice_10 (fun H locs hw => ?_)
  refine callVI E (c_X3_recorded_neg l G b ad (v) (pd) (rv) (va_up (Ns) (2 + nx) (Ns 0)) nx u hx0 hnx hu0 hu6 (-4) (by decide)) mw_5_0 YX3_recorded ⟨rfl, rfl⟩ ⟨Nat.le_of_ble_eq_true rfl, Nat.le_of_ble_eq_true rfl⟩ ⟨Nat.zero_le _, Nat.zero_le _⟩ hw 0 rfl rfl rfl hl rfl (Nat.le_of_ble_eq_true rfl) dX3_twice_13 (fun H locs hw => ?_)
  exact rI E hr hlk (HB.eq hw (rfl)) (rfl) dX3_twice_16
set_option maxHeartbeats 4000000 in
set_option maxRecDepth 100000 in
theorem c_X3_twice_ok (l : Launch) (G : GP) (b : Nat → Nat) (ad : Nat → Nat → Nat) (v pd rv : Nat → Int32) (Ns : Nat → NS) (nx u : Nat) (hx0 : v 0 = nI nx) (hnx : nx < 7) (hu0 : v 1 = nI u) (hu6 : u ≤ 6) (p : Nat) (hp : p < Ns 0 6) (hI : Inv (Ns 0)) (hL : ¬ Ns 0 6 = 60) : MI l yX3_twice (.code yX3_twice cX3_twice 2 (some .int) :: GW) ({ frames := 4, cells := 0, slots := 0, locals := 80 }) [.ref (b 0), .int (nI (p))] G ES (cW G b ad (v) (pd) (rv) (Ns)) (cW G b ad (recV nx u v) (pd) (rv) (va_up (va_up (Ns) (2 + nx) (Ns 0)) 0 (mTwi p (Ns 0)))) (nI (mTwi p (Ns 0) 6)) := by
  refine MI.of (own := RX3) rfl rfl (Nat.le_of_ble_eq_true rfl) ?_
  intro pP eE sS mM below meth cC ls AA E hw hl hr hlk hE
  replace hl : lv_has ls 2 [(0, .ref (b 0)), (1, .int (nI (p)))] := hl
  have hb6 := (hI.twi hp hL).1.1
  refine lv_aload_n E.1 E.2.1 dX3_twice_0 rfl (lv_at hl 0 rfl) ?_
  refine callVV E (c_X3_noteStateBefore l G b ad (v) (pd) (rv) (Ns) nx u hx0 hnx hu0 hu6) mw_3_20 YX3_noteStateBefore ⟨rfl, rfl⟩ ⟨Nat.le_of_ble_eq_true rfl, Nat.le_of_ble_eq_true rfl⟩ ⟨Nat.zero_le _, Nat.zero_le _⟩ hw 0 rfl rfl rfl hl rfl (Nat.le_of_ble_eq_true rfl) dX3_twice_1 (fun H locs hw => ?_)
  refine lv_aload_n E.1 E.2.1 dX3_twice_4 rfl (lv_at hl 0 rfl) ?_
  refine lv_aload_n E.1 E.2.1 dX3_twice_5 rfl (lv_at hl 0 rfl) ?_
  refine gX3_0 E hw mw_1_16 dX3_twice_6 ?_
  refine lv_iload_n E.1 E.2.1 dX3_twice_9 rfl (lv_at hl 1 rfl) ?_
  refine callVIp E (c_X2_repeatMessage_ok l G (ad 0) (Ns 0) p hp hI.1.1 hL) ES.eb (fun _ _ _ => trivial) mw_13_17 YX2_repeatMessage ⟨rfl, rfl⟩ ⟨Nat.le_of_ble_eq_true rfl, Nat.le_of_ble_eq_true rfl⟩ ⟨Nat.zero_le _, Nat.zero_le _⟩ hw (cW_p0 (va_up_ne _ _ (by omega)) (by omega)) (cW_p (mTwi p (Ns 0)) (by omega)) 0 rfl rfl rfl hl rfl (Nat.le_of_ble_eq_true rfl) dX3_twice_10 (fun H locs hw => ?_)
  refine callVI E (c_X3_recorded l G b ad (v) (pd) (rv) (va_up (va_up (Ns) (2 + nx) (Ns 0)) 0 (mTwi p (Ns 0))) nx u hx0 hnx hu0 hu6 (nI (mTwi p (Ns 0) 6)) ((nI_pos (by omega)))) mw_5_0 YX3_recorded ⟨rfl, rfl⟩ ⟨Nat.le_of_ble_eq_true rfl, Nat.le_of_ble_eq_true rfl⟩ ⟨Nat.zero_le _, Nat.zero_le _⟩ hw 0 rfl rfl rfl hl rfl (Nat.le_of_ble_eq_true rfl) dX3_twice_13 (fun H locs hw => ?_)
  exact rI E hr hlk (HB.eq hw (rfl)) (rfl) dX3_twice_16
theorem YX3_fall : YV yX3_fall RX3 cX3_fall 2 (some .int) 1 := ⟨mw_14_6, mw_14_7, mw_1_2, mw_14_8, by decide +kernel⟩
set_option maxHeartbeats 4000000 in
set_option maxRecDepth 100000 in
theorem c_X3_fall_bad (l : Launch) (G : GP) (b : Nat → Nat) (ad : Nat → Nat → Nat) (v pd rv : Nat → Int32) (Ns : Nat → NS) (nx u : Nat) (hx0 : v 0 = nI nx) (hnx : nx < 7) (hu0 : v 1 = nI u) (hu6 : u ≤ 6) (e : Int32) (h : ¬ (nI 0 ≤ e ∧ e ≤ nI 4)) : MI l yX3_fall (.code yX3_fall cX3_fall 2 (some .int) :: GW) ({ frames := 4, cells := 0, slots := 0, locals := 89 }) [.ref (b 0), .int (e)] G ES (cW G b ad (v) (pd) (rv) (Ns)) (cW G b ad (v) (pd) (rv) (va_up (Ns) (2 + nx) (Ns 0))) (-1) := by
  refine MI.of (own := RX3) rfl rfl (Nat.le_of_ble_eq_true rfl) ?_
  intro pP eE sS mM below meth cC ls AA E hw hl hr hlk hE
  replace hl : lv_has ls 2 [(0, .ref (b 0)), (1, .int (e))] := hl
  refine lv_aload_n E.1 E.2.1 dX3_fall_0 rfl (lv_at hl 0 rfl) ?_
  refine callVV E (c_X3_noteStateBefore l G b ad (v) (pd) (rv) (Ns) nx u hx0 hnx hu0 hu6) mw_3_20 YX3_noteStateBefore ⟨rfl, rfl⟩ ⟨Nat.le_of_ble_eq_true rfl, Nat.le_of_ble_eq_true rfl⟩ ⟨Nat.zero_le _, Nat.zero_le _⟩ hw 0 rfl rfl rfl hl rfl (Nat.le_of_ble_eq_true rfl) dX3_fall_1 (fun H locs hw => ?_)
  refine lv_aload_n E.1 E.2.1 dX3_fall_4 rfl (lv_at hl 0 rfl) ?_
  refine lv_aload_n E.1 E.2.1 dX3_fall_5 rfl (lv_at hl 0 rfl) ?_
  refine gX3_0 E hw mw_1_16 dX3_fall_6 ?_
  refine lv_iload_n E.1 E.2.1 dX3_fall_9 rfl (lv_at hl 1 rfl) ?_
  refine callVIp E (c_X2_fallIll_bad l G (ad 0) (Ns 0) e h) ES.eb (fun _ _ _ => trivial) mw_14_9 YX2_fallIll ⟨rfl, rfl⟩ ⟨Nat.le_of_ble_eq_true rfl, Nat.le_of_ble_eq_true rfl⟩ ⟨Nat.zero_le _, Nat.zero_le _⟩ hw (cW_p0 (va_up_ne _ _ (by omega)) (by omega)) (cW_p0 (va_up_ne _ _ (by omega)) (by omega)) 0 rfl rfl rfl hl rfl (Nat.le_of_ble_eq_true rfl) dX3_fall_10 (fun H locs hw => ?_)
  refine callVI E (c_X3_recorded_neg l G b ad (v) (pd) (rv) (va_up (Ns) (2 + nx) (Ns 0)) nx u hx0 hnx hu0 hu6 (-1) (by decide)) mw_5_0 YX3_recorded ⟨rfl, rfl⟩ ⟨Nat.le_of_ble_eq_true rfl, Nat.le_of_ble_eq_true rfl⟩ ⟨Nat.zero_le _, Nat.zero_le _⟩ hw 0 rfl rfl rfl hl rfl (Nat.le_of_ble_eq_true rfl) dX3_fall_13 (fun H locs hw => ?_)
  exact rI E hr hlk (HB.eq hw (rfl)) (rfl) dX3_fall_16
set_option maxHeartbeats 4000000 in
set_option maxRecDepth 100000 in
theorem c_X3_fall_no (l : Launch) (G : GP) (b : Nat → Nat) (ad : Nat → Nat → Nat) (v pd rv : Nat → Int32) (Ns : Nat → NS) (nx u : Nat) (hx0 : v 0 = nI nx) (hnx : nx < 7) (hu0 : v 1 = nI u) (hu6 : u ≤ 6) (w : Nat) (hw : w < 5) (hF : FI (Ns 0)) (hf : rFal w (Ns 0) < 0) : MI l yX3_fall (.code yX3_fall cX3_fall 2 (some .int) :: GW) ({ frames := 4, cells := 0, slots := 0, locals := 89 }) [.ref (b 0), .int (nI (w))] G ES (cW G b ad (v) (pd) (rv) (Ns)) (cW G b ad (v) (pd) (rv) (va_up (va_up (Ns) (2 + nx) (Ns 0)) 0 (nFal w (Ns 0)))) (rFal w (Ns 0)) := by
  have hw5 := hw
  refine MI.of (own := RX3) rfl rfl (Nat.le_of_ble_eq_true rfl) ?_
  intro pP eE sS mM below meth cC ls AA E hw hl hr hlk hE
  replace hl : lv_has ls 2 [(0, .ref (b 0)), (1, .int (nI (w)))] := hl
  refine lv_aload_n E.1 E.2.1 dX3_fall_0 rfl (lv_at hl 0 rfl) ?_
  refine callVV E (c_X3_noteStateBefore l G b ad (v) (pd) (rv) (Ns) nx u hx0 hnx hu0 hu6) mw_3_20 YX3_noteStateBefore ⟨rfl, rfl⟩ ⟨Nat.le_of_ble_eq_true rfl, Nat.le_of_ble_eq_true rfl⟩ ⟨Nat.zero_le _, Nat.zero_le _⟩ hw 0 rfl rfl rfl hl rfl (Nat.le_of_ble_eq_true rfl) dX3_fall_1 (fun H locs hw => ?_)
  refine lv_aload_n E.1 E.2.1 dX3_fall_4 rfl (lv_at hl 0 rfl) ?_
  refine lv_aload_n E.1 E.2.1 dX3_fall_5 rfl (lv_at hl 0 rfl) ?_
  refine gX3_0 E hw mw_1_16 dX3_fall_6 ?_
  refine lv_iload_n E.1 E.2.1 dX3_fall_9 rfl (lv_at hl 1 rfl) ?_
  refine callVIp E (c_X2_fallIll_ok l G (ad 0) (Ns 0) w hw5 hF) ES.eb (fun _ _ _ => trivial) mw_14_9 YX2_fallIll ⟨rfl, rfl⟩ ⟨Nat.le_of_ble_eq_true rfl, Nat.le_of_ble_eq_true rfl⟩ ⟨Nat.zero_le _, Nat.zero_le _⟩ hw (cW_p0 (va_up_ne _ _ (by omega)) (by omega)) (cW_p (nFal w (Ns 0)) (by omega)) 0 rfl rfl rfl hl rfl (Nat.le_of_ble_eq_true rfl) dX3_fall_10 (fun H locs hw => ?_)
  refine callVI E (c_X3_recorded_neg l G b ad (v) (pd) (rv) (va_up (va_up (Ns) (2 + nx) (Ns 0)) 0 (nFal w (Ns 0))) nx u hx0 hnx hu0 hu6 (rFal w (Ns 0)) (hf)) mw_5_0 YX3_recorded ⟨rfl, rfl⟩ ⟨Nat.le_of_ble_eq_true rfl, Nat.le_of_ble_eq_true rfl⟩ ⟨Nat.zero_le _, Nat.zero_le _⟩ hw 0 rfl rfl rfl hl rfl (Nat.le_of_ble_eq_true rfl) dX3_fall_13 (fun H locs hw => ?_)
  exact rI E hr hlk (HB.eq hw (rfl)) (rfl) dX3_fall_16
set_option maxHeartbeats 4000000 in
set_option maxRecDepth 100000 in
theorem c_X3_fall_ok (l : Launch) (G : GP) (b : Nat → Nat) (ad : Nat → Nat → Nat) (v pd rv : Nat → Int32) (Ns : Nat → NS) (nx u : Nat) (hx0 : v 0 = nI nx) (hnx : nx < 7) (hu0 : v 1 = nI u) (hu6 : u ≤ 6) (w : Nat) (hw : w < 5) (hF : FI (Ns 0)) (hf : ¬ rFal w (Ns 0) < 0) : MI l yX3_fall (.code yX3_fall cX3_fall 2 (some .int) :: GW) ({ frames := 4, cells := 0, slots := 0, locals := 89 }) [.ref (b 0), .int (nI (w))] G ES (cW G b ad (v) (pd) (rv) (Ns)) (cW G b ad (recV nx u v) (pd) (rv) (va_up (va_up (Ns) (2 + nx) (Ns 0)) 0 (nFal w (Ns 0)))) (rFal w (Ns 0)) := by
  have hw5 := hw
  refine MI.of (own := RX3) rfl rfl (Nat.le_of_ble_eq_true rfl) ?_
  intro pP eE sS mM below meth cC ls AA E hw hl hr hlk hE
  replace hl : lv_has ls 2 [(0, .ref (b 0)), (1, .int (nI (w)))] := hl
  refine lv_aload_n E.1 E.2.1 dX3_fall_0 rfl (lv_at hl 0 rfl) ?_
  refine callVV E (c_X3_noteStateBefore l G b ad (v) (pd) (rv) (Ns) nx u hx0 hnx hu0 hu6) mw_3_20 YX3_noteStateBefore ⟨rfl, rfl⟩ ⟨Nat.le_of_ble_eq_true rfl, Nat.le_of_ble_eq_true rfl⟩ ⟨Nat.zero_le _, Nat.zero_le _⟩ hw 0 rfl rfl rfl hl rfl (Nat.le_of_ble_eq_true rfl) dX3_fall_1 (fun H locs hw => ?_)
  refine lv_aload_n E.1 E.2.1 dX3_fall_4 rfl (lv_at hl 0 rfl) ?_
  refine lv_aload_n E.1 E.2.1 dX3_fall_5 rfl (lv_at hl 0 rfl) ?_
  refine gX3_0 E hw mw_1_16 dX3_fall_6 ?_
  refine lv_iload_n E.1 E.2.1 dX3_fall_9 rfl (lv_at hl 1 rfl) ?_
  refine callVIp E (c_X2_fallIll_ok l G (ad 0) (Ns 0) w hw5 hF) ES.eb (fun _ _ _ => trivial) mw_14_9 YX2_fallIll ⟨rfl, rfl⟩ ⟨Nat.le_of_ble_eq_true rfl, Nat.le_of_ble_eq_true rfl⟩ ⟨Nat.zero_le _, Nat.zero_le _⟩ hw (cW_p0 (va_up_ne _ _ (by omega)) (by omega)) (cW_p (nFal w (Ns 0)) (by omega)) 0 rfl rfl rfl hl rfl (Nat.le_of_ble_eq_true rfl) dX3_fall_10 (fun H locs hw => ?_)
  refine callVI E (c_X3_recorded l G b ad (v) (pd) (rv) (va_up (va_up (Ns) (2 + nx) (Ns 0)) 0 (nFal w (Ns 0))) nx u hx0 hnx hu0 hu6 (rFal w (Ns 0)) (hf)) mw_5_0 YX3_recorded ⟨rfl, rfl⟩ ⟨Nat.le_of_ble_eq_true rfl, Nat.le_of_ble_eq_true rfl⟩ ⟨Nat.zero_le _, Nat.zero_le _⟩ hw 0 rfl rfl rfl hl rfl (Nat.le_of_ble_eq_true rfl) dX3_fall_13 (fun H locs hw => ?_)
  exact rI E hr hlk (HB.eq hw (rfl)) (rfl) dX3_fall_16
theorem YX3_rise : YV yX3_rise RX3 cX3_rise 2 (some .int) 1 := ⟨mw_15_16, mw_15_17, mw_1_2, mw_15_18, by decide +kernel⟩
set_option maxHeartbeats 4000000 in
set_option maxRecDepth 100000 in
theorem c_X3_rise_bad (l : Launch) (G : GP) (b : Nat → Nat) (ad : Nat → Nat → Nat) (v pd rv : Nat → Int32) (Ns : Nat → NS) (nx u : Nat) (hx0 : v 0 = nI nx) (hnx : nx < 7) (hu0 : v 1 = nI u) (hu6 : u ≤ 6) (e : Int32) (h : ¬ (nI 0 ≤ e ∧ e ≤ nI 4)) : MI l yX3_rise (.code yX3_rise cX3_rise 2 (some .int) :: GW) ({ frames := 4, cells := 0, slots := 0, locals := 80 }) [.ref (b 0), .int (e)] G ES (cW G b ad (v) (pd) (rv) (Ns)) (cW G b ad (v) (pd) (rv) (va_up (Ns) (2 + nx) (Ns 0))) (-1) := by
  refine MI.of (own := RX3) rfl rfl (Nat.le_of_ble_eq_true rfl) ?_
  intro pP eE sS mM below meth cC ls AA E hw hl hr hlk hE
  replace hl : lv_has ls 2 [(0, .ref (b 0)), (1, .int (e))] := hl
  refine lv_aload_n E.1 E.2.1 dX3_rise_0 rfl (lv_at hl 0 rfl) ?_
  refine callVV E (c_X3_noteStateBefore l G b ad (v) (pd) (rv) (Ns) nx u hx0 hnx hu0 hu6) mw_3_20 YX3_noteStateBefore ⟨rfl, rfl⟩ ⟨Nat.le_of_ble_eq_true rfl, Nat.le_of_ble_eq_true rfl⟩ ⟨Nat.zero_le _, Nat.zero_le _⟩ hw 0 rfl rfl rfl hl rfl (Nat.le_of_ble_eq_true rfl) dX3_rise_1 (fun H locs hw => ?_)
  refine lv_aload_n E.1 E.2.1 dX3_rise_4 rfl (lv_at hl 0 rfl) ?_
  refine lv_aload_n E.1 E.2.1 dX3_rise_5 rfl (lv_at hl 0 rfl) ?_
  refine gX3_0 E hw mw_1_16 dX3_rise_6 ?_
  refine lv_iload_n E.1 E.2.1 dX3_rise_9 rfl (lv_at hl 1 rfl) ?_
  refine callVIp E (c_X2_getWell_bad l G (ad 0) (Ns 0) e h) ES.eb (fun _ _ _ => trivial) mw_15_19 YX2_getWell ⟨rfl, rfl⟩ ⟨Nat.le_of_ble_eq_true rfl, Nat.le_of_ble_eq_true rfl⟩ ⟨Nat.zero_le _, Nat.zero_le _⟩ hw (cW_p0 (va_up_ne _ _ (by omega)) (by omega)) (cW_p0 (va_up_ne _ _ (by omega)) (by omega)) 0 rfl rfl rfl hl rfl (Nat.le_of_ble_eq_true rfl) dX3_rise_10 (fun H locs hw => ?_)
  refine callVI E (c_X3_recorded_neg l G b ad (v) (pd) (rv) (va_up (Ns) (2 + nx) (Ns 0)) nx u hx0 hnx hu0 hu6 (-1) (by decide)) mw_5_0 YX3_recorded ⟨rfl, rfl⟩ ⟨Nat.le_of_ble_eq_true rfl, Nat.le_of_ble_eq_true rfl⟩ ⟨Nat.zero_le _, Nat.zero_le _⟩ hw 0 rfl rfl rfl hl rfl (Nat.le_of_ble_eq_true rfl) dX3_rise_13 (fun H locs hw => ?_)
  exact rI E hr hlk (HB.eq hw (rfl)) (rfl) dX3_rise_16
set_option maxHeartbeats 4000000 in
set_option maxRecDepth 100000 in
theorem c_X3_rise_no (l : Launch) (G : GP) (b : Nat → Nat) (ad : Nat → Nat → Nat) (v pd rv : Nat → Int32) (Ns : Nat → NS) (nx u : Nat) (hx0 : v 0 = nI nx) (hnx : nx < 7) (hu0 : v 1 = nI u) (hu6 : u ≤ 6) (w : Nat) (hw : w < 5) (hF : FI (Ns 0)) (hf : rRis w (Ns 0) < 0) : MI l yX3_rise (.code yX3_rise cX3_rise 2 (some .int) :: GW) ({ frames := 4, cells := 0, slots := 0, locals := 80 }) [.ref (b 0), .int (nI (w))] G ES (cW G b ad (v) (pd) (rv) (Ns)) (cW G b ad (v) (pd) (rv) (va_up (va_up (Ns) (2 + nx) (Ns 0)) 0 (nRis w (Ns 0)))) (rRis w (Ns 0)) := by
  have hw5 := hw
  refine MI.of (own := RX3) rfl rfl (Nat.le_of_ble_eq_true rfl) ?_
  intro pP eE sS mM below meth cC ls AA E hw hl hr hlk hE
  replace hl : lv_has ls 2 [(0, .ref (b 0)), (1, .int (nI (w)))] := hl
  refine lv_aload_n E.1 E.2.1 dX3_rise_0 rfl (lv_at hl 0 rfl) ?_
  refine callVV E (c_X3_noteStateBefore l G b ad (v) (pd) (rv) (Ns) nx u hx0 hnx hu0 hu6) mw_3_20 YX3_noteStateBefore ⟨rfl, rfl⟩ ⟨Nat.le_of_ble_eq_true rfl, Nat.le_of_ble_eq_true rfl⟩ ⟨Nat.zero_le _, Nat.zero_le _⟩ hw 0 rfl rfl rfl hl rfl (Nat.le_of_ble_eq_true rfl) dX3_rise_1 (fun H locs hw => ?_)
  refine lv_aload_n E.1 E.2.1 dX3_rise_4 rfl (lv_at hl 0 rfl) ?_
  refine lv_aload_n E.1 E.2.1 dX3_rise_5 rfl (lv_at hl 0 rfl) ?_
  refine gX3_0 E hw mw_1_16 dX3_rise_6 ?_
  refine lv_iload_n E.1 E.2.1 dX3_rise_9 rfl (lv_at hl 1 rfl) ?_
  refine callVIp E (c_X2_getWell_ok l G (ad 0) (Ns 0) w hw5 hF) ES.eb (fun _ _ _ => trivial) mw_15_19 YX2_getWell ⟨rfl, rfl⟩ ⟨Nat.le_of_ble_eq_true rfl, Nat.le_of_ble_eq_true rfl⟩ ⟨Nat.zero_le _, Nat.zero_le _⟩ hw (cW_p0 (va_up_ne _ _ (by omega)) (by omega)) (cW_p (nRis w (Ns 0)) (by omega)) 0 rfl rfl rfl hl rfl (Nat.le_of_ble_eq_true rfl) dX3_rise_10 (fun H locs hw => ?_)
  refine callVI E (c_X3_recorded_neg l G b ad (v) (pd) (rv) (va_up (va_up (Ns) (2 + nx) (Ns 0)) 0 (nRis w (Ns 0))) nx u hx0 hnx hu0 hu6 (rRis w (Ns 0)) (hf)) mw_5_0 YX3_recorded ⟨rfl, rfl⟩ ⟨Nat.le_of_ble_eq_true rfl, Nat.le_of_ble_eq_true rfl⟩ ⟨Nat.zero_le _, Nat.zero_le _⟩ hw 0 rfl rfl rfl hl rfl (Nat.le_of_ble_eq_true rfl) dX3_rise_13 (fun H locs hw => ?_)
  exact rI E hr hlk (HB.eq hw (rfl)) (rfl) dX3_rise_16
set_option maxHeartbeats 4000000 in
set_option maxRecDepth 100000 in
theorem c_X3_rise_ok (l : Launch) (G : GP) (b : Nat → Nat) (ad : Nat → Nat → Nat) (v pd rv : Nat → Int32) (Ns : Nat → NS) (nx u : Nat) (hx0 : v 0 = nI nx) (hnx : nx < 7) (hu0 : v 1 = nI u) (hu6 : u ≤ 6) (w : Nat) (hw : w < 5) (hF : FI (Ns 0)) (hf : ¬ rRis w (Ns 0) < 0) : MI l yX3_rise (.code yX3_rise cX3_rise 2 (some .int) :: GW) ({ frames := 4, cells := 0, slots := 0, locals := 80 }) [.ref (b 0), .int (nI (w))] G ES (cW G b ad (v) (pd) (rv) (Ns)) (cW G b ad (recV nx u v) (pd) (rv) (va_up (va_up (Ns) (2 + nx) (Ns 0)) 0 (nRis w (Ns 0)))) (rRis w (Ns 0)) := by
  have hw5 := hw
  refine MI.of (own := RX3) rfl rfl (Nat.le_of_ble_eq_true rfl) ?_
  intro pP eE sS mM below meth cC ls AA E hw hl hr hlk hE
  replace hl : lv_has ls 2 [(0, .ref (b 0)), (1, .int (nI (w)))] := hl
  refine lv_aload_n E.1 E.2.1 dX3_rise_0 rfl (lv_at hl 0 rfl) ?_
  refine callVV E (c_X3_noteStateBefore l G b ad (v) (pd) (rv) (Ns) nx u hx0 hnx hu0 hu6) mw_3_20 YX3_noteStateBefore ⟨rfl, rfl⟩ ⟨Nat.le_of_ble_eq_true rfl, Nat.le_of_ble_eq_true rfl⟩ ⟨Nat.zero_le _, Nat.zero_le _⟩ hw 0 rfl rfl rfl hl rfl (Nat.le_of_ble_eq_true rfl) dX3_rise_1 (fun H locs hw => ?_)
  refine lv_aload_n E.1 E.2.1 dX3_rise_4 rfl (lv_at hl 0 rfl) ?_
  refine lv_aload_n E.1 E.2.1 dX3_rise_5 rfl (lv_at hl 0 rfl) ?_
  refine gX3_0 E hw mw_1_16 dX3_rise_6 ?_
  refine lv_iload_n E.1 E.2.1 dX3_rise_9 rfl (lv_at hl 1 rfl) ?_
  refine callVIp E (c_X2_getWell_ok l G (ad 0) (Ns 0) w hw5 hF) ES.eb (fun _ _ _ => trivial) mw_15_19 YX2_getWell ⟨rfl, rfl⟩ ⟨Nat.le_of_ble_eq_true rfl, Nat.le_of_ble_eq_true rfl⟩ ⟨Nat.zero_le _, Nat.zero_le _⟩ hw (cW_p0 (va_up_ne _ _ (by omega)) (by omega)) (cW_p (nRis w (Ns 0)) (by omega)) 0 rfl rfl rfl hl rfl (Nat.le_of_ble_eq_true rfl) dX3_rise_10 (fun H locs hw => ?_)
  refine callVI E (c_X3_recorded l G b ad (v) (pd) (rv) (va_up (va_up (Ns) (2 + nx) (Ns 0)) 0 (nRis w (Ns 0))) nx u hx0 hnx hu0 hu6 (rRis w (Ns 0)) (hf)) mw_5_0 YX3_recorded ⟨rfl, rfl⟩ ⟨Nat.le_of_ble_eq_true rfl, Nat.le_of_ble_eq_true rfl⟩ ⟨Nat.zero_le _, Nat.zero_le _⟩ hw 0 rfl rfl rfl hl rfl (Nat.le_of_ble_eq_true rfl) dX3_rise_13 (fun H locs hw => ?_)
  exact rI E hr hlk (HB.eq hw (rfl)) (rfl) dX3_rise_16
theorem YX3_ticks : YV yX3_ticks RX3 cX3_ticks 2 (some .int) 1 := ⟨mw_16_4, mw_16_5, mw_1_2, mw_16_6, by decide +kernel⟩
set_option maxHeartbeats 4000000 in
set_option maxRecDepth 100000 in
theorem c_X3_ticks_bad (l : Launch) (G : GP) (b : Nat → Nat) (ad : Nat → Nat → Nat) (v pd rv : Nat → Int32) (Ns : Nat → NS) (nx u : Nat) (hx0 : v 0 = nI nx) (hnx : nx < 7) (hu0 : v 1 = nI u) (hu6 : u ≤ 6) (e : Int32) (h : ¬ (nI 1 ≤ e ∧ e ≤ nI 100)) : MI l yX3_ticks (.code yX3_ticks cX3_ticks 2 (some .int) :: GW) ({ frames := 5, cells := 0, slots := 0, locals := 115 }) [.ref (b 0), .int (e)] G ES (cW G b ad (v) (pd) (rv) (Ns)) (cW G b ad (v) (pd) (rv) (va_up (Ns) (2 + nx) (Ns 0))) (-2) := by
  refine MI.of (own := RX3) rfl rfl (Nat.le_of_ble_eq_true rfl) ?_
  intro pP eE sS mM below meth cC ls AA E hw hl hr hlk hE
  replace hl : lv_has ls 2 [(0, .ref (b 0)), (1, .int (e))] := hl
  refine lv_aload_n E.1 E.2.1 dX3_ticks_0 rfl (lv_at hl 0 rfl) ?_
  refine callVV E (c_X3_noteStateBefore l G b ad (v) (pd) (rv) (Ns) nx u hx0 hnx hu0 hu6) mw_3_20 YX3_noteStateBefore ⟨rfl, rfl⟩ ⟨Nat.le_of_ble_eq_true rfl, Nat.le_of_ble_eq_true rfl⟩ ⟨Nat.zero_le _, Nat.zero_le _⟩ hw 0 rfl rfl rfl hl rfl (Nat.le_of_ble_eq_true rfl) dX3_ticks_1 (fun H locs hw => ?_)
  refine lv_aload_n E.1 E.2.1 dX3_ticks_4 rfl (lv_at hl 0 rfl) ?_
  refine lv_aload_n E.1 E.2.1 dX3_ticks_5 rfl (lv_at hl 0 rfl) ?_
  refine gX3_0 E hw mw_1_16 dX3_ticks_6 ?_
  refine lv_iload_n E.1 E.2.1 dX3_ticks_9 rfl (lv_at hl 1 rfl) ?_
  refine callVIp E (c_X2_passTicks_bad l G (ad 0) (Ns 0) e h) ES.eb (fun _ _ _ => trivial) mw_16_7 YX2_passTicks ⟨rfl, rfl⟩ ⟨Nat.le_of_ble_eq_true rfl, Nat.le_of_ble_eq_true rfl⟩ ⟨Nat.zero_le _, Nat.zero_le _⟩ hw (cW_p0 (va_up_ne _ _ (by omega)) (by omega)) (cW_p0 (va_up_ne _ _ (by omega)) (by omega)) 0 rfl rfl rfl hl rfl (Nat.le_of_ble_eq_true rfl) dX3_ticks_10 (fun H locs hw => ?_)
  refine callVI E (c_X3_recorded_neg l G b ad (v) (pd) (rv) (va_up (Ns) (2 + nx) (Ns 0)) nx u hx0 hnx hu0 hu6 (-2) (by decide)) mw_5_0 YX3_recorded ⟨rfl, rfl⟩ ⟨Nat.le_of_ble_eq_true rfl, Nat.le_of_ble_eq_true rfl⟩ ⟨Nat.zero_le _, Nat.zero_le _⟩ hw 0 rfl rfl rfl hl rfl (Nat.le_of_ble_eq_true rfl) dX3_ticks_13 (fun H locs hw => ?_)
  exact rI E hr hlk (HB.eq hw (rfl)) (rfl) dX3_ticks_16
set_option maxHeartbeats 4000000 in
set_option maxRecDepth 100000 in
theorem c_X3_ticks_ok (l : Launch) (G : GP) (b : Nat → Nat) (ad : Nat → Nat → Nat) (v pd rv : Nat → Int32) (Ns : Nat → NS) (nx u : Nat) (hx0 : v 0 = nI nx) (hnx : nx < 7) (hu0 : v 1 = nI u) (hu6 : u ≤ 6) (t : Nat) (ht : 1 ≤ t ∧ t ≤ 100) (hF : FI (Ns 0)) (h4 : mTicks t (Ns 0) 4 < 2 ^ 31) : MI l yX3_ticks (.code yX3_ticks cX3_ticks 2 (some .int) :: GW) ({ frames := 5, cells := 0, slots := 0, locals := 115 }) [.ref (b 0), .int (nI (t))] G ES (cW G b ad (v) (pd) (rv) (Ns)) (cW G b ad (recV nx u v) (pd) (rv) (va_up (va_up (Ns) (2 + nx) (Ns 0)) 0 (mTicks t (Ns 0)))) (nI (mTicks t (Ns 0) 4)) := by
  refine MI.of (own := RX3) rfl rfl (Nat.le_of_ble_eq_true rfl) ?_
  intro pP eE sS mM below meth cC ls AA E hw hl hr hlk hE
  replace hl : lv_has ls 2 [(0, .ref (b 0)), (1, .int (nI (t)))] := hl
  refine lv_aload_n E.1 E.2.1 dX3_ticks_0 rfl (lv_at hl 0 rfl) ?_
  refine callVV E (c_X3_noteStateBefore l G b ad (v) (pd) (rv) (Ns) nx u hx0 hnx hu0 hu6) mw_3_20 YX3_noteStateBefore ⟨rfl, rfl⟩ ⟨Nat.le_of_ble_eq_true rfl, Nat.le_of_ble_eq_true rfl⟩ ⟨Nat.zero_le _, Nat.zero_le _⟩ hw 0 rfl rfl rfl hl rfl (Nat.le_of_ble_eq_true rfl) dX3_ticks_1 (fun H locs hw => ?_)
  refine lv_aload_n E.1 E.2.1 dX3_ticks_4 rfl (lv_at hl 0 rfl) ?_
  refine lv_aload_n E.1 E.2.1 dX3_ticks_5 rfl (lv_at hl 0 rfl) ?_
  refine gX3_0 E hw mw_1_16 dX3_ticks_6 ?_
  refine lv_iload_n E.1 E.2.1 dX3_ticks_9 rfl (lv_at hl 1 rfl) ?_
  refine callVIp E (c_X2_passTicks_ok l G (ad 0) (Ns 0) t ht hF) ES.eb (fun _ _ _ => trivial) mw_16_7 YX2_passTicks ⟨rfl, rfl⟩ ⟨Nat.le_of_ble_eq_true rfl, Nat.le_of_ble_eq_true rfl⟩ ⟨Nat.zero_le _, Nat.zero_le _⟩ hw (cW_p0 (va_up_ne _ _ (by omega)) (by omega)) (cW_p (mTicks t (Ns 0)) (by omega)) 0 rfl rfl rfl hl rfl (Nat.le_of_ble_eq_true rfl) dX3_ticks_10 (fun H locs hw => ?_)
  refine callVI E (c_X3_recorded l G b ad (v) (pd) (rv) (va_up (va_up (Ns) (2 + nx) (Ns 0)) 0 (mTicks t (Ns 0))) nx u hx0 hnx hu0 hu6 (nI (mTicks t (Ns 0) 4)) ((nI_pos (by omega)))) mw_5_0 YX3_recorded ⟨rfl, rfl⟩ ⟨Nat.le_of_ble_eq_true rfl, Nat.le_of_ble_eq_true rfl⟩ ⟨Nat.zero_le _, Nat.zero_le _⟩ hw 0 rfl rfl rfl hl rfl (Nat.le_of_ble_eq_true rfl) dX3_ticks_13 (fun H locs hw => ?_)
  exact rI E hr hlk (HB.eq hw (rfl)) (rfl) dX3_ticks_16

theorem YX3_carryOut : YV yX3_carryOut RX3 cX3_carryOut 2 (some .int) 0 := ⟨mw_30_5, mw_30_6, mw_1_2, mw_30_7, by decide +kernel⟩
set_option maxHeartbeats 4000000 in
set_option maxRecDepth 100000 in
theorem c_X3_carryOut_bad (l : Launch) (G : GP) (b : Nat → Nat) (ad : Nat → Nat → Nat) (v pd : Nat → Int32) (Ns : Nat → NS) (s : AS) (hs : rB s) (C : Nat → Nat) (pl : Nat) (hl0 : v 3 = nI pl) (hpl : pl ≤ 60) (hpd : ∀ j, j < pl → pd j = nI (C j)) (hC : ∀ j, j < pl → C j < 127) (kf : Nat) (hkf : endR C pl s kf) (h : ¬ (kf = pl ∧ mE (rg C s kf))) : MI l yX3_carryOut (.code yX3_carryOut cX3_carryOut 2 (some .int) :: GW) ({ frames := 8, cells := 0, slots := 0, locals := 190 }) [.ref (b 0)] G ES (cW G b ad (v) (pd) (rvO (s)) (Ns)) (cW G b ad (v) (pd) (rvO (rg C s kf)) (Ns)) (-3) := by
  refine MI.of (own := RX3) rfl rfl (Nat.le_of_ble_eq_true rfl) ?_
  intro pP eE sS mM below meth cC ls AA E hw hl hr hlk hE
  replace hl : lv_has ls 2 [(0, .ref (b 0))] := hl
  have hkl := hkf.1
  refine lv_aload_n E.1 E.2.1 dX3_carryOut_0 rfl (lv_at hl 0 rfl) ?_
  refine callVI E (c_X3_faultOfPad l G b ad (v) (pd) (Ns) s hs C pl hl0 hpl hpd hC kf hkf) mw_26_20 YX3_faultOfPad ⟨rfl, rfl⟩ ⟨Nat.le_of_ble_eq_true rfl, Nat.le_of_ble_eq_true rfl⟩ ⟨Nat.zero_le _, Nat.zero_le _⟩ hw 0 rfl rfl rfl hl rfl (Nat.le_of_ble_eq_true rfl) dX3_carryOut_1 (fun H locs hw => ?_)
  refine lv_eqi (y := nI (kf)) (if_neg h) ?_
  refine lv_bipush (v := -6) E.1 E.2.1 dX3_carryOut_4 (by decide) ?_
  refine lv_icmp_eq (tgt := 12) E.1 E.2.1 dX3_carryOut_6 (by decide) (fun c6 => ?_) (fun c6 => ?_)
  · exact absurd c6 (nI_no6 (by omega))
  · skip
    refine lv_bipush (v := -3) E.1 E.2.1 dX3_carryOut_9 (by decide) ?_
    exact rI E hr hlk (HB.eq hw (rfl)) (rfl) dX3_carryOut_11
set_option maxHeartbeats 4000000 in
set_option maxRecDepth 100000 in
theorem c_X3_carryOut_ok (l : Launch) (G : GP) (b : Nat → Nat) (ad : Nat → Nat → Nat) (v pd : Nat → Int32) (Ns : Nat → NS) (s : AS) (hs : rB s) (C : Nat → Nat) (pl : Nat) (hl0 : v 3 = nI pl) (hpl : pl ≤ 60) (hpd : ∀ j, j < pl → pd j = nI (C j)) (hC : ∀ j, j < pl → C j < 127) (kf : Nat) (hkf : endR C pl s kf) (nx u : Nat) (hx0 : v 0 = nI nx) (hnx : nx < 7) (hu0 : v 1 = nI u) (hu6 : u ≤ 6) (h : kf = pl ∧ mE (rg C s kf)) (OR : Nat → OQ) (hOR : ∀ i, i ≤ pl → (i = pl ∨ C i = 59) → oFit (OR (cE C i)) (rg C (rg C s kf) i)) (hI : Inv (Ns 0)) (ks : Nat) (hks : endO OR (Ns 0) (cE C pl + 1) ks) (iz : Nat) (hiz : stO C pl ks iz) : MI l yX3_carryOut (.code yX3_carryOut cX3_carryOut 2 (some .int) :: GW) ({ frames := 8, cells := 0, slots := 0, locals := 190 }) [.ref (b 0)] G ES (cW G b ad (v) (pd) (rvO (s)) (Ns)) (cW G b ad (recV nx u (upd (v) 3 (nI 0))) (pd) (rvO (rg C (rg C s kf) iz)) (va_up (va_up (Ns) (2 + nx) (Ns 0)) 0 (finO OR (Ns 0) (cE C pl + 1) ks))) (nI ks) := by
  refine MI.of (own := RX3) rfl rfl (Nat.le_of_ble_eq_true rfl) ?_
  intro pP eE sS mM below meth cC ls AA E hw hl hr hlk hE
  replace hl : lv_has ls 2 [(0, .ref (b 0))] := hl
  have hkl := hkf.1
  have hsk := rg_b hC hs kf hkl
  have hN0 : va_up Ns (2 + nx) (Ns 0) 0 = Ns 0 := va_up_ne _ _ (by omega)
  have hcl := cE_le (C := C) pl
  have hk1 := hks.1
  refine lv_aload_n E.1 E.2.1 dX3_carryOut_0 rfl (lv_at hl 0 rfl) ?_
  refine callVI E (c_X3_faultOfPad l G b ad (v) (pd) (Ns) s hs C pl hl0 hpl hpd hC kf hkf) mw_26_20 YX3_faultOfPad ⟨rfl, rfl⟩ ⟨Nat.le_of_ble_eq_true rfl, Nat.le_of_ble_eq_true rfl⟩ ⟨Nat.zero_le _, Nat.zero_le _⟩ hw 0 rfl rfl rfl hl rfl (Nat.le_of_ble_eq_true rfl) dX3_carryOut_1 (fun H locs hw => ?_)
  refine lv_eqi (y := -6) (if_pos h) ?_
  refine lv_bipush (v := -6) E.1 E.2.1 dX3_carryOut_4 (by decide) ?_
  refine lv_icmp_eq (tgt := 12) E.1 E.2.1 dX3_carryOut_6 (by decide) (fun c6 => ?_) (fun c6 => ?_)
  · skip
    refine lv_aload_n E.1 E.2.1 dX3_carryOut_12 rfl (lv_at hl 0 rfl) ?_
    refine callVV E (c_X3_noteStateBefore l G b ad (v) (pd) (rvO (rg C s kf)) (Ns) nx u hx0 hnx hu0 hu6) mw_3_20 YX3_noteStateBefore ⟨rfl, rfl⟩ ⟨Nat.le_of_ble_eq_true rfl, Nat.le_of_ble_eq_true rfl⟩ ⟨Nat.zero_le _, Nat.zero_le _⟩ hw 0 rfl rfl rfl hl rfl (Nat.le_of_ble_eq_true rfl) dX3_carryOut_13 (fun H locs hw => ?_)
    refine lv_aload_n E.1 E.2.1 dX3_carryOut_16 rfl (lv_at hl 0 rfl) ?_
    refine callVI E (c_X3_carryOutOrders l G b ad (v) (pd) (va_up (Ns) (2 + nx) (Ns 0)) (rg C s kf) hsk C pl hl0 hpl hpd hC OR hOR (by rw [hN0]; exact hI) ks (by rw [hN0]; exact hks) iz hiz) mw_30_8 YX3_carryOutOrders ⟨rfl, rfl⟩ ⟨Nat.le_of_ble_eq_true rfl, Nat.le_of_ble_eq_true rfl⟩ ⟨Nat.zero_le _, Nat.zero_le _⟩ hw 0 rfl rfl rfl hl rfl (Nat.le_of_ble_eq_true rfl) dX3_carryOut_17 (fun H locs hw => ?_)
    refine lv_istore_n (lv' := [(1, .int (nI (ks))), (0, .ref (b 0))]) E.1 E.2.1 dX3_carryOut_20 rfl hl (by decide) rfl (fun ls hl => ?_)
    refine lv_aload_n E.1 E.2.1 dX3_carryOut_21 rfl (lv_at hl 1 rfl) ?_
    refine lv_iconst (v := nI 0) E.1 E.2.1 dX3_carryOut_22 (by decide) ?_
    refine pX3_8 E hw mw_21_2 dX3_carryOut_23 (fun H locs hw => ?_)
    refine lv_aload_n E.1 E.2.1 dX3_carryOut_26 rfl (lv_at hl 1 rfl) ?_
    refine lv_iload_n E.1 E.2.1 dX3_carryOut_27 rfl (lv_at hl 0 rfl) ?_
    refine callVI E (c_X3_recorded l G b ad (upd (v) 3 (nI (0))) (pd) (rvO (rg C (rg C s kf) iz)) (va_up (va_up (Ns) (2 + nx) (Ns 0)) 0 (finO OR ((va_up (Ns) (2 + nx) (Ns 0)) 0) (cE C pl + 1) ks)) nx u hx0 hnx hu0 hu6 (nI (ks)) ((nI_pos (by omega)))) mw_5_0 YX3_recorded ⟨rfl, rfl⟩ ⟨Nat.le_of_ble_eq_true rfl, Nat.le_of_ble_eq_true rfl⟩ ⟨Nat.zero_le _, Nat.zero_le _⟩ hw 0 rfl rfl rfl hl rfl (Nat.le_of_ble_eq_true rfl) dX3_carryOut_28 (fun H locs hw => ?_)
    exact rI E hr hlk (HB.eq hw (by rw [hN0])) (rfl) dX3_carryOut_31
  · exact absurd c6 (by decide)

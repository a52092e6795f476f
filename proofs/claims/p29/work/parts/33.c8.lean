theorem lt2_le1 {w : Int32} (h : w < nI 2) : w ≤ nI 1 := by
  rw [Int32.lt_iff_toInt_lt] at h
  rw [Int32.le_iff_toInt_le]
  have h4 : (nI 2).toInt = 2 := by decide
  have h3 : (nI 1).toInt = 1 := by decide
  omega
theorem va_uu {α : Type} (f : Nat → α) (k : Nat) (v w : α) : va_up (va_up f k v) k w = va_up f k w := by
  funext j
  unfold va_up
  by_cases h : j = k
  · rw [if_pos h, if_pos h]
  · rw [if_neg h, if_neg h, if_neg h]
theorem YX3_ofDeal : YV yX3_ofDeal RX3 cX3_ofDeal 3 (some .int) 2 := ⟨mw_17_23, mw_18_0, mw_1_2, mw_18_1, by decide +kernel⟩
set_option maxHeartbeats 4000000 in
set_option maxRecDepth 100000 in
theorem c_X3_ofDeal_bad1 (l : Launch) (G : GP) (b : Nat → Nat) (ad : Nat → Nat → Nat) (v pd rv : Nat → Int32) (Ns : Nat → NS) (e : Int32) (h : ¬ (0 ≤ e ∧ e < nI (Ns 0 5))) (w : Int32) : MI l yX3_ofDeal (.code yX3_ofDeal cX3_ofDeal 3 (some .int) :: GW) ({ frames := 2, cells := 0, slots := 0, locals := 44 }) [.ref (b 0), .int (e), .int (w)] G ES (cW G b ad (v) (pd) (rv) (Ns)) (cW G b ad (v) (pd) (rv) (Ns)) (-1) := by
  refine MI.of (own := RX3) rfl rfl (Nat.le_of_ble_eq_true rfl) ?_
  intro pP eE sS mM below meth cC ls AA E hw hl hr hlk hE
  replace hl : lv_has ls 3 [(0, .ref (b 0)), (1, .int (e)), (2, .int (w))] := hl
  refine lv_aload_n E.1 E.2.1 dX3_ofDeal_0 rfl (lv_at hl 0 rfl) ?_
  refine gX3_0 E hw mw_1_16 dX3_ofDeal_1 ?_
  refine lv_iload_n E.1 E.2.1 dX3_ofDeal_4 rfl (lv_at hl 1 rfl) ?_
  refine lv_iload_n E.1 E.2.1 dX3_ofDeal_5 rfl (lv_at hl 2 rfl) ?_
  refine callVIp E (c_X2_numberOfDeal_bad1 l G (ad 0) (Ns 0) e h w) ES.eb (fun _ _ _ => trivial) mw_18_2 YX2_numberOfDeal ⟨rfl, rfl⟩ ⟨Nat.le_of_ble_eq_true rfl, Nat.le_of_ble_eq_true rfl⟩ ⟨Nat.zero_le _, Nat.zero_le _⟩ hw (cW_p0 (rfl) (by omega)) (cW_p0 (rfl) (by omega)) 0 rfl rfl rfl hl rfl (Nat.le_of_ble_eq_true rfl) dX3_ofDeal_6 (fun H locs hw => ?_)
  exact rI E hr hlk (HB.eq hw (rfl)) (rfl) dX3_ofDeal_9
set_option maxHeartbeats 4000000 in
set_option maxRecDepth 100000 in
theorem c_X3_ofDeal_bad2 (l : Launch) (G : GP) (b : Nat → Nat) (ad : Nat → Nat → Nat) (v pd rv : Nat → Int32) (Ns : Nat → NS) (d : Nat) (hd : d < Ns 0 5) (hF : FI (Ns 0)) (w : Int32) (h : ¬ (nI 0 ≤ w ∧ w ≤ nI 8)) : MI l yX3_ofDeal (.code yX3_ofDeal cX3_ofDeal 3 (some .int) :: GW) ({ frames := 2, cells := 0, slots := 0, locals := 44 }) [.ref (b 0), .int (nI (d)), .int (w)] G ES (cW G b ad (v) (pd) (rv) (Ns)) (cW G b ad (v) (pd) (rv) (Ns)) (-2) := by
  refine MI.of (own := RX3) rfl rfl (Nat.le_of_ble_eq_true rfl) ?_
  intro pP eE sS mM below meth cC ls AA E hw hl hr hlk hE
  replace hl : lv_has ls 3 [(0, .ref (b 0)), (1, .int (nI (d))), (2, .int (w))] := hl
  refine lv_aload_n E.1 E.2.1 dX3_ofDeal_0 rfl (lv_at hl 0 rfl) ?_
  refine gX3_0 E hw mw_1_16 dX3_ofDeal_1 ?_
  refine lv_iload_n E.1 E.2.1 dX3_ofDeal_4 rfl (lv_at hl 1 rfl) ?_
  refine lv_iload_n E.1 E.2.1 dX3_ofDeal_5 rfl (lv_at hl 2 rfl) ?_
  refine callVIp E (c_X2_numberOfDeal_bad2 l G (ad 0) (Ns 0) d hd hF w h) ES.eb (fun _ _ _ => trivial) mw_18_2 YX2_numberOfDeal ⟨rfl, rfl⟩ ⟨Nat.le_of_ble_eq_true rfl, Nat.le_of_ble_eq_true rfl⟩ ⟨Nat.zero_le _, Nat.zero_le _⟩ hw (cW_p0 (rfl) (by omega)) (cW_p0 (rfl) (by omega)) 0 rfl rfl rfl hl rfl (Nat.le_of_ble_eq_true rfl) dX3_ofDeal_6 (fun H locs hw => ?_)
  exact rI E hr hlk (HB.eq hw (rfl)) (rfl) dX3_ofDeal_9
set_option maxHeartbeats 4000000 in
set_option maxRecDepth 100000 in
theorem c_X3_ofDeal_ok (l : Launch) (G : GP) (b : Nat → Nat) (ad : Nat → Nat → Nat) (v pd rv : Nat → Int32) (Ns : Nat → NS) (d : Nat) (hd : d < Ns 0 5) (hF : FI (Ns 0)) (k : Nat) (hk : k ≤ 8) : MI l yX3_ofDeal (.code yX3_ofDeal cX3_ofDeal 3 (some .int) :: GW) ({ frames := 2, cells := 0, slots := 0, locals := 44 }) [.ref (b 0), .int (nI (d)), .int (nI (k))] G ES (cW G b ad (v) (pd) (rv) (Ns)) (cW G b ad (v) (pd) (rv) (Ns)) (nI (ofd d k (Ns 0))) := by
  refine MI.of (own := RX3) rfl rfl (Nat.le_of_ble_eq_true rfl) ?_
  intro pP eE sS mM below meth cC ls AA E hw hl hr hlk hE
  replace hl : lv_has ls 3 [(0, .ref (b 0)), (1, .int (nI (d))), (2, .int (nI (k)))] := hl
  refine lv_aload_n E.1 E.2.1 dX3_ofDeal_0 rfl (lv_at hl 0 rfl) ?_
  refine gX3_0 E hw mw_1_16 dX3_ofDeal_1 ?_
  refine lv_iload_n E.1 E.2.1 dX3_ofDeal_4 rfl (lv_at hl 1 rfl) ?_
  refine lv_iload_n E.1 E.2.1 dX3_ofDeal_5 rfl (lv_at hl 2 rfl) ?_
  refine callVIp E (c_X2_numberOfDeal_ok l G (ad 0) (Ns 0) d hd hF k hk) ES.eb (fun _ _ _ => trivial) mw_18_2 YX2_numberOfDeal ⟨rfl, rfl⟩ ⟨Nat.le_of_ble_eq_true rfl, Nat.le_of_ble_eq_true rfl⟩ ⟨Nat.zero_le _, Nat.zero_le _⟩ hw (cW_p0 (rfl) (by omega)) (cW_p0 (rfl) (by omega)) 0 rfl rfl rfl hl rfl (Nat.le_of_ble_eq_true rfl) dX3_ofDeal_6 (fun H locs hw => ?_)
  exact rI E hr hlk (HB.eq hw (rfl)) (rfl) dX3_ofDeal_9
theorem YX3_at : YV yX3_at RX3 cX3_at 3 (some .int) 2 := ⟨mw_18_23, mw_19_0, mw_1_2, mw_19_1, by decide +kernel⟩
set_option maxHeartbeats 4000000 in
set_option maxRecDepth 100000 in
theorem c_X3_at_bad (l : Launch) (G : GP) (b : Nat → Nat) (ad : Nat → Nat → Nat) (v pd rv : Nat → Int32) (Ns : Nat → NS) (e w : Int32) (h : ¬ ((0 ≤ e ∧ e < nI (Ns 0 5)) ∧ (nI 0 ≤ w ∧ w ≤ nI 3))) : MI l yX3_at (.code yX3_at cX3_at 3 (some .int) :: GW) ({ frames := 3, cells := 0, slots := 0, locals := 68 }) [.ref (b 0), .int (e), .int (w)] G ES (cW G b ad (v) (pd) (rv) (Ns)) (cW G b ad (v) (pd) (rv) (Ns)) (-1) := by
  refine MI.of (own := RX3) rfl rfl (Nat.le_of_ble_eq_true rfl) ?_
  intro pP eE sS mM below meth cC ls AA E hw hl hr hlk hE
  replace hl : lv_has ls 3 [(0, .ref (b 0)), (1, .int (e)), (2, .int (w))] := hl
  refine lv_aload_n E.1 E.2.1 dX3_at_0 rfl (lv_at hl 0 rfl) ?_
  refine gX3_0 E hw mw_1_16 dX3_at_1 ?_
  refine lv_iload_n E.1 E.2.1 dX3_at_4 rfl (lv_at hl 1 rfl) ?_
  refine lv_iload_n E.1 E.2.1 dX3_at_5 rfl (lv_at hl 2 rfl) ?_
  refine callVIp E (c_X2_standingFor_bad l G (ad 0) (Ns 0) e w h) ES.eb (fun _ _ _ => trivial) mw_19_2 YX2_standingFor ⟨rfl, rfl⟩ ⟨Nat.le_of_ble_eq_true rfl, Nat.le_of_ble_eq_true rfl⟩ ⟨Nat.zero_le _, Nat.zero_le _⟩ hw (cW_p0 (rfl) (by omega)) (cW_p0 (rfl) (by omega)) 0 rfl rfl rfl hl rfl (Nat.le_of_ble_eq_true rfl) dX3_at_6 (fun H locs hw => ?_)
  exact rI E hr hlk (HB.eq hw (rfl)) (rfl) dX3_at_9
set_option maxHeartbeats 4000000 in
set_option maxRecDepth 100000 in
theorem c_X3_at_ok (l : Launch) (G : GP) (b : Nat → Nat) (ad : Nat → Nat → Nat) (v pd rv : Nat → Int32) (Ns : Nat → NS) (d : Nat) (hd : d < Ns 0 5) (hF : FI (Ns 0)) (c : Nat) (hc : c < 4) : MI l yX3_at (.code yX3_at cX3_at 3 (some .int) :: GW) ({ frames := 3, cells := 0, slots := 0, locals := 68 }) [.ref (b 0), .int (nI (d)), .int (nI (c))] G ES (cW G b ad (v) (pd) (rv) (Ns)) (cW G b ad (v) (pd) (rv) (Ns)) ((if (Ns 0 (30 + 14 * d + 0)).testBit c = true then nI (Ns 0 (30 + 14 * d + (6 + c))) else -6)) := by
  refine MI.of (own := RX3) rfl rfl (Nat.le_of_ble_eq_true rfl) ?_
  intro pP eE sS mM below meth cC ls AA E hw hl hr hlk hE
  replace hl : lv_has ls 3 [(0, .ref (b 0)), (1, .int (nI (d))), (2, .int (nI (c)))] := hl
  refine lv_aload_n E.1 E.2.1 dX3_at_0 rfl (lv_at hl 0 rfl) ?_
  refine gX3_0 E hw mw_1_16 dX3_at_1 ?_
  refine lv_iload_n E.1 E.2.1 dX3_at_4 rfl (lv_at hl 1 rfl) ?_
  refine lv_iload_n E.1 E.2.1 dX3_at_5 rfl (lv_at hl 2 rfl) ?_
  refine callVIp E (c_X2_standingFor_ok l G (ad 0) (Ns 0) d hd hF c hc) ES.eb (fun _ _ _ => trivial) mw_19_2 YX2_standingFor ⟨rfl, rfl⟩ ⟨Nat.le_of_ble_eq_true rfl, Nat.le_of_ble_eq_true rfl⟩ ⟨Nat.zero_le _, Nat.zero_le _⟩ hw (cW_p0 (rfl) (by omega)) (cW_p0 (rfl) (by omega)) 0 rfl rfl rfl hl rfl (Nat.le_of_ble_eq_true rfl) dX3_at_6 (fun H locs hw => ?_)
  exact rI E hr hlk (HB.eq hw (rfl)) (rfl) dX3_at_9
theorem YX3_message : YV yX3_message RX3 cX3_message 3 (some .int) 2 := ⟨mw_19_11, mw_19_12, mw_1_2, mw_19_13, by decide +kernel⟩
set_option maxHeartbeats 4000000 in
set_option maxRecDepth 100000 in
theorem c_X3_message_bad1 (l : Launch) (G : GP) (b : Nat → Nat) (ad : Nat → Nat → Nat) (v pd rv : Nat → Int32) (Ns : Nat → NS) (p : Int32) (h : ¬ (0 ≤ p ∧ p < nI (Ns 0 6))) (w : Int32) : MI l yX3_message (.code yX3_message cX3_message 3 (some .int) :: GW) ({ frames := 2, cells := 0, slots := 0, locals := 44 }) [.ref (b 0), .int (p), .int (w)] G ES (cW G b ad (v) (pd) (rv) (Ns)) (cW G b ad (v) (pd) (rv) (Ns)) (-1) := by
  refine MI.of (own := RX3) rfl rfl (Nat.le_of_ble_eq_true rfl) ?_
  intro pP eE sS mM below meth cC ls AA E hw hl hr hlk hE
  replace hl : lv_has ls 3 [(0, .ref (b 0)), (1, .int (p)), (2, .int (w))] := hl
  refine lv_aload_n E.1 E.2.1 dX3_message_0 rfl (lv_at hl 0 rfl) ?_
  refine gX3_0 E hw mw_1_16 dX3_message_1 ?_
  refine gS2_5 E hw (by omega) mw_19_14 dX3_message_4 ?_
  refine lv_iload_n E.1 E.2.1 dX3_message_7 rfl (lv_at hl 1 rfl) ?_
  refine lv_iload_n E.1 E.2.1 dX3_message_8 rfl (lv_at hl 2 rfl) ?_
  refine callVIp E (c_X1_numberOfMessage_bad1 l G (ad 0) (Ns 0) p w h) ES.eb (fun _ _ _ => trivial) mw_19_15 YX1_numberOfMessage ⟨rfl, rfl⟩ ⟨Nat.le_of_ble_eq_true rfl, Nat.le_of_ble_eq_true rfl⟩ ⟨Nat.zero_le _, Nat.zero_le _⟩ hw (cW_p0 (rfl) (by omega)) (cW_p0 (rfl) (by omega)) 2 rfl rfl rfl hl rfl (Nat.le_of_ble_eq_true rfl) dX3_message_9 (fun H locs hw => ?_)
  exact rI E hr hlk (HB.eq hw (rfl)) (rfl) dX3_message_12
set_option maxHeartbeats 4000000 in
set_option maxRecDepth 100000 in
theorem c_X3_message_bad2 (l : Launch) (G : GP) (b : Nat → Nat) (ad : Nat → Nat → Nat) (v pd rv : Nat → Int32) (Ns : Nat → NS) (p : Nat) (hp : p < Ns 0 6) (hF : FI (Ns 0)) (w : Int32) (h : ¬ (nI 0 ≤ w ∧ w ≤ nI 3)) : MI l yX3_message (.code yX3_message cX3_message 3 (some .int) :: GW) ({ frames := 2, cells := 0, slots := 0, locals := 44 }) [.ref (b 0), .int (nI (p)), .int (w)] G ES (cW G b ad (v) (pd) (rv) (Ns)) (cW G b ad (v) (pd) (rv) (Ns)) (-2) := by
  refine MI.of (own := RX3) rfl rfl (Nat.le_of_ble_eq_true rfl) ?_
  intro pP eE sS mM below meth cC ls AA E hw hl hr hlk hE
  replace hl : lv_has ls 3 [(0, .ref (b 0)), (1, .int (nI (p))), (2, .int (w))] := hl
  refine lv_aload_n E.1 E.2.1 dX3_message_0 rfl (lv_at hl 0 rfl) ?_
  refine gX3_0 E hw mw_1_16 dX3_message_1 ?_
  refine gS2_5 E hw (by omega) mw_19_14 dX3_message_4 ?_
  refine lv_iload_n E.1 E.2.1 dX3_message_7 rfl (lv_at hl 1 rfl) ?_
  refine lv_iload_n E.1 E.2.1 dX3_message_8 rfl (lv_at hl 2 rfl) ?_
  refine callVIp E (c_X1_numberOfMessage_bad2 l G (ad 0) (Ns 0) p w hp hF.1 h) ES.eb (fun _ _ _ => trivial) mw_19_15 YX1_numberOfMessage ⟨rfl, rfl⟩ ⟨Nat.le_of_ble_eq_true rfl, Nat.le_of_ble_eq_true rfl⟩ ⟨Nat.zero_le _, Nat.zero_le _⟩ hw (cW_p0 (rfl) (by omega)) (cW_p0 (rfl) (by omega)) 2 rfl rfl rfl hl rfl (Nat.le_of_ble_eq_true rfl) dX3_message_9 (fun H locs hw => ?_)
  exact rI E hr hlk (HB.eq hw (rfl)) (rfl) dX3_message_12
set_option maxHeartbeats 4000000 in
set_option maxRecDepth 100000 in
theorem c_X3_message_ok (l : Launch) (G : GP) (b : Nat → Nat) (ad : Nat → Nat → Nat) (v pd rv : Nat → Int32) (Ns : Nat → NS) (p : Nat) (hp : p < Ns 0 6) (hF : FI (Ns 0)) (k : Nat) (hk : k < 4) : MI l yX3_message (.code yX3_message cX3_message 3 (some .int) :: GW) ({ frames := 2, cells := 0, slots := 0, locals := 44 }) [.ref (b 0), .int (nI (p)), .int (nI (k))] G ES (cW G b ad (v) (pd) (rv) (Ns)) (cW G b ad (v) (pd) (rv) (Ns)) (nI (Ns 0 (150 + 4 * p + k))) := by
  refine MI.of (own := RX3) rfl rfl (Nat.le_of_ble_eq_true rfl) ?_
  intro pP eE sS mM below meth cC ls AA E hw hl hr hlk hE
  replace hl : lv_has ls 3 [(0, .ref (b 0)), (1, .int (nI (p))), (2, .int (nI (k)))] := hl
  refine lv_aload_n E.1 E.2.1 dX3_message_0 rfl (lv_at hl 0 rfl) ?_
  refine gX3_0 E hw mw_1_16 dX3_message_1 ?_
  refine gS2_5 E hw (by omega) mw_19_14 dX3_message_4 ?_
  refine lv_iload_n E.1 E.2.1 dX3_message_7 rfl (lv_at hl 1 rfl) ?_
  refine lv_iload_n E.1 E.2.1 dX3_message_8 rfl (lv_at hl 2 rfl) ?_
  refine callVIp E (c_X1_numberOfMessage_ok l G (ad 0) (Ns 0) p k hp hF.1 hk) ES.eb (fun _ _ _ => trivial) mw_19_15 YX1_numberOfMessage ⟨rfl, rfl⟩ ⟨Nat.le_of_ble_eq_true rfl, Nat.le_of_ble_eq_true rfl⟩ ⟨Nat.zero_le _, Nat.zero_le _⟩ hw (cW_p0 (rfl) (by omega)) (cW_p0 (rfl) (by omega)) 2 rfl rfl rfl hl rfl (Nat.le_of_ble_eq_true rfl) dX3_message_9 (fun H locs hw => ?_)
  exact rI E hr hlk (HB.eq hw (rfl)) (rfl) dX3_message_12
theorem YX3_who : YV yX3_who RX3 cX3_who 3 (some .int) 2 := ⟨mw_20_2, mw_20_3, mw_1_2, mw_20_4, by decide +kernel⟩
set_option maxHeartbeats 4000000 in
set_option maxRecDepth 100000 in
theorem c_X3_who_bad1 (l : Launch) (G : GP) (b : Nat → Nat) (ad : Nat → Nat → Nat) (v pd rv : Nat → Int32) (Ns : Nat → NS) (e : Int32) (h : ¬ (nI 0 ≤ e ∧ e ≤ nI 4)) (w : Int32) : MI l yX3_who (.code yX3_who cX3_who 3 (some .int) :: GW) ({ frames := 3, cells := 0, slots := 0, locals := 67 }) [.ref (b 0), .int (e), .int (w)] G ES (cW G b ad (v) (pd) (rv) (Ns)) (cW G b ad (v) (pd) (rv) (Ns)) (-1) := by
  refine MI.of (own := RX3) rfl rfl (Nat.le_of_ble_eq_true rfl) ?_
  intro pP eE sS mM below meth cC ls AA E hw hl hr hlk hE
  replace hl : lv_has ls 3 [(0, .ref (b 0)), (1, .int (e)), (2, .int (w))] := hl
  refine lv_aload_n E.1 E.2.1 dX3_who_0 rfl (lv_at hl 0 rfl) ?_
  refine gX3_0 E hw mw_1_16 dX3_who_1 ?_
  refine lv_iload_n E.1 E.2.1 dX3_who_4 rfl (lv_at hl 1 rfl) ?_
  refine lv_iload_n E.1 E.2.1 dX3_who_5 rfl (lv_at hl 2 rfl) ?_
  refine callVIp E (c_X2_numberOfSomebody_bad1 l G (ad 0) (Ns 0) e h w) ES.eb (fun _ _ _ => trivial) mw_20_5 YX2_numberOfSomebody ⟨rfl, rfl⟩ ⟨Nat.le_of_ble_eq_true rfl, Nat.le_of_ble_eq_true rfl⟩ ⟨Nat.zero_le _, Nat.zero_le _⟩ hw (cW_p0 (rfl) (by omega)) (cW_p0 (rfl) (by omega)) 0 rfl rfl rfl hl rfl (Nat.le_of_ble_eq_true rfl) dX3_who_6 (fun H locs hw => ?_)
  exact rI E hr hlk (HB.eq hw (rfl)) (rfl) dX3_who_9
set_option maxHeartbeats 4000000 in
set_option maxRecDepth 100000 in
theorem c_X3_who_bad2 (l : Launch) (G : GP) (b : Nat → Nat) (ad : Nat → Nat → Nat) (v pd rv : Nat → Int32) (Ns : Nat → NS) (w : Nat) (hw : w < 5) (e : Int32) (h : ¬ (nI 0 ≤ e ∧ e ≤ nI 4)) : MI l yX3_who (.code yX3_who cX3_who 3 (some .int) :: GW) ({ frames := 3, cells := 0, slots := 0, locals := 67 }) [.ref (b 0), .int (nI (w)), .int (e)] G ES (cW G b ad (v) (pd) (rv) (Ns)) (cW G b ad (v) (pd) (rv) (Ns)) (-2) := by
  have hw5 := hw
  refine MI.of (own := RX3) rfl rfl (Nat.le_of_ble_eq_true rfl) ?_
  intro pP eE sS mM below meth cC ls AA E hw hl hr hlk hE
  replace hl : lv_has ls 3 [(0, .ref (b 0)), (1, .int (nI (w))), (2, .int (e))] := hl
  refine lv_aload_n E.1 E.2.1 dX3_who_0 rfl (lv_at hl 0 rfl) ?_
  refine gX3_0 E hw mw_1_16 dX3_who_1 ?_
  refine lv_iload_n E.1 E.2.1 dX3_who_4 rfl (lv_at hl 1 rfl) ?_
  refine lv_iload_n E.1 E.2.1 dX3_who_5 rfl (lv_at hl 2 rfl) ?_
  refine callVIp E (c_X2_numberOfSomebody_bad2 l G (ad 0) (Ns 0) w hw5 e h) ES.eb (fun _ _ _ => trivial) mw_20_5 YX2_numberOfSomebody ⟨rfl, rfl⟩ ⟨Nat.le_of_ble_eq_true rfl, Nat.le_of_ble_eq_true rfl⟩ ⟨Nat.zero_le _, Nat.zero_le _⟩ hw (cW_p0 (rfl) (by omega)) (cW_p0 (rfl) (by omega)) 0 rfl rfl rfl hl rfl (Nat.le_of_ble_eq_true rfl) dX3_who_6 (fun H locs hw => ?_)
  exact rI E hr hlk (HB.eq hw (rfl)) (rfl) dX3_who_9
set_option maxHeartbeats 4000000 in
set_option maxRecDepth 100000 in
theorem c_X3_who_ok (l : Launch) (G : GP) (b : Nat → Nat) (ad : Nat → Nat → Nat) (v pd rv : Nat → Int32) (Ns : Nat → NS) (w k : Nat) (hw : w < 5) (hk : k < 5) (hF : FI (Ns 0)) (hm : ∀ p, p < Ns 0 6 → Ns 0 (150 + 4 * p + 3) < 2 ^ 31) : MI l yX3_who (.code yX3_who cX3_who 3 (some .int) :: GW) ({ frames := 3, cells := 0, slots := 0, locals := 67 }) [.ref (b 0), .int (nI (w)), .int (nI (k))] G ES (cW G b ad (v) (pd) (rv) (Ns)) (cW G b ad (v) (pd) (rv) (Ns)) (nI (whoF w k (Ns 0))) := by
  have hw5 := hw
  refine MI.of (own := RX3) rfl rfl (Nat.le_of_ble_eq_true rfl) ?_
  intro pP eE sS mM below meth cC ls AA E hw hl hr hlk hE
  replace hl : lv_has ls 3 [(0, .ref (b 0)), (1, .int (nI (w))), (2, .int (nI (k)))] := hl
  refine lv_aload_n E.1 E.2.1 dX3_who_0 rfl (lv_at hl 0 rfl) ?_
  refine gX3_0 E hw mw_1_16 dX3_who_1 ?_
  refine lv_iload_n E.1 E.2.1 dX3_who_4 rfl (lv_at hl 1 rfl) ?_
  refine lv_iload_n E.1 E.2.1 dX3_who_5 rfl (lv_at hl 2 rfl) ?_
  refine callVIp E (c_X2_numberOfSomebody_ok l G (ad 0) (Ns 0) w k hw5 hk hF hm) ES.eb (fun _ _ _ => trivial) mw_20_5 YX2_numberOfSomebody ⟨rfl, rfl⟩ ⟨Nat.le_of_ble_eq_true rfl, Nat.le_of_ble_eq_true rfl⟩ ⟨Nat.zero_le _, Nat.zero_le _⟩ hw (cW_p0 (rfl) (by omega)) (cW_p0 (rfl) (by omega)) 0 rfl rfl rfl hl rfl (Nat.le_of_ble_eq_true rfl) dX3_who_6 (fun H locs hw => ?_)
  exact rI E hr hlk (HB.eq hw (rfl)) (rfl) dX3_who_9
theorem YX3_count : YV yX3_count RX3 cX3_count 2 (some .int) 1 := ⟨mw_20_23, mw_21_0, mw_1_2, mw_21_1, by decide +kernel⟩
set_option maxHeartbeats 4000000 in
set_option maxRecDepth 100000 in
theorem c_X3_count_bad (l : Launch) (G : GP) (b : Nat → Nat) (ad : Nat → Nat → Nat) (v pd rv : Nat → Int32) (Ns : Nat → NS) (w : Int32) (h : ¬ (nI 0 ≤ w ∧ w ≤ nI 13)) : MI l yX3_count (.code yX3_count cX3_count 2 (some .int) :: GW) ({ frames := 3, cells := 0, slots := 0, locals := 67 }) [.ref (b 0), .int (w)] G ES (cW G b ad (v) (pd) (rv) (Ns)) (cW G b ad (v) (pd) (rv) (Ns)) (-2) := by
  refine MI.of (own := RX3) rfl rfl (Nat.le_of_ble_eq_true rfl) ?_
  intro pP eE sS mM below meth cC ls AA E hw hl hr hlk hE
  replace hl : lv_has ls 2 [(0, .ref (b 0)), (1, .int (w))] := hl
  refine lv_iload_n E.1 E.2.1 dX3_count_0 rfl (lv_at hl 1 rfl) ?_
  by_cases z1_5 : w = nI 5
  · refine lv_eqi (y := nI 5) z1_5 ?_
    refine lv_lookup (off := 27) (tgt := 28) E.1 E.2.1 dX3_count_1 (by decide) (by decide) (by decide) ?_
    exact absurd (by rw [z1_5]; decide) h
  by_cases z1_6 : w = nI 6
  · refine lv_eqi (y := nI 6) z1_6 ?_
    refine lv_lookup (off := 32) (tgt := 33) E.1 E.2.1 dX3_count_1 (by decide) (by decide) (by decide) ?_
    exact absurd (by rw [z1_6]; decide) h
  refine lv_lookup (off := 37) (tgt := 38) E.1 E.2.1 dX3_count_1 (by decide) (by show Op.lookupswitch.offset _ _ _ = _; simp only []; rw [lv_osw (k := nI 5) z1_5 (by decide)]; rw [lv_osw (k := nI 6) z1_6 (by decide)]; rfl) (by decide) ?_
  refine lv_aload_n E.1 E.2.1 dX3_count_38 rfl (lv_at hl 0 rfl) ?_
  refine gX3_0 E hw mw_1_16 dX3_count_39 ?_
  refine lv_iload_n E.1 E.2.1 dX3_count_42 rfl (lv_at hl 1 rfl) ?_
  refine callVIp E (c_X2_numberOfAll_bad l G (ad 0) (Ns 0) w h) ES.eb (fun _ _ _ => trivial) mw_21_3 YX2_numberOfAll ⟨rfl, rfl⟩ ⟨Nat.le_of_ble_eq_true rfl, Nat.le_of_ble_eq_true rfl⟩ ⟨Nat.zero_le _, Nat.zero_le _⟩ hw (cW_p0 (rfl) (by omega)) (cW_p0 (rfl) (by omega)) 0 rfl rfl rfl hl rfl (Nat.le_of_ble_eq_true rfl) dX3_count_43 (fun H locs hw => ?_)
  exact rI E hr hlk (HB.eq hw (rfl)) (rfl) dX3_count_46
set_option maxHeartbeats 4000000 in
set_option maxRecDepth 100000 in
theorem c_X3_count_ok (l : Launch) (G : GP) (b : Nat → Nat) (ad : Nat → Nat → Nat) (v pd rv : Nat → Int32) (Ns : Nat → NS) (k : Nat) (hk : k < 14) (h5 : ¬ k = 5) (h6 : ¬ k = 6) (hF : FI (Ns 0)) (hDV : dvI (Ns 0) 5 = Ns 0 7) : MI l yX3_count (.code yX3_count cX3_count 2 (some .int) :: GW) ({ frames := 3, cells := 0, slots := 0, locals := 67 }) [.ref (b 0), .int (nI (k))] G ES (cW G b ad (v) (pd) (rv) (Ns)) (cW G b ad (v) (pd) (rv) (Ns)) ((if k < 5 then nI (Ns 0 (4 + k)) else if k < 11 then nI (Ns 0 (k - 7)) else nI (dwI (k - 11) (Ns 0) (Ns 0 5)))) := by
  refine MI.of (own := RX3) rfl rfl (Nat.le_of_ble_eq_true rfl) ?_
  intro pP eE sS mM below meth cC ls AA E hw hl hr hlk hE
  replace hl : lv_has ls 2 [(0, .ref (b 0)), (1, .int (nI (k)))] := hl
  refine lv_iload_n E.1 E.2.1 dX3_count_0 rfl (lv_at hl 1 rfl) ?_
  by_cases z1_5 : k = 5
  · refine lv_eqi (y := nI 5) (by rw [z1_5]) ?_
    refine lv_lookup (off := 27) (tgt := 28) E.1 E.2.1 dX3_count_1 (by decide) (by decide) (by decide) ?_
    exact absurd z1_5 h5
  by_cases z1_6 : k = 6
  · refine lv_eqi (y := nI 6) (by rw [z1_6]) ?_
    refine lv_lookup (off := 32) (tgt := 33) E.1 E.2.1 dX3_count_1 (by decide) (by decide) (by decide) ?_
    exact absurd z1_6 h6
  refine lv_lookup (off := 37) (tgt := 38) E.1 E.2.1 dX3_count_1 (by decide) (by show Op.lookupswitch.offset _ _ _ = _; simp only []; rw [lv_osw (k := nI 5) (fun z => z1_5 ((nI_eq (by omega) (by decide)).mp z)) (by decide)]; rw [lv_osw (k := nI 6) (fun z => z1_6 ((nI_eq (by omega) (by decide)).mp z)) (by decide)]; rfl) (by decide) ?_
  refine lv_aload_n E.1 E.2.1 dX3_count_38 rfl (lv_at hl 0 rfl) ?_
  refine gX3_0 E hw mw_1_16 dX3_count_39 ?_
  refine lv_iload_n E.1 E.2.1 dX3_count_42 rfl (lv_at hl 1 rfl) ?_
  refine callVIp E (c_X2_numberOfAll_ok l G (ad 0) (Ns 0) k hk h5 h6 hF hDV) ES.eb (fun _ _ _ => trivial) mw_21_3 YX2_numberOfAll ⟨rfl, rfl⟩ ⟨Nat.le_of_ble_eq_true rfl, Nat.le_of_ble_eq_true rfl⟩ ⟨Nat.zero_le _, Nat.zero_le _⟩ hw (cW_p0 (rfl) (by omega)) (cW_p0 (rfl) (by omega)) 0 rfl rfl rfl hl rfl (Nat.le_of_ble_eq_true rfl) dX3_count_43 (fun H locs hw => ?_)
  exact rI E hr hlk (HB.eq hw (rfl)) (rfl) dX3_count_46
set_option maxHeartbeats 4000000 in
set_option maxRecDepth 100000 in
theorem c_X3_count_5 (l : Launch) (G : GP) (b : Nat → Nat) (ad : Nat → Nat → Nat) (v pd rv : Nat → Int32) (Ns : Nat → NS)  : MI l yX3_count (.code yX3_count cX3_count 2 (some .int) :: GW) ({ frames := 0, cells := 0, slots := 0, locals := 0 }) [.ref (b 0), .int (nI (5))] G ES (cW G b ad (v) (pd) (rv) (Ns)) (cW G b ad (v) (pd) (rv) (Ns)) (v 3) := by
  refine MI.of (own := RX3) rfl rfl (Nat.le_of_ble_eq_true rfl) ?_
  intro pP eE sS mM below meth cC ls AA E hw hl hr hlk hE
  replace hl : lv_has ls 2 [(0, .ref (b 0)), (1, .int (nI (5)))] := hl
  refine lv_iload_n E.1 E.2.1 dX3_count_0 rfl (lv_at hl 1 rfl) ?_
  refine lv_lookup (off := 27) (tgt := 28) E.1 E.2.1 dX3_count_1 (by decide) (by decide) (by decide) ?_
  refine lv_aload_n E.1 E.2.1 dX3_count_28 rfl (lv_at hl 0 rfl) ?_
  refine gX3_8 E hw mw_21_2 dX3_count_29 ?_
  refine lv_eqi (y := v 3) (rfl) ?_
  exact rI E hr hlk (HB.eq hw (rfl)) (rfl) dX3_count_32
set_option maxHeartbeats 4000000 in
set_option maxRecDepth 100000 in
theorem c_X3_count_6 (l : Launch) (G : GP) (b : Nat → Nat) (ad : Nat → Nat → Nat) (v pd rv : Nat → Int32) (Ns : Nat → NS)  : MI l yX3_count (.code yX3_count cX3_count 2 (some .int) :: GW) ({ frames := 0, cells := 0, slots := 0, locals := 0 }) [.ref (b 0), .int (nI (6))] G ES (cW G b ad (v) (pd) (rv) (Ns)) (cW G b ad (v) (pd) (rv) (Ns)) (v 1) := by
  refine MI.of (own := RX3) rfl rfl (Nat.le_of_ble_eq_true rfl) ?_
  intro pP eE sS mM below meth cC ls AA E hw hl hr hlk hE
  replace hl : lv_has ls 2 [(0, .ref (b 0)), (1, .int (nI (6)))] := hl
  refine lv_iload_n E.1 E.2.1 dX3_count_0 rfl (lv_at hl 1 rfl) ?_
  refine lv_lookup (off := 32) (tgt := 33) E.1 E.2.1 dX3_count_1 (by decide) (by decide) (by decide) ?_
  refine lv_aload_n E.1 E.2.1 dX3_count_33 rfl (lv_at hl 0 rfl) ?_
  refine gX3_4 E hw mw_5_4 dX3_count_34 ?_
  refine lv_eqi (y := v 1) (rfl) ?_
  exact rI E hr hlk (HB.eq hw (rfl)) (rfl) dX3_count_37
theorem YX3_sure : YV yX3_sure RX3 cX3_sure 2 (some .int) 1 := ⟨mw_22_1, mw_22_2, mw_1_2, mw_22_3, by decide +kernel⟩
set_option maxHeartbeats 4000000 in
set_option maxRecDepth 100000 in
theorem c_X3_sure_bad1 (l : Launch) (G : GP) (b : Nat → Nat) (ad : Nat → Nat → Nat) (v pd rv : Nat → Int32) (Ns : Nat → NS) (e : Int32) (h : ¬ (0 ≤ e ∧ e < nI (Ns 0 5))) : MI l yX3_sure (.code yX3_sure cX3_sure 2 (some .int) :: GW) ({ frames := 2, cells := 0, slots := 0, locals := 43 }) [.ref (b 0), .int (e)] G ES (cW G b ad (v) (pd) (rv) (Ns)) (cW G b ad (v) (pd) (rv) (Ns)) (-1) := by
  refine MI.of (own := RX3) rfl rfl (Nat.le_of_ble_eq_true rfl) ?_
  intro pP eE sS mM below meth cC ls AA E hw hl hr hlk hE
  replace hl : lv_has ls 2 [(0, .ref (b 0)), (1, .int (e))] := hl
  refine lv_aload_n E.1 E.2.1 dX3_sure_0 rfl (lv_at hl 0 rfl) ?_
  refine gX3_0 E hw mw_1_16 dX3_sure_1 ?_
  refine lv_iload_n E.1 E.2.1 dX3_sure_4 rfl (lv_at hl 1 rfl) ?_
  refine callVIp E (c_X2_whatIsSure_bad1 l G (ad 0) (Ns 0) e h) ES.eb (fun _ _ _ => trivial) mw_22_4 YX2_whatIsSure ⟨rfl, rfl⟩ ⟨Nat.le_of_ble_eq_true rfl, Nat.le_of_ble_eq_true rfl⟩ ⟨Nat.zero_le _, Nat.zero_le _⟩ hw (cW_p0 (rfl) (by omega)) (cW_p0 (rfl) (by omega)) 0 rfl rfl rfl hl rfl (Nat.le_of_ble_eq_true rfl) dX3_sure_5 (fun H locs hw => ?_)
  exact rI E hr hlk (HB.eq hw (rfl)) (rfl) dX3_sure_8
set_option maxHeartbeats 4000000 in
set_option maxRecDepth 100000 in
theorem c_X3_sure_ok (l : Launch) (G : GP) (b : Nat → Nat) (ad : Nat → Nat → Nat) (v pd rv : Nat → Int32) (Ns : Nat → NS) (d : Nat) (hd : d < Ns 0 5) (hF : FI (Ns 0)) : MI l yX3_sure (.code yX3_sure cX3_sure 2 (some .int) :: GW) ({ frames := 2, cells := 0, slots := 0, locals := 43 }) [.ref (b 0), .int (nI (d))] G ES (cW G b ad (v) (pd) (rv) (Ns)) (cW G b ad (v) (pd) (rv) (Ns)) (nI (suR d (Ns 0))) := by
  refine MI.of (own := RX3) rfl rfl (Nat.le_of_ble_eq_true rfl) ?_
  intro pP eE sS mM below meth cC ls AA E hw hl hr hlk hE
  replace hl : lv_has ls 2 [(0, .ref (b 0)), (1, .int (nI (d)))] := hl
  refine lv_aload_n E.1 E.2.1 dX3_sure_0 rfl (lv_at hl 0 rfl) ?_
  refine gX3_0 E hw mw_1_16 dX3_sure_1 ?_
  refine lv_iload_n E.1 E.2.1 dX3_sure_4 rfl (lv_at hl 1 rfl) ?_
  refine callVIp E (c_X2_whatIsSure_ok l G (ad 0) (Ns 0) d hd hF) ES.eb (fun _ _ _ => trivial) mw_22_4 YX2_whatIsSure ⟨rfl, rfl⟩ ⟨Nat.le_of_ble_eq_true rfl, Nat.le_of_ble_eq_true rfl⟩ ⟨Nat.zero_le _, Nat.zero_le _⟩ hw (cW_p0 (rfl) (by omega)) (cW_p0 (rfl) (by omega)) 0 rfl rfl rfl hl rfl (Nat.le_of_ble_eq_true rfl) dX3_sure_5 (fun H locs hw => ?_)
  exact rI E hr hlk (HB.eq hw (rfl)) (rfl) dX3_sure_8
theorem YX3_couldAsk : YV yX3_couldAsk RX3 cX3_couldAsk 2 (some .int) 1 := ⟨mw_22_13, mw_22_14, mw_1_2, mw_22_15, by decide +kernel⟩
set_option maxHeartbeats 4000000 in
set_option maxRecDepth 100000 in
theorem c_X3_couldAsk_bad1 (l : Launch) (G : GP) (b : Nat → Nat) (ad : Nat → Nat → Nat) (v pd rv : Nat → Int32) (Ns : Nat → NS) (e : Int32) (h : ¬ (0 ≤ e ∧ e < nI (Ns 0 5))) : MI l yX3_couldAsk (.code yX3_couldAsk cX3_couldAsk 2 (some .int) :: GW) ({ frames := 3, cells := 0, slots := 0, locals := 67 }) [.ref (b 0), .int (e)] G ES (cW G b ad (v) (pd) (rv) (Ns)) (cW G b ad (v) (pd) (rv) (Ns)) (-1) := by
  refine MI.of (own := RX3) rfl rfl (Nat.le_of_ble_eq_true rfl) ?_
  intro pP eE sS mM below meth cC ls AA E hw hl hr hlk hE
  replace hl : lv_has ls 2 [(0, .ref (b 0)), (1, .int (e))] := hl
  refine lv_aload_n E.1 E.2.1 dX3_couldAsk_0 rfl (lv_at hl 0 rfl) ?_
  refine gX3_0 E hw mw_1_16 dX3_couldAsk_1 ?_
  refine lv_iload_n E.1 E.2.1 dX3_couldAsk_4 rfl (lv_at hl 1 rfl) ?_
  refine callVIp E (c_X2_whoFindsOut_bad1 l G (ad 0) (Ns 0) e h) ES.eb (fun _ _ _ => trivial) mw_22_16 YX2_whoFindsOut ⟨rfl, rfl⟩ ⟨Nat.le_of_ble_eq_true rfl, Nat.le_of_ble_eq_true rfl⟩ ⟨Nat.zero_le _, Nat.zero_le _⟩ hw (cW_p0 (rfl) (by omega)) (cW_p0 (rfl) (by omega)) 0 rfl rfl rfl hl rfl (Nat.le_of_ble_eq_true rfl) dX3_couldAsk_5 (fun H locs hw => ?_)
  exact rI E hr hlk (HB.eq hw (rfl)) (rfl) dX3_couldAsk_8
set_option maxHeartbeats 4000000 in
set_option maxRecDepth 100000 in
theorem c_X3_couldAsk_ok (l : Launch) (G : GP) (b : Nat → Nat) (ad : Nat → Nat → Nat) (v pd rv : Nat → Int32) (Ns : Nat → NS) (d : Nat) (hd : d < Ns 0 5) (hF : FI (Ns 0)) : MI l yX3_couldAsk (.code yX3_couldAsk cX3_couldAsk 2 (some .int) :: GW) ({ frames := 3, cells := 0, slots := 0, locals := 67 }) [.ref (b 0), .int (nI (d))] G ES (cW G b ad (v) (pd) (rv) (Ns)) (cW G b ad (v) (pd) (rv) (Ns)) (nI (cqI d (Ns 0) 4)) := by
  refine MI.of (own := RX3) rfl rfl (Nat.le_of_ble_eq_true rfl) ?_
  intro pP eE sS mM below meth cC ls AA E hw hl hr hlk hE
  replace hl : lv_has ls 2 [(0, .ref (b 0)), (1, .int (nI (d)))] := hl
  refine lv_aload_n E.1 E.2.1 dX3_couldAsk_0 rfl (lv_at hl 0 rfl) ?_
  refine gX3_0 E hw mw_1_16 dX3_couldAsk_1 ?_
  refine lv_iload_n E.1 E.2.1 dX3_couldAsk_4 rfl (lv_at hl 1 rfl) ?_
  refine callVIp E (c_X2_whoFindsOut_ok l G (ad 0) (Ns 0) d hd hF) ES.eb (fun _ _ _ => trivial) mw_22_16 YX2_whoFindsOut ⟨rfl, rfl⟩ ⟨Nat.le_of_ble_eq_true rfl, Nat.le_of_ble_eq_true rfl⟩ ⟨Nat.zero_le _, Nat.zero_le _⟩ hw (cW_p0 (rfl) (by omega)) (cW_p0 (rfl) (by omega)) 0 rfl rfl rfl hl rfl (Nat.le_of_ble_eq_true rfl) dX3_couldAsk_5 (fun H locs hw => ?_)
  exact rI E hr hlk (HB.eq hw (rfl)) (rfl) dX3_couldAsk_8
theorem lt2_le1 {w : Int32} (h : w < nI 2) : w ≤ nI 1 := by
  rw [Int32.lt_iff_toInt_lt] at h
  rw [Int32.le_iff_toInt_le]
  have h4 : (nI 2).toInt = 2 := by decide
  have h3 : (nI 1).toInt = 1 := by decide
  omega
theorem va_uu {α : Type} (f : Nat → α) (k : Nat) (v w : α) : va_up (va_up f k v) k w = va_up f k w := by
  funext j
  unfold va_up
  by_cases h : j = k
  · rw [if_pos h, if_pos h]
  · rw [if_neg h, if_neg h, if_neg h]
theorem YX3_ofDeal : YV yX3_ofDeal RX3 cX3_ofDeal 3 (some .int) 2 := ⟨mw_17_23, mw_18_0, mw_1_2, mw_18_1, by decide +kernel⟩
set_option maxHeartbeats 4000000 in
set_option maxRecDepth 100000 in
theorem c_X3_ofDeal_bad1 (l : Launch) (G : GP) (b : Nat → Nat) (ad : Nat → Nat → Nat) (v pd rv : Nat → Int32) (Ns : Nat → NS) (e : Int32) (h : ¬ (0 ≤ e ∧ e < nI (Ns 0 5))) (w : Int32) : MI l yX3_ofDeal (.code yX3_ofDeal cX3_ofDeal 3 (some .int) :: GW) ({ frames := 2, cells := 0, slots := 0, locals := 44 }) [.ref (b 0), .int (e), .int (w)] G ES (cW G b ad (v) (pd) (rv) (Ns)) (cW G b ad (v) (pd) (rv) (Ns)) (-1) := by
  refine MI.of (own := RX3) rfl rfl (Nat.le_of_ble_eq_true rfl) ?_
  intro pP eE sS mM below meth cC ls AA E hw hl hr hlk hE
  replace hl : lv_has ls 3 [(0, .ref (b 0)), (1, .int (e)), (2, .int (w))] := hl
  refine lv_aload_n E.1 E.2.1 dX3_ofDeal_0 rfl (lv_at hl 0 rfl) ?_
  refine gX3_0 E hw mw_1_16 dX3_ofDeal_1 ?_
  refine lv_iload_n E.1 E.2.1 dX3_ofDeal_4 rfl (lv_at hl 1 rfl) ?_
  refine lv_iload_n E.1 E.2.1 dX3_ofDeal_5 rfl (lv_at hl 2 rfl) ?_
  refine callVIp E (c_X2_numberOfDeal_bad1 l G (ad 0) (Ns 0) e h w) ES.eb (fun _ _ _ => trivial) mw_18_2 YX2_numberOfDeal ⟨rfl, rfl⟩ ⟨Nat.le_of_ble_eq_true rfl, Nat.le_of_ble_eq_true rfl⟩ ⟨Nat.zero_le _, Nat.zero_le _⟩ hw (cW_p0 (rfl) (by omega)) (cW_p0 (rfl) (by omega)) 0 rfl rfl rfl hl rfl (Nat.le_of_ble_eq_true rfl) dX3_ofDeal_6 (fun H locs hw => ?_)
  exact rI E hr hlk (HB.eq hw (rfl)) (rfl) dX3_ofDeal_9
set_option maxHeartbeats 4000000 in
set_option maxRecDepth 100000 in
theorem c_X3_ofDeal_bad2 (l : Launch) (G : GP) (b : Nat → Nat) (ad : Nat → Nat → Nat) (v pd rv : Nat → Int32) (Ns : Nat → NS) (d : Nat) (hd : d < Ns 0 5) (hF : FI (Ns 0)) (w : Int32) (h : ¬ (nI 0 ≤ w ∧ w ≤ nI 8)) : MI l yX3_ofDeal (.code yX3_ofDeal cX3_ofDeal 3 (some .int) :: GW) ({ frames := 2, cells := 0, slots := 0, locals := 44 }) [.ref (b 0), .int (nI (d)), .int (w)] G ES (cW G b ad (v) (pd) (rv) (Ns)) (cW G b ad (v) (pd) (rv) (Ns)) (-2) := by
  refine MI.of (own := RX3) rfl rfl (Nat.le_of_ble_eq_true rfl) ?_
  intro pP eE sS mM below meth cC ls AA E hw hl hr hlk hE
  replace hl : lv_has ls 3 [(0, .ref (b 0)), (1, .int (nI (d))), (2, .int (w))] := hl
  refine lv_aload_n E.1 E.2.1 dX3_ofDeal_0 rfl (lv_at hl 0 rfl) ?_
  refine gX3_0 E hw mw_1_16 dX3_ofDeal_1 ?_
  refine lv_iload_n E.1 E.2.1 dX3_ofDeal_4 rfl (lv_at hl 1 rfl) ?_
  refine lv_iload_n E.1 E.2.1 dX3_ofDeal_5 rfl (lv_at hl 2 rfl) ?_
  refine callVIp E (c_X2_numberOfDeal_bad2 l G (ad 0) (Ns 0) d hd hF w h) ES.eb (fun _ _ _ => trivial) mw_18_2 YX2_numberOfDeal ⟨rfl, rfl⟩ ⟨Nat.le_of_ble_eq_true rfl, Nat.le_of_ble_eq_true rfl⟩ ⟨Nat.zero_le _, Nat.zero_le _⟩ hw (cW_p0 (rfl) (by omega)) (cW_p0 (rfl) (by omega)) 0 rfl rfl rfl hl rfl (Nat.le_of_ble_eq_true rfl) dX3_ofDeal_6 (fun H locs hw => ?_)
  exact rI E hr hlk (HB.eq hw (rfl)) (rfl) dX3_ofDeal_9
set_option maxHeartbeats 4000000 in
set_option maxRecDepth 100000 in
theorem c_X3_ofDeal_ok (l : Launch) (G : GP) (b : Nat → Nat) (ad : Nat → Nat → Nat) (v pd rv : Nat → Int32) (Ns : Nat → NS) (d : Nat) (hd : d < Ns 0 5) (hF : FI (Ns 0)) (k : Nat) (hk : k ≤ 8) : MI l yX3_ofDeal (.code yX3_ofDeal cX3_ofDeal 3 (some .int) :: GW) ({ frames := 2, cells := 0, slots := 0, locals := 44 }) [.ref (b 0), .int (nI (d)), .int (nI (k))] G ES (cW G b ad (v) (pd) (rv) (Ns)) (cW G b ad (v) (pd) (rv) (Ns)) (nI (ofd d k (Ns 0))) := by
  refine MI.of (own := RX3) rfl rfl (Nat.le_of_ble_eq_true rfl) ?_
  intro pP eE sS mM below meth cC ls AA E hw hl hr hlk hE
  replace hl : lv_has ls 3 [(0, .ref (b 0)), (1, .int (nI (d))), (2, .int (nI (k)))] := hl
  refine lv_aload_n E.1 E.2.1 dX3_ofDeal_0 rfl (lv_at hl 0 rfl) ?_
  refine gX3_0 E hw mw_1_16 dX3_ofDeal_1 ?_
  refine lv_iload_n E.1 E.2.1 dX3_ofDeal_4 rfl (lv_at hl 1 rfl) ?_
  refine lv_iload_n E.1 E.2.1 dX3_ofDeal_5 rfl (lv_at hl 2 rfl) ?_
  refine callVIp E (c_X2_numberOfDeal_ok l G (ad 0) (Ns 0) d hd hF k hk) ES.eb (fun _ _ _ => trivial) mw_18_2 YX2_numberOfDeal ⟨rfl, rfl⟩ ⟨Nat.le_of_ble_eq_true rfl, Nat.le_of_ble_eq_true rfl⟩ ⟨Nat.zero_le _, Nat.zero_le _⟩ hw (cW_p0 (rfl) (by omega)) (cW_p0 (rfl) (by omega)) 0 rfl rfl rfl hl rfl (Nat.le_of_ble_eq_true rfl) dX3_ofDeal_6 (fun H locs hw => ?_)
  exact rI E hr hlk (HB.eq hw (rfl)) (rfl) dX3_ofDeal_9
theorem YX3_at : YV yX3_at RX3 cX3_at 3 (some .int) 2 := ⟨mw_18_23, mw_19_0, mw_1_2, mw_19_1, by decide +kernel⟩
set_option maxHeartbeats 4000000 in
set_option maxRecDepth 100000 in
theorem c_X3_at_bad (l : Launch) (G : GP) (b : Nat → Nat) (ad : Nat → Nat → Nat) (v pd rv : Nat → Int32) (Ns : Nat → NS) (e w : Int32) (h : ¬ ((0 ≤ e ∧ e < nI (Ns 0 5)) ∧ (nI 0 ≤ w ∧ w ≤ nI 3))) : MI l yX3_at (.code yX3_at cX3_at 3 (some .int) :: GW) ({ frames := 3, cells := 0, slots := 0, locals := 68 }) [.ref (b 0), .int (e), .int (w)] G ES (cW G b ad (v) (pd) (rv) (Ns)) (cW G b ad (v) (pd) (rv) (Ns)) (-1) := by
  refine MI.of (own := RX3) rfl rfl (Nat.le_of_ble_eq_true rfl) ?_
  intro pP eE sS mM below meth cC ls AA E hw hl hr hlk hE
  replace hl : lv_has ls 3 [(0, .ref (b 0)), (1, .int (e)), (2, .int (w))] := hl
  refine lv_aload_n E.1 E.2.1 dX3_at_0 rfl (lv_at hl 0 rfl) ?_
  refine gX3_0 E hw mw_1_16 dX3_at_1 ?_
  refine lv_iload_n E.1 E.2.1 dX3_at_4 rfl (lv_at hl 1 rfl) ?_
  refine lv_iload_n E.1 E.2.1 dX3_at_5 rfl (lv_at hl 2 rfl) ?_
  refine callVIp E (c_X2_standingFor_bad l G (ad 0) (Ns 0) e w h) ES.eb (fun _ _ _ => trivial) mw_19_2 YX2_standingFor ⟨rfl, rfl⟩ ⟨Nat.le_of_ble_eq_true rfl, Nat.le_of_ble_eq_true rfl⟩ ⟨Nat.zero_le _, Nat.zero_le _⟩ hw (cW_p0 (rfl) (by omega)) (cW_p0 (rfl) (by omega)) 0 rfl rfl rfl hl rfl (Nat.le_of_ble_eq_true rfl) dX3_at_6 (fun H locs hw => ?_)
  exact rI E hr hlk (HB.eq hw (rfl)) (rfl) dX3_at_9
set_option maxHeartbeats 4000000 in
set_option maxRecDepth 100000 in
theorem c_X3_at_ok (l : Launch) (G : GP) (b : Nat → Nat) (ad : Nat → Nat → Nat) (v pd rv : Nat → Int32) (Ns : Nat → NS) (d : Nat) (hd : d < Ns 0 5) (hF : FI (Ns 0)) (c : Nat) (hc : c < 4) : MI l yX3_at (.code yX3_at cX3_at 3 (some .int) :: GW) ({ frames := 3, cells := 0, slots := 0, locals := 68 }) [.ref (b 0), .int (nI (d)), .int (nI (c))] G ES (cW G b ad (v) (pd) (rv) (Ns)) (cW G b ad (v) (pd) (rv) (Ns)) ((if (Ns 0 (30 + 14 * d + 0)).testBit c = true then nI (Ns 0 (30 + 14 * d + (6 + c))) else -6)) := by
  refine MI.of (own := RX3) rfl rfl (Nat.le_of_ble_eq_true rfl) ?_
  intro pP eE sS mM below meth cC ls AA E hw hl hr hlk hE
  replace hl : lv_has ls 3 [(0, .ref (b 0)), (1, .int (nI (d))), (2, .int (nI (c)))] := hl
  refine lv_aload_n E.1 E.2.1 dX3_at_0 rfl (lv_at hl 0 rfl) ?_
  refine gX3_0 E hw mw_1_16 dX3_at_1 ?_
  refine lv_iload_n E.1 E.2.1 dX3_at_4 rfl (lv_at hl 1 rfl) ?_
  refine lv_iload_n E.1 E.2.1 dX3_at_5 rfl (lv_at hl 2 rfl) ?_
  refine callVIp E (c_X2_standingFor_ok l G (ad 0) (Ns 0) d hd hF c hc) ES.eb (fun _ _ _ => trivial) mw_19_2 YX2_standingFor ⟨rfl, rfl⟩ ⟨Nat.le_of_ble_eq_true rfl, Nat.le_of_ble_eq_true rfl⟩ ⟨Nat.zero_le _, Nat.zero_le _⟩ hw (cW_p0 (rfl) (by omega)) (cW_p0 (rfl) (by omega)) 0 rfl rfl rfl hl rfl (Nat.le_of_ble_eq_true rfl) dX3_at_6 (fun H locs hw => ?_)
  exact rI E hr hlk (HB.eq hw (rfl)) (rfl) dX3_at_9
theorem YX3_message : YV yX3_message RX3 cX3_message 3 (some .int) 2 := ⟨mw_19_11, mw_19_12, mw_1_2, mw_19_13, by decide +kernel⟩
set_option maxHeartbeats 4000000 in
set_option maxRecDepth 100000 in
theorem c_X3_message_bad1 (l : Launch) (G : GP) (b : Nat → Nat) (ad : Nat → Nat → Nat) (v pd rv : Nat → Int32) (Ns : Nat → NS) (p : Int32) (h : ¬ (0 ≤ p ∧ p < nI (Ns 0 6))) (w : Int32) : MI l yX3_message (.code yX3_message cX3_message 3 (some .int) :: GW) ({ frames := 2, cells := 0, slots := 0, locals := 44 }) [.ref (b 0), .int (p), .int (w)] G ES (cW G b ad (v) (pd) (rv) (Ns)) (cW G b ad (v) (pd) (rv) (Ns)) (-1) := by
  refine MI.of (own := RX3) rfl rfl (Nat.le_of_ble_eq_true rfl) ?_
  intro pP eE sS mM below meth cC ls AA E hw hl hr hlk hE
  replace hl : lv_has ls 3 [(0, .ref (b 0)), (1, .int (p)), (2, .int (w))] := hl
  refine lv_aload_n E.1 E.2.1 dX3_message_0 rfl (lv_at hl 0 rfl) ?_
  refine gX3_0 E hw mw_1_16 dX3_message_1 ?_
  refine gS2_5 E hw (by omega) mw_19_14 dX3_message_4 ?_
  refine lv_iload_n E.1 E.2.1 dX3_message_7 rfl (lv_at hl 1 rfl) ?_
  refine lv_iload_n E.1 E.2.1 dX3_message_8 rfl (lv_at hl 2 rfl) ?_
  refine callVIp E (c_X1_numberOfMessage_bad1 l G (ad 0) (Ns 0) p w h) ES.eb (fun _ _ _ => trivial) mw_19_15 YX1_numberOfMessage ⟨rfl, rfl⟩ ⟨Nat.le_of_ble_eq_true rfl, Nat.le_of_ble_eq_true rfl⟩ ⟨Nat.zero_le _, Nat.zero_le _⟩ hw (cW_p0 (rfl) (by omega)) (cW_p0 (rfl) (by omega)) 2 rfl rfl rfl hl rfl (Nat.le_of_ble_eq_true rfl) dX3_message_9 (fun H locs hw => ?_)
  exact rI E hr hlk (HB.eq hw (rfl)) (rfl) dX3_message_12
set_option maxHeartbeats 4000000 in
set_option maxRecDepth 100000 in
theorem c_X3_message_bad2 (l : Launch) (G : GP) (b : Nat → Nat) (ad : Nat → Nat → Nat) (v pd rv : Nat → Int32) (Ns : Nat → NS) (p : Nat) (hp : p < Ns 0 6) (hF : FI (Ns 0)) (w : Int32) (h : ¬ (nI 0 ≤ w ∧ w ≤ nI 3)) : MI l yX3_message (.code yX3_message cX3_message 3 (some .int) :: GW) ({ frames := 2, cells := 0, slots := 0, locals := 44 }) [.ref (b 0), .int (nI (p)), .int (w)] G ES (cW G b ad (v) (pd) (rv) (Ns)) (cW G b ad (v) (pd) (rv) (Ns)) (-2) := by
  refine MI.of (own := RX3) rfl rfl (Nat.le_of_ble_eq_true rfl) ?_
  intro pP eE sS mM below meth cC ls AA E hw hl hr hlk hE
  replace hl : lv_has ls 3 [(0, .ref (b 0)), (1, .int (nI (p))), (2, .int (w))] := hl
  refine lv_aload_n E.1 E.2.1 dX3_message_0 rfl (lv_at hl 0 rfl) ?_
  refine gX3_0 E hw mw_1_16 dX3_message_1 ?_
  refine gS2_5 E hw (by omega) mw_19_14 dX3_message_4 ?_
  refine lv_iload_n E.1 E.2.1 dX3_message_7 rfl (lv_at hl 1 rfl) ?_
  refine lv_iload_n E.1 E.2.1 dX3_message_8 rfl (lv_at hl 2 rfl) ?_
  refine callVIp E (c_X1_numberOfMessage_bad2 l G (ad 0) (Ns 0) p w hp hF.1 h) ES.eb (fun _ _ _ => trivial) mw_19_15 YX1_numberOfMessage ⟨rfl, rfl⟩ ⟨Nat.le_of_ble_eq_true rfl, Nat.le_of_ble_eq_true rfl⟩ ⟨Nat.zero_le _, Nat.zero_le _⟩ hw (cW_p0 (rfl) (by omega)) (cW_p0 (rfl) (by omega)) 2 rfl rfl rfl hl rfl (Nat.le_of_ble_eq_true rfl) dX3_message_9 (fun H locs hw => ?_)
  exact rI E hr hlk (HB.eq hw (rfl)) (rfl) dX3_message_12
set_option maxHeartbeats 4000000 in
set_option maxRecDepth 100000 in
theorem c_X3_message_ok (l : Launch) (G : GP) (b : Nat → Nat) (ad : Nat → Nat → Nat) (v pd rv : Nat → Int32) (Ns : Nat → NS) (p : Nat) (hp : p < Ns 0 6) (hF : FI (Ns 0)) (k : Nat) (hk : k < 4) : MI l yX3_message (.code yX3_message cX3_message 3 (some .int) :: GW) ({ frames := 2, cells := 0, slots := 0, locals := 44 }) [.ref (b 0), .int (nI (p)), .int (nI (k))] G ES (cW G b ad (v) (pd) (rv) (Ns)) (cW G b ad (v) (pd) (rv) (Ns)) (nI (Ns 0 (150 + 4 * p + k))) := by
  refine MI.of (own := RX3) rfl rfl (Nat.le_of_ble_eq_true rfl) ?_
  intro pP eE sS mM below meth cC ls AA E hw hl hr hlk hE
  replace hl : lv_has ls 3 [(0, .ref (b 0)), (1, .int (nI (p))), (2, .int (nI (k)))] := hl
  refine lv_aload_n E.1 E.2.1 dX3_message_0 rfl (lv_at hl 0 rfl) ?_
  refine gX3_0 E hw mw_1_16 dX3_message_1 ?_
  refine gS2_5 E hw (by omega) mw_19_14 dX3_message_4 ?_
  refine lv_iload_n E.1 E.2.1 dX3_message_7 rfl (lv_at hl 1 rfl) ?_
  refine lv_iload_n E.1 E.2.1 dX3_message_8 rfl (lv_at hl 2 rfl) ?_
  refine callVIp E (c_X1_numberOfMessage_ok l G (ad 0) (Ns 0) p k hp hF.1 hk) ES.eb (fun _ _ _ => trivial) mw_19_15 YX1_numberOfMessage ⟨rfl, rfl⟩ ⟨Nat.le_of_ble_eq_true rfl, Nat.le_of_ble_eq_true rfl⟩ ⟨Nat.zero_le _, Nat.zero_le _⟩ hw (cW_p0 (rfl) (by omega)) (cW_p0 (rfl) (by omega)) 2 rfl rfl rfl hl rfl (Nat.le_of_ble_eq_true rfl) dX3_message_9 (fun H locs hw => ?_)
  exact rI E hr hlk (HB.eq hw (rfl)) (rfl) dX3_message_12
theorem YX3_who : YV yX3_who RX3 cX3_who 3 (some .int) 2 := ⟨mw_20_2, mw_20_3, mw_1_2, mw_20_4, by decide +kernel⟩
set_option maxHeartbeats 4000000 in
set_option maxRecDepth 100000 in
theorem c_X3_who_bad1 (l : Launch) (G : GP) (b : Nat → Nat) (ad : Nat → Nat → Nat) (v pd rv : Nat → Int32) (Ns : Nat → NS) (e : Int32) (h : ¬ (nI 0 ≤ e ∧ e ≤ nI 4)) (w : Int32) : MI l yX3_who (.code yX3_who cX3_who 3 (some .int) :: GW) ({ frames := 3, cells := 0, slots := 0, locals := 67 }) [.ref (b 0), .int (e), .int (w)] G ES (cW G b ad (v) (pd) (rv) (Ns)) (cW G b ad (v) (pd) (rv) (Ns)) (-1) := by
  refine MI.of (own := RX3) rfl rfl (Nat.le_of_ble_eq_true rfl) ?_
  intro pP eE sS mM below meth cC ls AA E hw hl hr hlk hE
  replace hl : lv_has ls 3 [(0, .ref (b 0)), (1, .int (e)), (2, .int (w))] := hl
  refine lv_aload_n E.1 E.2.1 dX3_who_0 rfl (lv_at hl 0 rfl) ?_
  refine gX3_0 E hw mw_1_16 dX3_who_1 ?_
  refine lv_iload_n E.1 E.2.1 dX3_who_4 rfl (lv_at hl 1 rfl) ?_
  refine lv_iload_n E.1 E.2.1 dX3_who_5 rfl (lv_at hl 2 rfl) ?_
  refine callVIp E (c_X2_numberOfSomebody_bad1 l G (ad 0) (Ns 0) e h w) ES.eb (fun _ _ _ => trivial) mw_20_5 YX2_numberOfSomebody ⟨rfl, rfl⟩ ⟨Nat.le_of_ble_eq_true rfl, Nat.le_of_ble_eq_true rfl⟩ ⟨Nat.zero_le _, Nat.zero_le _⟩ hw (cW_p0 (rfl) (by omega)) (cW_p0 (rfl) (by omega)) 0 rfl rfl rfl hl rfl (Nat.le_of_ble_eq_true rfl) dX3_who_6 (fun H locs hw => ?_)
  exact rI E hr hlk (HB.eq hw (rfl)) (rfl) dX3_who_9
set_option maxHeartbeats 4000000 in
set_option maxRecDepth 100000 in
theorem c_X3_who_bad2 (l : Launch) (G : GP) (b : Nat → Nat) (ad : Nat → Nat → Nat) (v pd rv : Nat → Int32) (Ns : Nat → NS) (w : Nat) (hw : w < 5) (e : Int32) (h : ¬ (nI 0 ≤ e ∧ e ≤ nI 4)) : MI l yX3_who (.code yX3_who cX3_who 3 (some .int) :: GW) ({ frames := 3, cells := 0, slots := 0, locals := 67 }) [.ref (b 0), .int (nI (w)), .int (e)] G ES (cW G b ad (v) (pd) (rv) (Ns)) (cW G b ad (v) (pd) (rv) (Ns)) (-2) := by
  have hw5 := hw
  refine MI.of (own := RX3) rfl rfl (Nat.le_of_ble_eq_true rfl) ?_
  intro pP eE sS mM below meth cC ls AA E hw hl hr hlk hE
  replace hl : lv_has ls 3 [(0, .ref (b 0)), (1, .int (nI (w))), (2, .int (e))] := hl
  refine lv_aload_n E.1 E.2.1 dX3_who_0 rfl (lv_at hl 0 rfl) ?_
  refine gX3_0 E hw mw_1_16 dX3_who_1 ?_
  refine lv_iload_n E.1 E.2.1 dX3_who_4 rfl (lv_at hl 1 rfl) ?_
  refine lv_iload_n E.1 E.2.1 dX3_who_5 rfl (lv_at hl 2 rfl) ?_
  refine callVIp E (c_X2_numberOfSomebody_bad2 l G (ad 0) (Ns 0) w hw5 e h) ES.eb (fun _ _ _ => trivial) mw_20_5 YX2_numberOfSomebody ⟨rfl, rfl⟩ ⟨Nat.le_of_ble_eq_true rfl, Nat.le_of_ble_eq_true rfl⟩ ⟨Nat.zero_le _, Nat.zero_le _⟩ hw (cW_p0 (rfl) (by omega)) (cW_p0 (rfl) (by omega)) 0 rfl rfl rfl hl rfl (Nat.le_of_ble_eq_true rfl) dX3_who_6 (fun H locs hw => ?_)
  exact rI E hr hlk (HB.eq hw (rfl)) (rfl) dX3_who_9
set_option maxHeartbeats 4000000 in
set_option maxRecDepth 100000 in
theorem c_X3_who_ok (l : Launch) (G : GP) (b : Nat → Nat) (ad : Nat → Nat → Nat) (v pd rv : Nat → Int32) (Ns : Nat → NS) (w k : Nat) (hw : w < 5) (hk : k < 5) (hF : FI (Ns 0)) (hm : ∀ p, p < Ns 0 6 → Ns 0 (150 + 4 * p + 3) < 2 ^ 31) : MI l yX3_who (.code yX3_who cX3_who 3 (some .int) :: GW) ({ frames := 3, cells := 0, slots := 0, locals := 67 }) [.ref (b 0), .int (nI (w)), .int (nI (k))] G ES (cW G b ad (v) (pd) (rv) (Ns)) (cW G b ad (v) (pd) (rv) (Ns)) (nI (whoF w k (Ns 0))) := by
  have hw5 := hw
  refine MI.of (own := RX3) rfl rfl (Nat.le_of_ble_eq_true rfl) ?_
  intro pP eE sS mM below meth cC ls AA E hw hl hr hlk hE
  replace hl : lv_has ls 3 [(0, .ref (b 0)), (1, .int (nI (w))), (2, .int (nI (k)))] := hl
  refine lv_aload_n E.1 E.2.1 dX3_who_0 rfl (lv_at hl 0 rfl) ?_
  refine gX3_0 E hw mw_1_16 dX3_who_1 ?_
  refine lv_iload_n E.1 E.2.1 dX3_who_4 rfl (lv_at hl 1 rfl) ?_
  refine lv_iload_n E.1 E.2.1 dX3_who_5 rfl (lv_at hl 2 rfl) ?_
  refine callVIp E (c_X2_numberOfSomebody_ok l G (ad 0) (Ns 0) w k hw5 hk hF hm) ES.eb (fun _ _ _ => trivial) mw_20_5 YX2_numberOfSomebody ⟨rfl, rfl⟩ ⟨Nat.le_of_ble_eq_true rfl, Nat.le_of_ble_eq_true rfl⟩ ⟨Nat.zero_le _, Nat.zero_le _⟩ hw (cW_p0 (rfl) (by omega)) (cW_p0 (rfl) (by omega)) 0 rfl rfl rfl hl rfl (Nat.le_of_ble_eq_true rfl) dX3_who_6 (fun H locs hw => ?_)
  exact rI E hr hlk (HB.eq hw (rfl)) (rfl) dX3_who_9
theorem YX3_count : YV yX3_count RX3 cX3_count 2 (some .int) 1 := ⟨mw_20_23, mw_21_0, mw_1_2, mw_21_1, by decide +kernel⟩
set_option maxHeartbeats 4000000 in
set_option maxRecDepth 100000 in
theorem c_X3_count_bad (l : Launch) (G : GP) (b : Nat → Nat) (ad : Nat → Nat → Nat) (v pd rv : Nat → Int32) (Ns : Nat → NS) (w : Int32) (h : ¬ (nI 0 ≤ w ∧ w ≤ nI 13)) : MI l yX3_count (.code yX3_count cX3_count 2 (some .int) :: GW) ({ frames := 3, cells := 0, slots := 0, locals := 67 }) [.ref (b 0), .int (w)] G ES (cW G b ad (v) (pd) (rv) (Ns)) (cW G b ad (v) (pd) (rv) (Ns)) (-2) := by
  refine MI.of (own := RX3) rfl rfl (Nat.le_of_ble_eq_true rfl) ?_
  intro pP eE sS mM below meth cC ls AA E hw hl hr hlk hE
  replace hl : lv_has ls 2 [(0, .ref (b 0)), (1, .int (w))] := hl
  refine lv_iload_n E.1 E.2.1 dX3_count_0 rfl (lv_at hl 1 rfl) ?_
  by_cases z1_5 : w = nI 5
  · refine lv_eqi (y := nI 5) z1_5 ?_
    refine lv_lookup (off := 27) (tgt := 28) E.1 E.2.1 dX3_count_1 (by decide) (by decide) (by decide) ?_
    exact absurd (by rw [z1_5]; decide) h
  by_cases z1_6 : w = nI 6
  · refine lv_eqi (y := nI 6) z1_6 ?_
    refine lv_lookup (off := 32) (tgt := 33) E.1 E.2.1 dX3_count_1 (by decide) (by decide) (by decide) ?_
    exact absurd (by rw [z1_6]; decide) h
  refine lv_lookup (off := 37) (tgt := 38) E.1 E.2.1 dX3_count_1 (by decide) (by show Op.lookupswitch.offset _ _ _ = _; simp only []; rw [lv_osw (k := nI 5) z1_5 (by decide)]; rw [lv_osw (k := nI 6) z1_6 (by decide)]; rfl) (by decide) ?_
  refine lv_aload_n E.1 E.2.1 dX3_count_38 rfl (lv_at hl 0 rfl) ?_
  refine gX3_0 E hw mw_1_16 dX3_count_39 ?_
  refine lv_iload_n E.1 E.2.1 dX3_count_42 rfl (lv_at hl 1 rfl) ?_
  refine callVIp E (c_X2_numberOfAll_bad l G (ad 0) (Ns 0) w h) ES.eb (fun _ _ _ => trivial) mw_21_3 YX2_numberOfAll ⟨rfl, rfl⟩ ⟨Nat.le_of_ble_eq_true rfl, Nat.le_of_ble_eq_true rfl⟩ ⟨Nat.zero_le _, Nat.zero_le _⟩ hw (cW_p0 (rfl) (by omega)) (cW_p0 (rfl) (by omega)) 0 rfl rfl rfl hl rfl (Nat.le_of_ble_eq_true rfl) dX3_count_43 (fun H locs hw => ?_)
  exact rI E hr hlk (HB.eq hw (rfl)) (rfl) dX3_count_46
set_option maxHeartbeats 4000000 in
set_option maxRecDepth 100000 in
theorem c_X3_count_ok (l : Launch) (G : GP) (b : Nat → Nat) (ad : Nat → Nat → Nat) (v pd rv : Nat → Int32) (Ns : Nat → NS) (k : Nat) (hk : k < 14) (h5 : ¬ k = 5) (h6 : ¬ k = 6) (hF : FI (Ns 0)) (hDV : dvI (Ns 0) 5 = Ns 0 7) : MI l yX3_count (.code yX3_count cX3_count 2 (some .int) :: GW) ({ frames := 3, cells := 0, slots := 0, locals := 67 }) [.ref (b 0), .int (nI (k))] G ES (cW G b ad (v) (pd) (rv) (Ns)) (cW G b ad (v) (pd) (rv) (Ns)) ((if k < 5 then nI (Ns 0 (4 + k)) else if k < 11 then nI (Ns 0 (k - 7)) else nI (dwI (k - 11) (Ns 0) (Ns 0 5)))) := by
  refine MI.of (own := RX3) rfl rfl (Nat.le_of_ble_eq_true rfl) ?_
  intro pP eE sS mM below meth cC ls AA E hw hl hr hlk hE
  replace hl : lv_has ls 2 [(0, .ref (b 0)), (1, .int (nI (k)))] := hl
  refine lv_iload_n E.1 E.2.1 dX3_count_0 rfl (lv_at hl 1 rfl) ?_
  by_cases z1_5 : k = 5
  · refine lv_eqi (y := nI 5) (by rw [z1_5]) ?_
    refine lv_lookup (off := 27) (tgt := 28) E.1 E.2.1 dX3_count_1 (by decide) (by decide) (by decide) ?_
    exact absurd z1_5 h5
  by_cases z1_6 : k = 6
  · refine lv_eqi (y := nI 6) (by rw [z1_6]) ?_
    refine lv_lookup (off := 32) (tgt := 33) E.1 E.2.1 dX3_count_1 (by decide) (by decide) (by decide) ?_
    exact absurd z1_6 h6
  refine lv_lookup (off := 37) (tgt := 38) E.1 E.2.1 dX3_count_1 (by decide) (by show Op.lookupswitch.offset _ _ _ = _; simp only []; rw [lv_osw (k := nI 5) (fun z => z1_5 ((nI_eq (by omega) (by decide)).mp z)) (by decide)]; rw [lv_osw (k := nI 6) (fun z => z1_6 ((nI_eq (by omega) (by decide)).mp z)) (by decide)]; rfl) (by decide) ?_
  refine lv_aload_n E.1 E.2.1 dX3_count_38 rfl (lv_at hl 0 rfl) ?_
  refine gX3_0 E hw mw_1_16 dX3_count_39 ?_
  refine lv_iload_n E.1 E.2.1 dX3_count_42 rfl (lv_at hl 1 rfl) ?_
  refine callVIp E (c_X2_numberOfAll_ok l G (ad 0) (Ns 0) k hk h5 h6 hF hDV) ES.eb (fun _ _ _ => trivial) mw_21_3 YX2_numberOfAll ⟨rfl, rfl⟩ ⟨Nat.le_of_ble_eq_true rfl, Nat.le_of_ble_eq_true rfl⟩ ⟨Nat.zero_le _, Nat.zero_le _⟩ hw (cW_p0 (rfl) (by omega)) (cW_p0 (rfl) (by omega)) 0 rfl rfl rfl hl rfl (Nat.le_of_ble_eq_true rfl) dX3_count_43 (fun H locs hw => ?_)
  exact rI E hr hlk (HB.eq hw (rfl)) (rfl) dX3_count_46
set_option maxHeartbeats 4000000 in
set_option maxRecDepth 100000 in
theorem c_X3_count_5 (l : Launch) (G : GP) (b : Nat → Nat) (ad : Nat → Nat → Nat) (v pd rv : Nat → Int32) (Ns : Nat → NS)  : MI l yX3_count (.code yX3_count cX3_count 2 (some .int) :: GW) ({ frames := 0, cells := 0, slots := 0, locals := 0 }) [.ref (b 0), .int (nI (5))] G ES (cW G b ad (v) (pd) (rv) (Ns)) (cW G b ad (v) (pd) (rv) (Ns)) (v 3) := by
  refine MI.of (own := RX3) rfl rfl (Nat.le_of_ble_eq_true rfl) ?_
  intro pP eE sS mM below meth cC ls AA E hw hl hr hlk hE
  replace hl : lv_has ls 2 [(0, .ref (b 0)), (1, .int (nI (5)))] := hl
  refine lv_iload_n E.1 E.2.1 dX3_count_0 rfl (lv_at hl 1 rfl) ?_
  refine lv_lookup (off := 27) (tgt := 28) E.1 E.2.1 dX3_count_1 (by decide) (by decide) (by decide) ?_
  refine lv_aload_n E.1 E.2.1 dX3_count_28 rfl (lv_at hl 0 rfl) ?_
  refine gX3_8 E hw mw_21_2 dX3_count_29 ?_
  refine lv_eqi (y := v 3) (rfl) ?_
  exact rI E hr hlk (HB.eq hw (rfl)) (rfl) dX3_count_32
set_option maxHeartbeats 4000000 in
set_option maxRecDepth 100000 in
theorem c_X3_count_6 (l : Launch) (G : GP) (b : Nat → Nat) (ad : Nat → Nat → Nat) (v pd rv : Nat → Int32) (Ns : Nat → NS)  : MI l yX3_count (.code yX3_count cX3_count 2 (some .int) :: GW) ({ frames := 0, cells := 0, slots := 0, locals := 0 }) [.ref (b 0), .int (nI (6))] G ES (cW G b ad (v) (pd) (rv) (Ns)) (cW G b ad (v) (pd) (rv) (Ns)) (v 1) := by
  refine MI.of (own := RX3) rfl rfl (Nat.le_of_ble_eq_true rfl) ?_
  intro pP eE sS mM below meth cC ls AA E hw hl hr hlk hE
  replace hl : lv_has ls 2 [(0, .ref (b 0)), (1, .int (nI (6)))] := hl
  refine lv_iload_n E.1 E.2.1 dX3_count_0 rfl (lv_at hl 1 rfl) ?_
  refine lv_lookup (off := 32) (tgt := 33) E.1 E.2.1 dX3_count_1 (by decide) (by decide) (by decide) ?_
  refine lv_aload_n E.1 E.2.1 dX3_count_33 rfl (lv_at hl 0 rfl) ?_
  refine gX3_4 E hw mw_5_4 dX3_count_34 ?_
  refine lv_eqi (y := v 1) (rfl) ?_
  exact rI E hr hlk (HB.eq hw (rfl)) (rfl) dX3_count_37
theorem YX3_sure : YV yX3_sure RX3 cX3_sure 2 (some .int) 1 := ⟨mw_22_1, mw_22_2, mw_1_2, mw_22_3, by decide +kernel⟩
set_option maxHeartbeats 4000000 in
set_option maxRecDepth 100000 in
theorem c_X3_sure_bad1 (l : Launch) (G : GP) (b : Nat → Nat) (ad : Nat → Nat → Nat) (v pd rv : Nat → Int32) (Ns : Nat → NS) (e : Int32) (h : ¬ (0 ≤ e ∧ e < nI (Ns 0 5))) : MI l yX3_sure (.code yX3_sure cX3_sure 2 (some .int) :: GW) ({ frames := 2, cells := 0, slots := 0, locals := 43 }) [.ref (b 0), .int (e)] G ES (cW G b ad (v) (pd) (rv) (Ns)) (cW G b ad (v) (pd) (rv) (Ns)) (-1) := by
  refine MI.of (own := RX3) rfl rfl (Nat.le_of_ble_eq_true rfl) ?_
  intro pP eE sS mM below meth cC ls AA E hw hl hr hlk hE
  replace hl : lv_has ls 2 [(0, .ref (b 0)), (1, .int (e))] := hl
  refine lv_aload_n E.1 E.2.1 dX3_sure_0 rfl (lv_at hl 0 rfl) ?_
  refine gX3_0 E hw mw_1_16 dX3_sure_1 ?_
  refine lv_iload_n E.1 E.2.1 dX3_sure_4 rfl (lv_at hl 1 rfl) ?_
  refine callVIp E (c_X2_whatIsSure_bad1 l G (ad 0) (Ns 0) e h) ES.eb (fun _ _ _ => trivial) mw_22_4 YX2_whatIsSure ⟨rfl, rfl⟩ ⟨Nat.le_of_ble_eq_true rfl, Nat.le_of_ble_eq_true rfl⟩ ⟨Nat.zero_le _, Nat.zero_le _⟩ hw (cW_p0 (rfl) (by omega)) (cW_p0 (rfl) (by omega)) 0 rfl rfl rfl hl rfl (Nat.le_of_ble_eq_true rfl) dX3_sure_5 (fun H locs hw => ?_)
  exact rI E hr hlk (HB.eq hw (rfl)) (rfl) dX3_sure_8
set_option maxHeartbeats 4000000 in
set_option maxRecDepth 100000 in
theorem c_X3_sure_ok (l : Launch) (G : GP) (b : Nat → Nat) (ad : Nat → Nat → Nat) (v pd rv : Nat → Int32) (Ns : Nat → NS) (d : Nat) (hd : d < Ns 0 5) (hF : FI (Ns 0)) : MI l yX3_sure (.code yX3_sure cX3_sure 2 (some .int) :: GW) ({ frames := 2, cells := 0, slots := 0, locals := 43 }) [.ref (b 0), .int (nI (d))] G ES (cW G b ad (v) (pd) (rv) (Ns)) (cW G b ad (v) (pd) (rv) (Ns)) (nI (suR d (Ns 0))) := by
  refine MI.of (own := RX3) rfl rfl (Nat.le_of_ble_eq_true rfl) ?_
  intro pP eE sS mM below meth cC ls AA E hw hl hr hlk hE
  replace hl : lv_has ls 2 [(0, .ref (b 0)), (1, .int (nI (d)))] := hl
  refine lv_aload_n E.1 E.2.1 dX3_sure_0 rfl (lv_at hl 0 rfl) ?_
  refine gX3_0 E hw mw_1_16 dX3_sure_1 ?_
  refine lv_iload_n E.1 E.2.1 dX3_sure_4 rfl (lv_at hl 1 rfl) ?_
  refine callVIp E (c_X2_whatIsSure_ok l G (ad 0) (Ns 0) d hd hF) ES.eb (fun _ _ _ => trivial) mw_22_4 YX2_whatIsSure ⟨rfl, rfl⟩ ⟨Nat.le_of_ble_eq_true rfl, Nat.le_of_ble_eq_true rfl⟩ ⟨Nat.zero_le _, Nat.zero_le _⟩ hw (cW_p0 (rfl) (by omega)) (cW_p0 (rfl) (by omega)) 0 rfl rfl rfl hl rfl (Nat.le_of_ble_eq_true rfl) dX3_sure_5 (fun H locs hw => ?_)
  exact rI E hr hlk (HB.eq hw (rfl)) (rfl) dX3_sure_8
theorem YX3_couldAsk : YV yX3_couldAsk RX3 cX3_couldAsk 2 (some .int) 1 := ⟨mw_22_13, mw_22_14, mw_1_2, mw_22_15, by decide +kernel⟩
set_option maxHeartbeats 4000000 in
set_option maxRecDepth 100000 in
theorem c_X3_couldAsk_bad1 (l : Launch) (G : GP) (b : Nat → Nat) (ad : Nat → Nat → Nat) (v pd rv : Nat → Int32) (Ns : Nat → NS) (e : Int32) (h : ¬ (0 ≤ e ∧ e < nI (Ns 0 5))) : MI l yX3_couldAsk (.code yX3_couldAsk cX3_couldAsk 2 (some .int) :: GW) ({ frames := 3, cells := 0, slots := 0, locals := 67 }) [.ref (b 0), .int (e)] G ES (cW G b ad (v) (pd) (rv) (Ns)) (cW G b ad (v) (pd) (rv) (Ns)) (-1) := by
  refine MI.of (own := RX3) rfl rfl (Nat.le_of_ble_eq_true rfl) ?_
  intro pP eE sS mM below meth cC ls AA E hw hl hr hlk hE
  replace hl : lv_has ls 2 [(0, .ref (b 0)), (1, .int (e))] := hl
  refine lv_aload_n E.1 E.2.1 dX3_couldAsk_0 rfl (lv_at hl 0 rfl) ?_
  refine gX3_0 E hw mw_1_16 dX3_couldAsk_1 ?_
  refine lv_iload_n E.1 E.2.1 dX3_couldAsk_4 rfl (lv_at hl 1 rfl) ?_
  refine callVIp E (c_X2_whoFindsOut_bad1 l G (ad 0) (Ns 0) e h) ES.eb (fun _ _ _ => trivial) mw_22_16 YX2_whoFindsOut ⟨rfl, rfl⟩ ⟨Nat.le_of_ble_eq_true rfl, Nat.le_of_ble_eq_true rfl⟩ ⟨Nat.zero_le _, Nat.zero_le _⟩ hw (cW_p0 (rfl) (by omega)) (cW_p0 (rfl) (by omega)) 0 rfl rfl rfl hl rfl (Nat.le_of_ble_eq_true rfl) dX3_couldAsk_5 (fun H locs hw => ?_)
  exact rI E hr hlk (HB.eq hw (rfl)) (rfl) dX3_couldAsk_8
set_option maxHeartbeats 4000000 in
set_option maxRecDepth 100000 in
theorem c_X3_couldAsk_ok (l : Launch) (G : GP) (b : Nat → Nat) (ad : Nat → Nat → Nat) (v pd rv : Nat → Int32) (Ns : Nat → NS) (d : Nat) (hd : d < Ns 0 5) (hF : FI (Ns 0)) : MI l yX3_couldAsk (.code yX3_couldAsk cX3_couldAsk 2 (some .int) :: GW) ({ frames := 3, cells := 0, slots := 0, locals := 67 }) [.ref (b 0), .int (nI (d))] G ES (cW G b ad (v) (pd) (rv) (Ns)) (cW G b ad (v) (pd) (rv) (Ns)) (nI (cqI d (Ns 0) 4)) := by
  refine MI.of (own := RX3) rfl rfl (Nat.le_of_ble_eq_true rfl) ?_
  intro pP eE sS mM below meth cC ls AA E hw hl hr hlk hE
  replace hl : lv_has ls 2 [(0, .ref (b 0)), (1, .int (nI (d)))] := hl
  refine lv_aload_n E.1 E.2.1 dX3_couldAsk_0 rfl (lv_at hl 0 rfl) ?_
  refine gX3_0 E hw mw_1_16 dX3_couldAsk_1 ?_
  refine lv_iload_n E.1 E.2.1 dX3_couldAsk_4 rfl (lv_at hl 1 rfl) ?_
  refine callVIp E (c_X2_whoFindsOut_ok l G (ad 0) (Ns 0) d hd hF) ES.eb (fun _ _ _ => trivial) mw_22_16 YX2_whoFindsOut ⟨rfl, rfl⟩ ⟨Nat.le_of_ble_eq_true rfl, Nat.le_of_ble_eq_true rfl⟩ ⟨Nat.zero_le _, Nat.zero_le _⟩ hw (cW_p0 (rfl) (by omega)) (cW_p0 (rfl) (by omega)) 0 rfl rfl rfl hl rfl (Nat.le_of_ble_eq_true rfl) dX3_couldAsk_5 (fun H locs hw => ?_)
  exact rI E hr hlk (HB.eq hw (rfl)) (rfl) dX3_couldAsk_8
theorem YX3_settledIn : YV yX3_settledIn RX3 cX3_settledIn 3 (some .int) 1 := ⟨mw_23_5, mw_23_6, mw_1_2, mw_23_7, by decide +kernel⟩
set_option maxHeartbeats 4000000 in
set_option maxRecDepth 100000 in
theorem c_X3_settledIn_bad1 (l : Launch) (G : GP) (b : Nat → Nat) (ad : Nat → Nat → Nat) (v pd rv : Nat → Int32) (Ns : Nat → NS) (e : Int32) (h : ¬ (0 ≤ e ∧ e < nI (Ns 0 5))) : MI l yX3_settledIn (.code yX3_settledIn cX3_settledIn 3 (some .int) :: GW) ({ frames := 1, cells := 0, slots := 0, locals := 21 }) [.ref (b 0), .int (e)] G ES (cW G b ad (v) (pd) (rv) (Ns)) (cW G b ad (v) (pd) (rv) (Ns)) (-1) := by
  refine MI.of (own := RX3) rfl rfl (Nat.le_of_ble_eq_true rfl) ?_
  intro pP eE sS mM below meth cC ls AA E hw hl hr hlk hE
  replace hl : lv_has ls 3 [(0, .ref (b 0)), (1, .int (e))] := hl
  refine lv_aload_n E.1 E.2.1 dX3_settledIn_0 rfl (lv_at hl 0 rfl) ?_
  refine gX3_0 E hw mw_1_16 dX3_settledIn_1 ?_
  refine lv_iload_n E.1 E.2.1 dX3_settledIn_4 rfl (lv_at hl 1 rfl) ?_
  refine callVIp E (c_X2_isDeal l G (ad 0) (Ns 0) (e)) ES.eb (fun _ _ _ => trivial) mw_23_8 YX2_isDeal ⟨rfl, rfl⟩ ⟨Nat.le_of_ble_eq_true rfl, Nat.le_of_ble_eq_true rfl⟩ ⟨Nat.zero_le _, Nat.zero_le _⟩ hw (cW_p0 (rfl) (by omega)) (cW_p0 (rfl) (by omega)) 0 rfl rfl rfl hl rfl (Nat.le_of_ble_eq_true rfl) dX3_settledIn_5 (fun H locs hw => ?_)
  refine lv_if_neB (tgt := 13) E.1 E.2.1 dX3_settledIn_8 (by decide) (fun c8 => ?_) (fun c8 => ?_)
  · exact absurd c8 h
  · skip
    refine lv_iconst (v := -1) E.1 E.2.1 dX3_settledIn_11 (by decide) ?_
    exact rI E hr hlk (HB.eq hw (rfl)) (rfl) dX3_settledIn_12
set_option maxHeartbeats 4000000 in
set_option maxRecDepth 100000 in
theorem c_X3_settledIn_ok (l : Launch) (G : GP) (b : Nat → Nat) (ad : Nat → Nat → Nat) (v pd rv : Nat → Int32) (Ns : Nat → NS) (d : Nat) (hd : d < Ns 0 5) (hI : Inv (Ns 0)) : MI l yX3_settledIn (.code yX3_settledIn cX3_settledIn 3 (some .int) :: GW) ({ frames := 6, cells := 0, slots := 0, locals := 141 }) [.ref (b 0), .int (nI (d))] G ES (cW G b ad (v) (pd) (rv) (Ns)) (cW G b ad (v) (pd) (rv) (va_up (va_up (Ns) 1 (Ns 0)) 1 (rToN d 201 (Ns 0)))) ((if 200 < rTo d 201 (Ns 0) then -6 else nI (rTo d 201 (Ns 0)))) := by
  refine MI.of (own := RX3) rfl rfl (Nat.le_of_ble_eq_true rfl) ?_
  intro pP eE sS mM below meth cC ls AA E hw hl hr hlk hE
  replace hl : lv_has ls 3 [(0, .ref (b 0)), (1, .int (nI (d)))] := hl
  have h5 := hI.1.2.1
  have h6 := hI.1.1
  have hd8 : d < 8 := by omega
  have hle := rTo_le (d := d) 201 (Ns 0)
  refine lv_aload_n E.1 E.2.1 dX3_settledIn_0 rfl (lv_at hl 0 rfl) ?_
  refine gX3_0 E hw mw_1_16 dX3_settledIn_1 ?_
  refine lv_iload_n E.1 E.2.1 dX3_settledIn_4 rfl (lv_at hl 1 rfl) ?_
  refine callVIp E (c_X2_isDeal l G (ad 0) (Ns 0) (nI d)) ES.eb (fun _ _ _ => trivial) mw_23_8 YX2_isDeal ⟨rfl, rfl⟩ ⟨Nat.le_of_ble_eq_true rfl, Nat.le_of_ble_eq_true rfl⟩ ⟨Nat.zero_le _, Nat.zero_le _⟩ hw (cW_p0 (rfl) (by omega)) (cW_p0 (rfl) (by omega)) 0 rfl rfl rfl hl rfl (Nat.le_of_ble_eq_true rfl) dX3_settledIn_5 (fun H locs hw => ?_)
  refine lv_if_neB (tgt := 13) E.1 E.2.1 dX3_settledIn_8 (by decide) (fun c8 => ?_) (fun c8 => ?_)
  · skip
    refine lv_aload_n E.1 E.2.1 dX3_settledIn_13 rfl (lv_at hl 0 rfl) ?_
    refine gX3_1 E hw mw_1_17 dX3_settledIn_14 ?_
    refine lv_aload_n E.1 E.2.1 dX3_settledIn_17 rfl (lv_at hl 0 rfl) ?_
    refine gX3_0 E hw mw_1_16 dX3_settledIn_18 ?_
    refine callVVp E (c_X2_copyN l G (ad 1) (ad 0) (Ns 1) (Ns 0)) ES.eb (fun _ _ _ => trivial) mw_4_1 YX2_copyFrom ⟨rfl, rfl⟩ ⟨Nat.le_of_ble_eq_true rfl, Nat.le_of_ble_eq_true rfl⟩ ⟨Nat.zero_le _, Nat.zero_le _⟩ hw (cW_20 (by omega) (by omega) (by omega)) (cW_21 (Ns 0) (by omega) (by omega) (by omega)) 0 rfl rfl rfl hl rfl (Nat.le_of_ble_eq_true rfl) dX3_settledIn_21 (fun H locs hw => ?_)
    refine lv_aload_n E.1 E.2.1 dX3_settledIn_24 rfl (lv_at hl 0 rfl) ?_
    refine gX3_1 E hw mw_1_17 dX3_settledIn_25 ?_
    refine lv_iload_n E.1 E.2.1 dX3_settledIn_28 rfl (lv_at hl 1 rfl) ?_
    refine callVIp E (c_X2_roundsUntilSettled l G (ad 1) (Ns 0) d hd8 hI) ES.eb (fun _ _ _ => trivial) mw_23_9 YX2_roundsUntilSettled ⟨rfl, rfl⟩ ⟨Nat.le_of_ble_eq_true rfl, Nat.le_of_ble_eq_true rfl⟩ ⟨Nat.zero_le _, Nat.zero_le _⟩ hw (cW_p0 (va_up_self _ _ _) (by omega)) (cW_p (rToN d 201 (Ns 0)) (by omega)) 0 rfl rfl rfl hl rfl (Nat.le_of_ble_eq_true rfl) dX3_settledIn_29 (fun H locs hw => ?_)
    refine lv_istore_n (lv' := [(2, .int (nI (rTo d 201 (Ns 0)))), (0, .ref (b 0)), (1, .int (nI (d)))]) E.1 E.2.1 dX3_settledIn_32 rfl hl (by decide) rfl (fun ls hl => ?_)
    refine lv_iload_n E.1 E.2.1 dX3_settledIn_33 rfl (lv_at hl 0 rfl) ?_
    refine lv_sipush (v := nI 200) E.1 E.2.1 dX3_settledIn_34 (by decide) ?_
    refine lv_icmp_leN (tgt := 45) E.1 E.2.1 (by omega) (by omega) dX3_settledIn_37 (by decide) (fun c37 => ?_) (fun c37 => ?_)
    · skip
      refine lv_iload_n E.1 E.2.1 dX3_settledIn_45 rfl (lv_at hl 0 rfl) ?_
      exact rI E hr hlk (HB.eq hw (rfl)) (by rw [if_neg (by omega)]) dX3_settledIn_46
    · skip
      refine lv_bipush (v := -6) E.1 E.2.1 dX3_settledIn_40 (by decide) ?_
      refine lv_goto (tgt := 46) E.1 E.2.1 dX3_settledIn_42 (by decide) ?_
      exact rI E hr hlk (HB.eq hw (rfl)) (by rw [if_pos (by omega)]) dX3_settledIn_46
  · exact absurd (in0 (by omega) (by omega)) c8
theorem YX3_underwayIn : YV yX3_underwayIn RX3 cX3_underwayIn 3 (some .int) 1 := ⟨mw_24_23, mw_25_0, mw_1_2, mw_25_1, by decide +kernel⟩
set_option maxHeartbeats 4000000 in
set_option maxRecDepth 100000 in
theorem c_X3_underwayIn_bad (l : Launch) (G : GP) (b : Nat → Nat) (ad : Nat → Nat → Nat) (v pd rv : Nat → Int32) (Ns : Nat → NS) (e : Int32) (h : ¬ (nI 1 ≤ e ∧ e ≤ nI 50)) : MI l yX3_underwayIn (.code yX3_underwayIn cX3_underwayIn 3 (some .int) :: GW) ({ frames := 0, cells := 0, slots := 0, locals := 0 }) [.ref (b 0), .int (e)] G ES (cW G b ad (v) (pd) (rv) (Ns)) (cW G b ad (v) (pd) (rv) (Ns)) (-2) := by
  refine MI.of (own := RX3) rfl rfl (Nat.le_of_ble_eq_true rfl) ?_
  intro pP eE sS mM below meth cC ls AA E hw hl hr hlk hE
  replace hl : lv_has ls 3 [(0, .ref (b 0)), (1, .int (e))] := hl
  refine lv_iload_n E.1 E.2.1 dX3_underwayIn_0 rfl (lv_at hl 1 rfl) ?_
  refine lv_iconst (v := nI 1) E.1 E.2.1 dX3_underwayIn_1 (by decide) ?_
  refine lv_icmp_lt (tgt := 11) E.1 E.2.1 dX3_underwayIn_2 (by decide) (fun c2 => ?_) (fun c2 => ?_)
  · skip
    refine lv_bipush (v := -2) E.1 E.2.1 dX3_underwayIn_11 (by decide) ?_
    exact rI E hr hlk (HB.eq hw (rfl)) (rfl) dX3_underwayIn_13
  · skip
    refine lv_iload_n E.1 E.2.1 dX3_underwayIn_5 rfl (lv_at hl 1 rfl) ?_
    refine lv_bipush (v := nI 50) E.1 E.2.1 dX3_underwayIn_6 (by decide) ?_
    refine lv_icmp_le (tgt := 14) E.1 E.2.1 dX3_underwayIn_8 (by decide) (fun c8 => ?_) (fun c8 => ?_)
    · exact absurd ⟨Int32.not_lt.mp c2, c8⟩ h
    · skip
      refine lv_bipush (v := -2) E.1 E.2.1 dX3_underwayIn_11 (by decide) ?_
      exact rI E hr hlk (HB.eq hw (rfl)) (rfl) dX3_underwayIn_13
set_option maxHeartbeats 4000000 in
set_option maxRecDepth 100000 in
theorem c_X3_underwayIn_ok (l : Launch) (G : GP) (b : Nat → Nat) (ad : Nat → Nat → Nat) (v pd rv : Nat → Int32) (Ns : Nat → NS) (t : Nat) (ht : 1 ≤ t ∧ t ≤ 50) (hI : Inv (Ns 0)) : MI l yX3_underwayIn (.code yX3_underwayIn cX3_underwayIn 3 (some .int) :: GW) ({ frames := 5, cells := 0, slots := 0, locals := 119 }) [.ref (b 0), .int (nI (t))] G ES (cW G b ad (v) (pd) (rv) (Ns)) (cW G b ad (v) (pd) (rv) (va_up (Ns) 1 (mRnds t (Ns 0)))) (nI (mRnds t (Ns 0) 6)) := by
  refine MI.of (own := RX3) rfl rfl (Nat.le_of_ble_eq_true rfl) ?_
  intro pP eE sS mM below meth cC ls AA E hw hl hr hlk hE
  replace hl : lv_has ls 3 [(0, .ref (b 0)), (1, .int (nI (t)))] := hl
  refine lv_iload_n E.1 E.2.1 dX3_underwayIn_0 rfl (lv_at hl 1 rfl) ?_
  refine lv_iconst (v := nI 1) E.1 E.2.1 dX3_underwayIn_1 (by decide) ?_
  refine lv_icmp_ltN (tgt := 11) E.1 E.2.1 (by omega) (by omega) dX3_underwayIn_2 (by decide) (fun c2 => ?_) (fun c2 => ?_)
  · omega
  · skip
    refine lv_iload_n E.1 E.2.1 dX3_underwayIn_5 rfl (lv_at hl 1 rfl) ?_
    refine lv_bipush (v := nI 50) E.1 E.2.1 dX3_underwayIn_6 (by decide) ?_
    refine lv_icmp_leN (tgt := 14) E.1 E.2.1 (by omega) (by omega) dX3_underwayIn_8 (by decide) (fun c8 => ?_) (fun c8 => ?_)
    · skip
      refine lv_aload_n E.1 E.2.1 dX3_underwayIn_14 rfl (lv_at hl 0 rfl) ?_
      refine gX3_1 E hw mw_1_17 dX3_underwayIn_15 ?_
      refine lv_aload_n E.1 E.2.1 dX3_underwayIn_18 rfl (lv_at hl 0 rfl) ?_
      refine gX3_0 E hw mw_1_16 dX3_underwayIn_19 ?_
      refine callVVp E (c_X2_copyN l G (ad 1) (ad 0) (Ns 1) (Ns 0)) ES.eb (fun _ _ _ => trivial) mw_4_1 YX2_copyFrom ⟨rfl, rfl⟩ ⟨Nat.le_of_ble_eq_true rfl, Nat.le_of_ble_eq_true rfl⟩ ⟨Nat.zero_le _, Nat.zero_le _⟩ hw (cW_20 (by omega) (by omega) (by omega)) (cW_21 (Ns 0) (by omega) (by omega) (by omega)) 0 rfl rfl rfl hl rfl (Nat.le_of_ble_eq_true rfl) dX3_underwayIn_22 (fun H locs hw => ?_)
      refine lv_iconst (v := nI 0) E.1 E.2.1 dX3_underwayIn_25 (by decide) ?_
      refine lv_istore_n (lv' := [(2, .int (nI (0))), (0, .ref (b 0)), (1, .int (nI (t)))]) E.1 E.2.1 dX3_underwayIn_26 rfl hl (by decide) rfl (fun ls hl => ?_)
      refine W_ind1 (nL := 3) (P := fun k => k ≤ t) (μ := fun k => t - k) (I := fun k => cW G b ad (v) (pd) (rv) (va_up (Ns) 1 (mRnds k (Ns 0)))) (L := fun k => [(0, .ref (b 0)), (1, .int (nI (t))), (2, .int (nI (k)))]) ?_ (0) (Nat.zero_le _) (HB.eq hw (rfl)) (lvh_eq (l := [(0, .ref (b 0)), (1, .int (nI (t))), (2, .int (nI (0)))]) (lv_sub hl [1, 2, 0] rfl) (rfl))
      intro k hP ih H locs ls hw hl
      replace hw : HB G AA sS.heap (cW G b ad (v) (pd) (rv) (va_up (Ns) 1 (mRnds k (Ns 0)))) H locs := hw
      replace hl : lv_has ls 3 [(0, .ref (b 0)), (1, .int (nI (t))), (2, .int (nI (k)))] := hl
      refine lv_iload_n E.1 E.2.1 dX3_underwayIn_27 rfl (lv_at hl 2 rfl) ?_
      refine lv_iload_n E.1 E.2.1 dX3_underwayIn_28 rfl (lv_at hl 1 rfl) ?_
      refine lv_icmp_geN (tgt := 45) E.1 E.2.1 (by omega) (by omega) dX3_underwayIn_29 (by decide) (fun c29 => ?_) (fun c29 => ?_)
      · skip
        refine lv_aload_n E.1 E.2.1 dX3_underwayIn_45 rfl (lv_at hl 0 rfl) ?_
        refine gX3_1 E hw mw_1_17 dX3_underwayIn_46 ?_
        refine gS2_5 E hw (by omega) mw_19_14 dX3_underwayIn_49 ?_
        refine gS1_0 E hw (by omega) mw_25_2 dX3_underwayIn_52 ?_
        refine lv_eqi (y := nI (mRnds k (Ns 0) 6)) (congrArg nI (congrFun (va_up_self Ns 1 (mRnds k (Ns 0))) 6)) ?_
        exact rI E hr hlk (HB.eq hw (by rw [show k = t by omega])) (by rw [show k = t by omega]) dX3_underwayIn_55
      · skip
        refine lv_aload_n E.1 E.2.1 dX3_underwayIn_32 rfl (lv_at hl 0 rfl) ?_
        refine gX3_1 E hw mw_1_17 dX3_underwayIn_33 ?_
        refine callVVp E (c_X2_passRound l G (ad 1) (mRnds k (Ns 0)) (hI.rnds k)) ES.eb (fun _ _ _ => trivial) mw_25_3 YX2_passRound ⟨rfl, rfl⟩ ⟨Nat.le_of_ble_eq_true rfl, Nat.le_of_ble_eq_true rfl⟩ ⟨Nat.zero_le _, Nat.zero_le _⟩ hw (cW_p0 (va_up_self _ _ _) (by omega)) (cW_p (mRound (mRnds k (Ns 0))) (by omega)) 0 rfl rfl rfl hl rfl (Nat.le_of_ble_eq_true rfl) dX3_underwayIn_36 (fun H locs hw => ?_)
        refine lv_iincN (k := 2) (lv' := [(2, .int (nI (k + 1))), (0, .ref (b 0)), (1, .int (nI (t)))]) E.1 E.2.1 dX3_underwayIn_39 hl rfl (by decide) rfl (fun ls hl => ?_)
        refine lv_goto (tgt := 27) E.1 E.2.1 dX3_underwayIn_42 (by decide) ?_
        exact ih (k + 1) (by omega) (by omega) _ _ _ (HB.eq hw (by rw [va_uu]; rfl)) (lvh_eq (l := [(0, .ref (b 0)), (1, .int (nI (t))), (2, .int (nI (k + 1)))]) (lv_sub hl [1, 2, 0] rfl) (rfl))
    · omega
theorem YX3_worstLoss : YV yX3_worstLoss RX3 cX3_worstLoss 7 (some .int) 2 := ⟨mw_25_9, mw_25_10, mw_1_2, mw_25_11, by decide +kernel⟩
set_option maxHeartbeats 4000000 in
set_option maxRecDepth 100000 in
theorem c_X3_worstLoss_bad1 (l : Launch) (G : GP) (b : Nat → Nat) (ad : Nat → Nat → Nat) (v pd rv : Nat → Int32) (Ns : Nat → NS) (e : Int32) (h : ¬ (0 ≤ e ∧ e < nI (Ns 0 5))) (w : Int32) : MI l yX3_worstLoss (.code yX3_worstLoss cX3_worstLoss 7 (some .int) :: GW) ({ frames := 1, cells := 0, slots := 0, locals := 21 }) [.ref (b 0), .int (e), .int (w)] G ES (cW G b ad (v) (pd) (rv) (Ns)) (cW G b ad (v) (pd) (rv) (Ns)) (-1) := by
  refine MI.of (own := RX3) rfl rfl (Nat.le_of_ble_eq_true rfl) ?_
  intro pP eE sS mM below meth cC ls AA E hw hl hr hlk hE
  replace hl : lv_has ls 7 [(0, .ref (b 0)), (1, .int (e)), (2, .int (w))] := hl
  refine lv_aload_n E.1 E.2.1 dX3_worstLoss_0 rfl (lv_at hl 0 rfl) ?_
  refine gX3_0 E hw mw_1_16 dX3_worstLoss_1 ?_
  refine lv_iload_n E.1 E.2.1 dX3_worstLoss_4 rfl (lv_at hl 1 rfl) ?_
  refine callVIp E (c_X2_isDeal l G (ad 0) (Ns 0) (e)) ES.eb (fun _ _ _ => trivial) mw_23_8 YX2_isDeal ⟨rfl, rfl⟩ ⟨Nat.le_of_ble_eq_true rfl, Nat.le_of_ble_eq_true rfl⟩ ⟨Nat.zero_le _, Nat.zero_le _⟩ hw (cW_p0 (rfl) (by omega)) (cW_p0 (rfl) (by omega)) 0 rfl rfl rfl hl rfl (Nat.le_of_ble_eq_true rfl) dX3_worstLoss_5 (fun H locs hw => ?_)
  refine lv_if_neB (tgt := 13) E.1 E.2.1 dX3_worstLoss_8 (by decide) (fun c8 => ?_) (fun c8 => ?_)
  · exact absurd c8 h
  · skip
    refine lv_iconst (v := -1) E.1 E.2.1 dX3_worstLoss_11 (by decide) ?_
    exact rI E hr hlk (HB.eq hw (rfl)) (rfl) dX3_worstLoss_12
set_option maxHeartbeats 4000000 in
set_option maxRecDepth 100000 in
theorem c_X3_worstLoss_bad2 (l : Launch) (G : GP) (b : Nat → Nat) (ad : Nat → Nat → Nat) (v pd rv : Nat → Int32) (Ns : Nat → NS) (d : Nat) (hd : d < Ns 0 5) (hI : Inv (Ns 0)) (w : Int32) (h : ¬ (nI 0 ≤ w ∧ w ≤ nI 1)) : MI l yX3_worstLoss (.code yX3_worstLoss cX3_worstLoss 7 (some .int) :: GW) ({ frames := 1, cells := 0, slots := 0, locals := 21 }) [.ref (b 0), .int (nI (d)), .int (w)] G ES (cW G b ad (v) (pd) (rv) (Ns)) (cW G b ad (v) (pd) (rv) (Ns)) (-2) := by
  refine MI.of (own := RX3) rfl rfl (Nat.le_of_ble_eq_true rfl) ?_
  intro pP eE sS mM below meth cC ls AA E hw hl hr hlk hE
  replace hl : lv_has ls 7 [(0, .ref (b 0)), (1, .int (nI (d))), (2, .int (w))] := hl
  have h5 := hI.1.2.1
  have h6 := hI.1.1
  have hd8 : d < 8 := by omega
  refine lv_aload_n E.1 E.2.1 dX3_worstLoss_0 rfl (lv_at hl 0 rfl) ?_
  refine gX3_0 E hw mw_1_16 dX3_worstLoss_1 ?_
  refine lv_iload_n E.1 E.2.1 dX3_worstLoss_4 rfl (lv_at hl 1 rfl) ?_
  refine callVIp E (c_X2_isDeal l G (ad 0) (Ns 0) (nI d)) ES.eb (fun _ _ _ => trivial) mw_23_8 YX2_isDeal ⟨rfl, rfl⟩ ⟨Nat.le_of_ble_eq_true rfl, Nat.le_of_ble_eq_true rfl⟩ ⟨Nat.zero_le _, Nat.zero_le _⟩ hw (cW_p0 (rfl) (by omega)) (cW_p0 (rfl) (by omega)) 0 rfl rfl rfl hl rfl (Nat.le_of_ble_eq_true rfl) dX3_worstLoss_5 (fun H locs hw => ?_)
  refine lv_if_neB (tgt := 13) E.1 E.2.1 dX3_worstLoss_8 (by decide) (fun c8 => ?_) (fun c8 => ?_)
  · skip
    refine lv_iload_n E.1 E.2.1 dX3_worstLoss_13 rfl (lv_at hl 2 rfl) ?_
    refine lv_if_eq (tgt := 25) E.1 E.2.1 dX3_worstLoss_14 (by decide) (fun c14 => ?_) (fun c14 => ?_)
    · exact absurd (by rw [c14]; decide) h
    · skip
      refine lv_iload_n E.1 E.2.1 dX3_worstLoss_17 rfl (lv_at hl 2 rfl) ?_
      refine lv_iconst (v := nI 1) E.1 E.2.1 dX3_worstLoss_18 (by decide) ?_
      refine lv_icmp_eq (tgt := 25) E.1 E.2.1 dX3_worstLoss_19 (by decide) (fun c19 => ?_) (fun c19 => ?_)
      · exact absurd (by rw [c19]; decide) h
      · skip
        refine lv_bipush (v := -2) E.1 E.2.1 dX3_worstLoss_22 (by decide) ?_
        exact rI E hr hlk (HB.eq hw (rfl)) (rfl) dX3_worstLoss_24
  · exact absurd (in0 (by omega) (by omega)) c8
theorem YX3_wipe : YV yX3_wipe RX3 cX3_wipe 2 (some .int) 0 := ⟨mw_26_9, mw_26_10, mw_1_2, mw_26_11, by decide +kernel⟩
set_option maxHeartbeats 4000000 in
set_option maxRecDepth 100000 in
theorem c_X3_wipe (l : Launch) (G : GP) (b : Nat → Nat) (ad : Nat → Nat → Nat) (v pd rv : Nat → Int32) (Ns : Nat → NS) (pl : Nat) (hl0 : v 3 = nI pl) : MI l yX3_wipe (.code yX3_wipe cX3_wipe 2 (some .int) :: GW) ({ frames := 0, cells := 0, slots := 0, locals := 0 }) [.ref (b 0)] G ES (cW G b ad (v) (pd) (rv) (Ns)) (cW G b ad (upd v 3 (nI 0)) (pd) (rv) (Ns)) (nI pl) := by
  refine MI.of (own := RX3) rfl rfl (Nat.le_of_ble_eq_true rfl) ?_
  intro pP eE sS mM below meth cC ls AA E hw hl hr hlk hE
  replace hl : lv_has ls 2 [(0, .ref (b 0))] := hl
  refine lv_aload_n E.1 E.2.1 dX3_wipe_0 rfl (lv_at hl 0 rfl) ?_
  refine gX3_8 E hw mw_21_2 dX3_wipe_1 ?_
  refine lv_eqi (y := nI (pl)) (hl0) ?_
  refine lv_istore_n (lv' := [(1, .int (nI (pl))), (0, .ref (b 0))]) E.1 E.2.1 dX3_wipe_4 rfl hl (by decide) rfl (fun ls hl => ?_)
  refine lv_aload_n E.1 E.2.1 dX3_wipe_5 rfl (lv_at hl 1 rfl) ?_
  refine lv_iconst (v := nI 0) E.1 E.2.1 dX3_wipe_6 (by decide) ?_
  refine pX3_8 E hw mw_21_2 dX3_wipe_7 (fun H locs hw => ?_)
  refine lv_iload_n E.1 E.2.1 dX3_wipe_10 rfl (lv_at hl 0 rfl) ?_
  exact rI E hr hlk (HB.eq hw (rfl)) (rfl) dX3_wipe_11
theorem YX3_undo : YV yX3_undo RX3 cX3_undo 1 (some .int) 0 := ⟨mw_31_11, mw_31_12, mw_1_2, mw_31_13, by decide +kernel⟩
set_option maxHeartbeats 4000000 in
set_option maxRecDepth 100000 in
theorem c_X3_undo_bad (l : Launch) (G : GP) (b : Nat → Nat) (ad : Nat → Nat → Nat) (v pd rv : Nat → Int32) (Ns : Nat → NS) (hu0 : v 1 = nI 0) : MI l yX3_undo (.code yX3_undo cX3_undo 1 (some .int) :: GW) ({ frames := 0, cells := 0, slots := 0, locals := 0 }) [.ref (b 0)] G ES (cW G b ad (v) (pd) (rv) (Ns)) (cW G b ad (v) (pd) (rv) (Ns)) (-5) := by
  refine MI.of (own := RX3) rfl rfl (Nat.le_of_ble_eq_true rfl) ?_
  intro pP eE sS mM below meth cC ls AA E hw hl hr hlk hE
  replace hl : lv_has ls 1 [(0, .ref (b 0))] := hl
  refine lv_aload_n E.1 E.2.1 dX3_undo_0 rfl (lv_at hl 0 rfl) ?_
  refine gX3_4 E hw mw_5_4 dX3_undo_1 ?_
  refine lv_eqi (y := nI (0)) (hu0) ?_
  refine lv_if_neN (tgt := 10) E.1 E.2.1 (by omega) dX3_undo_4 (by decide) (fun c4 => ?_) (fun c4 => ?_)
  · exact absurd c4 (by decide)
  · skip
    refine lv_bipush (v := -5) E.1 E.2.1 dX3_undo_7 (by decide) ?_
    exact rI E hr hlk (HB.eq hw (rfl)) (rfl) dX3_undo_9
set_option maxHeartbeats 4000000 in
set_option maxRecDepth 100000 in
theorem c_X3_undo_ok (l : Launch) (G : GP) (b : Nat → Nat) (ad : Nat → Nat → Nat) (v pd rv : Nat → Int32) (Ns : Nat → NS) (nx u : Nat) (hx0 : v 0 = nI nx) (hnx : nx < 7) (hu0 : v 1 = nI u) (hu6 : u ≤ 6) (h : 0 < u) : MI l yX3_undo (.code yX3_undo cX3_undo 1 (some .int) :: GW) ({ frames := 3, cells := 0, slots := 0, locals := 60 }) [.ref (b 0)] G ES (cW G b ad (v) (pd) (rv) (Ns)) (cW G b ad (upd (upd v 0 (nI (if nx = 0 then 6 else nx - 1))) 1 (nI (u - 1))) (pd) (rv) (va_up Ns 0 (Ns (2 + (if nx = 0 then 6 else nx - 1))))) (nI (u - 1)) := by
  refine MI.of (own := RX3) rfl rfl (Nat.le_of_ble_eq_true rfl) ?_
  intro pP eE sS mM below meth cC ls AA E hw hl hr hlk hE
  replace hl : lv_has ls 1 [(0, .ref (b 0))] := hl
  refine lv_aload_n E.1 E.2.1 dX3_undo_0 rfl (lv_at hl 0 rfl) ?_
  refine gX3_4 E hw mw_5_4 dX3_undo_1 ?_
  refine lv_eqi (y := nI (u)) (hu0) ?_
  refine lv_if_neN (tgt := 10) E.1 E.2.1 (by omega) dX3_undo_4 (by decide) (fun c4 => ?_) (fun c4 => ?_)
  · skip
    refine lv_aload_n E.1 E.2.1 dX3_undo_10 rfl (lv_at hl 0 rfl) ?_
    refine lv_aload_n E.1 E.2.1 dX3_undo_11 rfl (lv_at hl 0 rfl) ?_
    refine gX3_3 E hw mw_4_0 dX3_undo_12 ?_
    refine lv_eqi (y := nI (nx)) (hx0) ?_
    refine lv_if_neN (tgt := 23) E.1 E.2.1 (by omega) dX3_undo_15 (by decide) (fun c15 => ?_) (fun c15 => ?_)
    · skip
      refine lv_aload_n E.1 E.2.1 dX3_undo_23 rfl (lv_at hl 0 rfl) ?_
      refine gX3_3 E hw mw_4_0 dX3_undo_24 ?_
      refine lv_eqi (y := nI (nx)) (hx0) ?_
      refine lv_iconst (v := nI 1) E.1 E.2.1 dX3_undo_27 (by decide) ?_
      refine lv_subN E.1 E.2.1 (by omega) dX3_undo_28 ?_
      refine pX3_3 E hw mw_4_0 dX3_undo_29 (fun H locs hw => ?_)
      refine lv_aload_n E.1 E.2.1 dX3_undo_32 rfl (lv_at hl 0 rfl) ?_
      refine gX3_0 E hw mw_1_16 dX3_undo_33 ?_
      refine lv_aload_n E.1 E.2.1 dX3_undo_36 rfl (lv_at hl 0 rfl) ?_
      refine gX3_2 E hw mw_1_18 dX3_undo_37 ?_
      refine lv_aload_n E.1 E.2.1 dX3_undo_40 rfl (lv_at hl 0 rfl) ?_
      refine gX3_3 E hw mw_4_0 dX3_undo_41 ?_
      refine lv_eqi (y := nI (nx - 1)) (rfl) ?_
      refine lX3_h E hw (by omega) dX3_undo_44 ?_
      refine callVVp E (c_X2_copyN l G (ad 0) (ad (2 + (nx - 1))) (Ns 0) (Ns (2 + (nx - 1)))) ES.eb (fun _ _ _ => trivial) mw_4_1 YX2_copyFrom ⟨rfl, rfl⟩ ⟨Nat.le_of_ble_eq_true rfl, Nat.le_of_ble_eq_true rfl⟩ ⟨Nat.zero_le _, Nat.zero_le _⟩ hw (cW_20 (by omega) (by omega) (by omega)) (cW_21 (Ns (2 + (nx - 1))) (by omega) (by omega) (by omega)) 0 rfl rfl rfl hl rfl (Nat.le_of_ble_eq_true rfl) dX3_undo_45 (fun H locs hw => ?_)
      refine lv_aload_n E.1 E.2.1 dX3_undo_48 rfl (lv_at hl 0 rfl) ?_
      refine lv_dup E.1 E.2.1 dX3_undo_49 rfl ?_
      refine gX3_4 E hw mw_5_4 dX3_undo_50 ?_
      refine lv_eqi (y := nI (u)) (hu0) ?_
      refine lv_iconst (v := nI 1) E.1 E.2.1 dX3_undo_53 (by decide) ?_
      refine lv_subN E.1 E.2.1 (by omega) dX3_undo_54 ?_
      refine pX3_4 E hw mw_5_4 dX3_undo_55 (fun H locs hw => ?_)
      refine lv_aload_n E.1 E.2.1 dX3_undo_58 rfl (lv_at hl 0 rfl) ?_
      refine gX3_4 E hw mw_5_4 dX3_undo_59 ?_
      refine lv_eqi (y := nI (u - 1)) (rfl) ?_
      exact rI E hr hlk (HB.eq hw (by rw [if_neg c15])) (rfl) dX3_undo_62
    · skip
      refine lv_bipush (v := nI 6) E.1 E.2.1 dX3_undo_18 (by decide) ?_
      refine lv_goto (tgt := 29) E.1 E.2.1 dX3_undo_20 (by decide) ?_
      refine pX3_3 E hw mw_4_0 dX3_undo_29 (fun H locs hw => ?_)
      refine lv_aload_n E.1 E.2.1 dX3_undo_32 rfl (lv_at hl 0 rfl) ?_
      refine gX3_0 E hw mw_1_16 dX3_undo_33 ?_
      refine lv_aload_n E.1 E.2.1 dX3_undo_36 rfl (lv_at hl 0 rfl) ?_
      refine gX3_2 E hw mw_1_18 dX3_undo_37 ?_
      refine lv_aload_n E.1 E.2.1 dX3_undo_40 rfl (lv_at hl 0 rfl) ?_
      refine gX3_3 E hw mw_4_0 dX3_undo_41 ?_
      refine lv_eqi (y := nI (6)) (rfl) ?_
      refine lX3_h E hw (by omega) dX3_undo_44 ?_
      refine callVVp E (c_X2_copyN l G (ad 0) (ad (2 + 6)) (Ns 0) (Ns (2 + 6))) ES.eb (fun _ _ _ => trivial) mw_4_1 YX2_copyFrom ⟨rfl, rfl⟩ ⟨Nat.le_of_ble_eq_true rfl, Nat.le_of_ble_eq_true rfl⟩ ⟨Nat.zero_le _, Nat.zero_le _⟩ hw (cW_20 (by omega) (by omega) (by omega)) (cW_21 (Ns (2 + 6)) (by omega) (by omega) (by omega)) 0 rfl rfl rfl hl rfl (Nat.le_of_ble_eq_true rfl) dX3_undo_45 (fun H locs hw => ?_)
      refine lv_aload_n E.1 E.2.1 dX3_undo_48 rfl (lv_at hl 0 rfl) ?_
      refine lv_dup E.1 E.2.1 dX3_undo_49 rfl ?_
      refine gX3_4 E hw mw_5_4 dX3_undo_50 ?_
      refine lv_eqi (y := nI (u)) (hu0) ?_
      refine lv_iconst (v := nI 1) E.1 E.2.1 dX3_undo_53 (by decide) ?_
      refine lv_subN E.1 E.2.1 (by omega) dX3_undo_54 ?_
      refine pX3_4 E hw mw_5_4 dX3_undo_55 (fun H locs hw => ?_)
      refine lv_aload_n E.1 E.2.1 dX3_undo_58 rfl (lv_at hl 0 rfl) ?_
      refine gX3_4 E hw mw_5_4 dX3_undo_59 ?_
      refine lv_eqi (y := nI (u - 1)) (rfl) ?_
      exact rI E hr hlk (HB.eq hw (by rw [if_pos c15])) (rfl) dX3_undo_62
  · omega
theorem YX3_save : YV yX3_save RX3 cX3_save 2 (some .int) 1 := ⟨mw_31_19, mw_31_20, mw_1_2, mw_31_21, by decide +kernel⟩
set_option maxHeartbeats 4000000 in
set_option maxRecDepth 100000 in
theorem c_X3_save_bad (l : Launch) (G : GP) (b : Nat → Nat) (ad : Nat → Nat → Nat) (v pd rv : Nat → Int32) (Ns : Nat → NS) (e : Int32) (h : ¬ (nI 0 ≤ e ∧ e ≤ nI 1)) : MI l yX3_save (.code yX3_save cX3_save 2 (some .int) :: GW) ({ frames := 0, cells := 0, slots := 0, locals := 0 }) [.ref (b 0), .int (e)] G ES (cW G b ad (v) (pd) (rv) (Ns)) (cW G b ad (v) (pd) (rv) (Ns)) (-2) := by
  refine MI.of (own := RX3) rfl rfl (Nat.le_of_ble_eq_true rfl) ?_
  intro pP eE sS mM below meth cC ls AA E hw hl hr hlk hE
  replace hl : lv_has ls 2 [(0, .ref (b 0)), (1, .int (e))] := hl
  refine lv_iload_n E.1 E.2.1 dX3_save_0 rfl (lv_at hl 1 rfl) ?_
  refine lv_if_lt (tgt := 9) E.1 E.2.1 dX3_save_1 (by decide) (fun c1 => ?_) (fun c1 => ?_)
  · skip
    refine lv_bipush (v := -2) E.1 E.2.1 dX3_save_9 (by decide) ?_
    exact rI E hr hlk (HB.eq hw (rfl)) (rfl) dX3_save_11
  · skip
    refine lv_iload_n E.1 E.2.1 dX3_save_4 rfl (lv_at hl 1 rfl) ?_
    refine lv_iconst (v := nI 2) E.1 E.2.1 dX3_save_5 (by decide) ?_
    refine lv_icmp_lt (tgt := 12) E.1 E.2.1 dX3_save_6 (by decide) (fun c6 => ?_) (fun c6 => ?_)
    · exact absurd ⟨Int32.not_lt.mp c1, lt2_le1 c6⟩ h
    · skip
      refine lv_bipush (v := -2) E.1 E.2.1 dX3_save_9 (by decide) ?_
      exact rI E hr hlk (HB.eq hw (rfl)) (rfl) dX3_save_11
set_option maxHeartbeats 4000000 in
set_option maxRecDepth 100000 in
theorem c_X3_save_ok (l : Launch) (G : GP) (b : Nat → Nat) (ad : Nat → Nat → Nat) (v pd rv : Nat → Int32) (Ns : Nat → NS) (sv : Nat) (hs0 : v 2 = nI sv) (s : Nat) (hs : s < 2) : MI l yX3_save (.code yX3_save cX3_save 2 (some .int) :: GW) ({ frames := 3, cells := 0, slots := 0, locals := 60 }) [.ref (b 0), .int (nI (s))] G ES (cW G b ad (v) (pd) (rv) (Ns)) (cW G b ad (upd v 2 (nI (sv ||| 2 ^ s))) (pd) (rv) (va_up Ns (9 + s) (Ns 0))) (nI (Ns 0 4)) := by
  refine MI.of (own := RX3) rfl rfl (Nat.le_of_ble_eq_true rfl) ?_
  intro pP eE sS mM below meth cC ls AA E hw hl hr hlk hE
  replace hl : lv_has ls 2 [(0, .ref (b 0)), (1, .int (nI (s)))] := hl
  refine lv_iload_n E.1 E.2.1 dX3_save_0 rfl (lv_at hl 1 rfl) ?_
  refine lv_if_ltN (tgt := 9) E.1 E.2.1 (by omega) dX3_save_1 (by decide) (fun c1 => ?_) (fun c1 => ?_)
  · omega
  · skip
    refine lv_iload_n E.1 E.2.1 dX3_save_4 rfl (lv_at hl 1 rfl) ?_
    refine lv_iconst (v := nI 2) E.1 E.2.1 dX3_save_5 (by decide) ?_
    refine lv_icmp_ltN (tgt := 12) E.1 E.2.1 (by omega) (by omega) dX3_save_6 (by decide) (fun c6 => ?_) (fun c6 => ?_)
    · skip
      refine lv_aload_n E.1 E.2.1 dX3_save_12 rfl (lv_at hl 0 rfl) ?_
      refine gX3_5 E hw mw_1_19 dX3_save_13 ?_
      refine lv_iload_n E.1 E.2.1 dX3_save_16 rfl (lv_at hl 1 rfl) ?_
      refine lX3_s E hw (by omega) dX3_save_17 ?_
      refine lv_aload_n E.1 E.2.1 dX3_save_18 rfl (lv_at hl 0 rfl) ?_
      refine gX3_0 E hw mw_1_16 dX3_save_19 ?_
      refine callVVp E (c_X2_copyN l G (ad (9 + s)) (ad 0) (Ns (9 + s)) (Ns 0)) ES.eb (fun _ _ _ => trivial) mw_4_1 YX2_copyFrom ⟨rfl, rfl⟩ ⟨Nat.le_of_ble_eq_true rfl, Nat.le_of_ble_eq_true rfl⟩ ⟨Nat.zero_le _, Nat.zero_le _⟩ hw (cW_20 (by omega) (by omega) (by omega)) (cW_21 (Ns 0) (by omega) (by omega) (by omega)) 0 rfl rfl rfl hl rfl (Nat.le_of_ble_eq_true rfl) dX3_save_22 (fun H locs hw => ?_)
      refine lv_aload_n E.1 E.2.1 dX3_save_25 rfl (lv_at hl 0 rfl) ?_
      refine lv_dup E.1 E.2.1 dX3_save_26 rfl ?_
      refine gX3_6 E hw mw_31_22 dX3_save_27 ?_
      refine lv_eqi (y := nI (sv)) (hs0) ?_
      refine lv_iconst (v := nI 1) E.1 E.2.1 dX3_save_30 (by decide) ?_
      refine lv_iload_n E.1 E.2.1 dX3_save_31 rfl (lv_at hl 1 rfl) ?_
      refine lv_ishl E.1 E.2.1 dX3_save_32 (lv_eqi (y := nI (2 ^ s)) (shl_1 _ (by omega)) ?_)
      refine lv_ior E.1 E.2.1 dX3_save_33 (lv_eqi (y := nI (sv ||| 2 ^ s)) (or_nI _ _) ?_)
      refine pX3_6 E hw mw_31_22 dX3_save_34 (fun H locs hw => ?_)
      refine lv_aload_n E.1 E.2.1 dX3_save_37 rfl (lv_at hl 0 rfl) ?_
      refine gX3_0 E hw mw_1_16 dX3_save_38 ?_
      refine gS2_0 E hw (by omega) mw_31_23 dX3_save_41 ?_
      refine lv_eqi (y := nI (Ns 0 4)) (congrArg nI (congrFun (va_up_ne Ns (Ns 0) (by omega : 0 ≠ 9 + s)) 4)) ?_
      exact rI E hr hlk (HB.eq hw (rfl)) (rfl) dX3_save_44
    · omega
theorem YX3_restore : YV yX3_restore RX3 cX3_restore 2 (some .int) 1 := ⟨mw_32_5, mw_32_6, mw_1_2, mw_32_7, by decide +kernel⟩
set_option maxHeartbeats 4000000 in
set_option maxRecDepth 100000 in
theorem c_X3_restore_bad (l : Launch) (G : GP) (b : Nat → Nat) (ad : Nat → Nat → Nat) (v pd rv : Nat → Int32) (Ns : Nat → NS) (e : Int32) (h : ¬ (nI 0 ≤ e ∧ e ≤ nI 1)) : MI l yX3_restore (.code yX3_restore cX3_restore 2 (some .int) :: GW) ({ frames := 0, cells := 0, slots := 0, locals := 0 }) [.ref (b 0), .int (e)] G ES (cW G b ad (v) (pd) (rv) (Ns)) (cW G b ad (v) (pd) (rv) (Ns)) (-2) := by
  refine MI.of (own := RX3) rfl rfl (Nat.le_of_ble_eq_true rfl) ?_
  intro pP eE sS mM below meth cC ls AA E hw hl hr hlk hE
  replace hl : lv_has ls 2 [(0, .ref (b 0)), (1, .int (e))] := hl
  refine lv_iload_n E.1 E.2.1 dX3_restore_0 rfl (lv_at hl 1 rfl) ?_
  refine lv_if_lt (tgt := 9) E.1 E.2.1 dX3_restore_1 (by decide) (fun c1 => ?_) (fun c1 => ?_)
  · skip
    refine lv_bipush (v := -2) E.1 E.2.1 dX3_restore_9 (by decide) ?_
    exact rI E hr hlk (HB.eq hw (rfl)) (rfl) dX3_restore_11
  · skip
    refine lv_iload_n E.1 E.2.1 dX3_restore_4 rfl (lv_at hl 1 rfl) ?_
    refine lv_iconst (v := nI 2) E.1 E.2.1 dX3_restore_5 (by decide) ?_
    refine lv_icmp_lt (tgt := 12) E.1 E.2.1 dX3_restore_6 (by decide) (fun c6 => ?_) (fun c6 => ?_)
    · exact absurd ⟨Int32.not_lt.mp c1, lt2_le1 c6⟩ h
    · skip
      refine lv_bipush (v := -2) E.1 E.2.1 dX3_restore_9 (by decide) ?_
      exact rI E hr hlk (HB.eq hw (rfl)) (rfl) dX3_restore_11
set_option maxHeartbeats 4000000 in
set_option maxRecDepth 100000 in
theorem c_X3_restore_none (l : Launch) (G : GP) (b : Nat → Nat) (ad : Nat → Nat → Nat) (v pd rv : Nat → Int32) (Ns : Nat → NS) (sv : Nat) (hs0 : v 2 = nI sv) (hsv : sv < 4) (s : Nat) (hs : s < 2) (h : ¬ sv.testBit s = true) : MI l yX3_restore (.code yX3_restore cX3_restore 2 (some .int) :: GW) ({ frames := 1, cells := 0, slots := 0, locals := 21 }) [.ref (b 0), .int (nI (s))] G ES (cW G b ad (v) (pd) (rv) (Ns)) (cW G b ad (v) (pd) (rv) (Ns)) (-5) := by
  refine MI.of (own := RX3) rfl rfl (Nat.le_of_ble_eq_true rfl) ?_
  intro pP eE sS mM below meth cC ls AA E hw hl hr hlk hE
  replace hl : lv_has ls 2 [(0, .ref (b 0)), (1, .int (nI (s)))] := hl
  refine lv_iload_n E.1 E.2.1 dX3_restore_0 rfl (lv_at hl 1 rfl) ?_
  refine lv_if_ltN (tgt := 9) E.1 E.2.1 (by omega) dX3_restore_1 (by decide) (fun c1 => ?_) (fun c1 => ?_)
  · omega
  · skip
    refine lv_iload_n E.1 E.2.1 dX3_restore_4 rfl (lv_at hl 1 rfl) ?_
    refine lv_iconst (v := nI 2) E.1 E.2.1 dX3_restore_5 (by decide) ?_
    refine lv_icmp_ltN (tgt := 12) E.1 E.2.1 (by omega) (by omega) dX3_restore_6 (by decide) (fun c6 => ?_) (fun c6 => ?_)
    · skip
      refine lv_aload_n E.1 E.2.1 dX3_restore_12 rfl (lv_at hl 0 rfl) ?_
      refine gX3_6 E hw mw_31_22 dX3_restore_13 ?_
      refine lv_eqi (y := nI (sv)) (hs0) ?_
      refine lv_iload_n E.1 E.2.1 dX3_restore_16 rfl (lv_at hl 1 rfl) ?_
      refine callSI E (c_X3_isIn l G sv s (by omega) (by omega)) mw_32_8 YX3_isIn ⟨rfl, rfl⟩ ⟨Nat.le_of_ble_eq_true rfl, Nat.le_of_ble_eq_true rfl⟩ ⟨Nat.zero_le _, Nat.zero_le _⟩ hw (w := []) (w' := []) (rr := cW G b ad (v) (pd) (rv) (Ns)) (big' := cW G b ad (v) (pd) (rv) (Ns)) (List.Perm.refl _) (List.Perm.refl _) rfl hl rfl (Nat.le_of_ble_eq_true rfl) dX3_restore_17 (fun H locs hw => ?_)
      refine lv_if_neB (tgt := 26) E.1 E.2.1 dX3_restore_20 (by decide) (fun c20 => ?_) (fun c20 => ?_)
      · exact absurd c20 h
      · skip
        refine lv_bipush (v := -5) E.1 E.2.1 dX3_restore_23 (by decide) ?_
        exact rI E hr hlk (HB.eq hw (rfl)) (rfl) dX3_restore_25
    · omega
set_option maxHeartbeats 4000000 in
set_option maxRecDepth 100000 in
theorem c_X3_restore_ok (l : Launch) (G : GP) (b : Nat → Nat) (ad : Nat → Nat → Nat) (v pd rv : Nat → Int32) (Ns : Nat → NS) (nx u : Nat) (hx0 : v 0 = nI nx) (hnx : nx < 7) (hu0 : v 1 = nI u) (hu6 : u ≤ 6) (sv : Nat) (hs0 : v 2 = nI sv) (hsv : sv < 4) (s : Nat) (hs : s < 2) (h : sv.testBit s = true) (h4 : Ns (9 + s) 4 < 2 ^ 31) : MI l yX3_restore (.code yX3_restore cX3_restore 2 (some .int) :: GW) ({ frames := 4, cells := 0, slots := 0, locals := 80 }) [.ref (b 0), .int (nI (s))] G ES (cW G b ad (v) (pd) (rv) (Ns)) (cW G b ad (recV nx u v) (pd) (rv) (va_up (va_up (Ns) (2 + nx) (Ns 0)) 0 (Ns (9 + s)))) (nI (Ns (9 + s) 4)) := by
  refine MI.of (own := RX3) rfl rfl (Nat.le_of_ble_eq_true rfl) ?_
  intro pP eE sS mM below meth cC ls AA E hw hl hr hlk hE
  replace hl : lv_has ls 2 [(0, .ref (b 0)), (1, .int (nI (s)))] := hl
  refine lv_iload_n E.1 E.2.1 dX3_restore_0 rfl (lv_at hl 1 rfl) ?_
  refine lv_if_ltN (tgt := 9) E.1 E.2.1 (by omega) dX3_restore_1 (by decide) (fun c1 => ?_) (fun c1 => ?_)
  · omega
  · skip
    refine lv_iload_n E.1 E.2.1 dX3_restore_4 rfl (lv_at hl 1 rfl) ?_
    refine lv_iconst (v := nI 2) E.1 E.2.1 dX3_restore_5 (by decide) ?_
    refine lv_icmp_ltN (tgt := 12) E.1 E.2.1 (by omega) (by omega) dX3_restore_6 (by decide) (fun c6 => ?_) (fun c6 => ?_)
    · skip
      refine lv_aload_n E.1 E.2.1 dX3_restore_12 rfl (lv_at hl 0 rfl) ?_
      refine gX3_6 E hw mw_31_22 dX3_restore_13 ?_
      refine lv_eqi (y := nI (sv)) (hs0) ?_
      refine lv_iload_n E.1 E.2.1 dX3_restore_16 rfl (lv_at hl 1 rfl) ?_
      refine callSI E (c_X3_isIn l G sv s (by omega) (by omega)) mw_32_8 YX3_isIn ⟨rfl, rfl⟩ ⟨Nat.le_of_ble_eq_true rfl, Nat.le_of_ble_eq_true rfl⟩ ⟨Nat.zero_le _, Nat.zero_le _⟩ hw (w := []) (w' := []) (rr := cW G b ad (v) (pd) (rv) (Ns)) (big' := cW G b ad (v) (pd) (rv) (Ns)) (List.Perm.refl _) (List.Perm.refl _) rfl hl rfl (Nat.le_of_ble_eq_true rfl) dX3_restore_17 (fun H locs hw => ?_)
      refine lv_if_neB (tgt := 26) E.1 E.2.1 dX3_restore_20 (by decide) (fun c20 => ?_) (fun c20 => ?_)
      · skip
        refine lv_aload_n E.1 E.2.1 dX3_restore_26 rfl (lv_at hl 0 rfl) ?_
        refine callVV E (c_X3_noteStateBefore l G b ad (v) (pd) (rv) (Ns) nx u hx0 hnx hu0 hu6) mw_3_20 YX3_noteStateBefore ⟨rfl, rfl⟩ ⟨Nat.le_of_ble_eq_true rfl, Nat.le_of_ble_eq_true rfl⟩ ⟨Nat.zero_le _, Nat.zero_le _⟩ hw 0 rfl rfl rfl hl rfl (Nat.le_of_ble_eq_true rfl) dX3_restore_27 (fun H locs hw => ?_)
        refine lv_aload_n E.1 E.2.1 dX3_restore_30 rfl (lv_at hl 0 rfl) ?_
        refine gX3_0 E hw mw_1_16 dX3_restore_31 ?_
        refine lv_aload_n E.1 E.2.1 dX3_restore_34 rfl (lv_at hl 0 rfl) ?_
        refine gX3_5 E hw mw_1_19 dX3_restore_35 ?_
        refine lv_iload_n E.1 E.2.1 dX3_restore_38 rfl (lv_at hl 1 rfl) ?_
        refine lX3_s E hw (by omega) dX3_restore_39 ?_
        refine callVVp E (c_X2_copyN l G (ad 0) (ad (9 + s)) ((va_up (Ns) (2 + nx) (Ns 0)) 0) ((va_up (Ns) (2 + nx) (Ns 0)) (9 + s))) ES.eb (fun _ _ _ => trivial) mw_4_1 YX2_copyFrom ⟨rfl, rfl⟩ ⟨Nat.le_of_ble_eq_true rfl, Nat.le_of_ble_eq_true rfl⟩ ⟨Nat.zero_le _, Nat.zero_le _⟩ hw (cW_20 (by omega) (by omega) (by omega)) (cW_21 ((va_up (Ns) (2 + nx) (Ns 0)) (9 + s)) (by omega) (by omega) (by omega)) 0 rfl rfl rfl hl rfl (Nat.le_of_ble_eq_true rfl) dX3_restore_40 (fun H locs hw => ?_)
        replace hw : HB G AA sS.heap (cW G b ad (v) (pd) (rv) (va_up (va_up (Ns) (2 + nx) (Ns 0)) 0 (Ns (9 + s)))) H locs := HB.eq hw (by rw [va_up_ne Ns (Ns 0) (by omega : 9 + s ≠ 2 + nx)])
        refine lv_aload_n E.1 E.2.1 dX3_restore_43 rfl (lv_at hl 0 rfl) ?_
        refine lv_aload_n E.1 E.2.1 dX3_restore_44 rfl (lv_at hl 0 rfl) ?_
        refine gX3_0 E hw mw_1_16 dX3_restore_45 ?_
        refine gS2_0 E hw (by omega) mw_31_23 dX3_restore_48 ?_
        refine lv_eqi (y := nI (Ns (9 + s) 4)) (congrArg nI (congrFun (va_up_self _ 0 (Ns (9 + s))) 4)) ?_
        refine callVI E (c_X3_recorded l G b ad (v) (pd) (rv) (va_up (va_up (Ns) (2 + nx) (Ns 0)) 0 (Ns (9 + s))) nx u hx0 hnx hu0 hu6 (nI (Ns (9 + s) 4)) ((nI_pos (by omega)))) mw_5_0 YX3_recorded ⟨rfl, rfl⟩ ⟨Nat.le_of_ble_eq_true rfl, Nat.le_of_ble_eq_true rfl⟩ ⟨Nat.zero_le _, Nat.zero_le _⟩ hw 0 rfl rfl rfl hl rfl (Nat.le_of_ble_eq_true rfl) dX3_restore_51 (fun H locs hw => ?_)
        exact rI E hr hlk (HB.eq hw (rfl)) (rfl) dX3_restore_54
      · exact absurd h c20
    · omega

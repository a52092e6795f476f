theorem YX4_clerksOf : YV yX4_clerksOf RX4 cX4_clerksOf 5 (some .int) 2 := ⟨mw_18_19, mw_18_20, mw_1_5, mw_18_21, by decide +kernel⟩
set_option maxHeartbeats 4000000 in
set_option maxRecDepth 100000 in
theorem c_X4_clerksOf (l : Launch) (G : GP) (a : Nat → Nat) (N : NS) (x : MX) (d s : Nat) (hd : d < 8) (hs : s < 4) (hF : FI N) : MI l yX4_clerksOf (.code yX4_clerksOf cX4_clerksOf 5 (some .int) :: GW) ({ frames := 2, cells := 0, slots := 0, locals := 44 }) [.ref (a 0), .int (nI (d)), .int (nI (s))] G ES (mN G a (N) (x)) (mN G a (N) (x)) (nI (cOf d s N)) := by
  refine MI.of (own := RX4) rfl rfl (Nat.le_of_ble_eq_true rfl) ?_
  intro pP eE sS mM below meth cC ls AA E hw hl hr hlk hE
  replace hl : lv_has ls 5 [(0, .ref (a 0)), (1, .int (nI (d))), (2, .int (nI (s)))] := hl
  have h0 := hF.f0 hd
  refine lv_iconst (v := nI 0) E.1 E.2.1 dX4_clerksOf_0 (by decide) ?_
  refine lv_istore_n (lv' := [(3, .int (nI (0))), (0, .ref (a 0)), (1, .int (nI (d))), (2, .int (nI (s)))]) E.1 E.2.1 dX4_clerksOf_1 rfl hl (by decide) rfl (fun ls hl => ?_)
  refine lv_iconst (v := nI 0) E.1 E.2.1 dX4_clerksOf_2 (by decide) ?_
  refine lv_istore (lv' := [(4, .int (nI (0))), (3, .int (nI (0))), (0, .ref (a 0)), (1, .int (nI (d))), (2, .int (nI (s)))]) E.1 E.2.1 dX4_clerksOf_3 hl (by decide) rfl (fun ls hl => ?_)
  refine W_ind1 (nL := 5) (P := fun c => c ≤ 4) (μ := fun c => 4 - c) (I := fun c => mN G a (N) (x)) (L := fun c => [(0, .ref (a 0)), (1, .int (nI (d))), (2, .int (nI (s))), (3, .int (nI (cOfI d s N c))), (4, .int (nI (c)))]) ?_ (0) (Nat.zero_le _) (HB.eq hw (rfl)) (lvh_eq (l := [(0, .ref (a 0)), (1, .int (nI (d))), (2, .int (nI (s))), (3, .int (nI (0))), (4, .int (nI (0)))]) (lv_sub hl [2, 3, 4, 1, 0] rfl) (rfl))
  intro c hP ih H locs ls hw hl
  replace hw : HB G AA sS.heap (mN G a (N) (x)) H locs := hw
  replace hl : lv_has ls 5 [(0, .ref (a 0)), (1, .int (nI (d))), (2, .int (nI (s))), (3, .int (nI (cOfI d s N c))), (4, .int (nI (c)))] := hl
  refine lv_iload E.1 E.2.1 dX4_clerksOf_5 (lv_at hl 4 rfl) ?_
  refine lv_iconst (v := nI 4) E.1 E.2.1 dX4_clerksOf_7 (by decide) ?_
  refine lv_icmp_geN (tgt := 52) E.1 E.2.1 (by omega) (by omega) dX4_clerksOf_8 (by decide) (fun c8 => ?_) (fun c8 => ?_)
  · skip
    refine lv_iload_n E.1 E.2.1 dX4_clerksOf_52 rfl (lv_at hl 3 rfl) ?_
    exact rI E hr hlk (HB.eq hw (rfl)) (by rw [show c = 4 by omega]; rfl) dX4_clerksOf_53
  · skip
    have hc : c < 4 := by omega
    refine lv_iload_n E.1 E.2.1 dX4_clerksOf_11 rfl (lv_at hl 3 rfl) ?_
    refine lv_aload_n E.1 E.2.1 dX4_clerksOf_12 rfl (lv_at hl 0 rfl) ?_
    refine lv_iload_n E.1 E.2.1 dX4_clerksOf_13 rfl (lv_at hl 1 rfl) ?_
    refine lv_iload E.1 E.2.1 dX4_clerksOf_14 (lv_at hl 4 rfl) ?_
    refine callVI E (c_X4_isPart l G a (N) (x) d c (N (30 + 14 * d + 0)) (by omega) (by omega) (rfl) (by omega)) mw_15_7 YX4_isPart ⟨rfl, rfl⟩ ⟨Nat.le_of_ble_eq_true rfl, Nat.le_of_ble_eq_true rfl⟩ ⟨Nat.zero_le _, Nat.zero_le _⟩ hw 0 rfl rfl rfl hl rfl (Nat.le_of_ble_eq_true rfl) dX4_clerksOf_16 (fun H locs hw => ?_)
    refine lv_if_eqB (tgt := 43) E.1 E.2.1 dX4_clerksOf_19 (by decide) (fun c19 => ?_) (fun c19 => ?_)
    · skip
      refine lv_iconst (v := nI 0) E.1 E.2.1 dX4_clerksOf_43 (by decide) ?_
      refine lv_ior E.1 E.2.1 dX4_clerksOf_44 (lv_eqi (y := nI (cOfI d s N c ||| 0)) (or_nI _ _) ?_)
      refine lv_istore_n (lv' := [(3, .int (nI (cOfI d s N c ||| 0))), (0, .ref (a 0)), (1, .int (nI (d))), (2, .int (nI (s))), (4, .int (nI (c)))]) E.1 E.2.1 dX4_clerksOf_45 rfl hl (by decide) rfl (fun ls hl => ?_)
      refine lv_iincN (k := 4) (lv' := [(4, .int (nI (c + 1))), (3, .int (nI (cOfI d s N c ||| 0))), (0, .ref (a 0)), (1, .int (nI (d))), (2, .int (nI (s)))]) E.1 E.2.1 dX4_clerksOf_46 hl rfl (by decide) rfl (fun ls hl => ?_)
      refine lv_goto (tgt := 5) E.1 E.2.1 dX4_clerksOf_49 (by decide) ?_
      exact ih (c + 1) (by omega) (by omega) _ _ _ (HB.eq hw (rfl)) (lvh_eq (l := [(0, .ref (a 0)), (1, .int (nI (d))), (2, .int (nI (s))), (3, .int (nI (cOfI d s N c ||| 0))), (4, .int (nI (c + 1)))]) (lv_sub hl [2, 3, 4, 1, 0] rfl) (by rw [cOfI, if_neg (fun z => c19 z.1)]))
    · skip
      have h7 := hF.f6 hd hc
      refine lv_aload_n E.1 E.2.1 dX4_clerksOf_22 rfl (lv_at hl 0 rfl) ?_
      refine lv_iload_n E.1 E.2.1 dX4_clerksOf_23 rfl (lv_at hl 1 rfl) ?_
      refine lv_bipush (v := nI 6) E.1 E.2.1 dX4_clerksOf_24 (by decide) ?_
      refine lv_iload E.1 E.2.1 dX4_clerksOf_26 (lv_at hl 4 rfl) ?_
      refine lv_addN E.1 E.2.1 dX4_clerksOf_28 ?_
      refine callVI E (c_X4_of l G a (N) (x) d (6 + c) (N (30 + 14 * d + (6 + c))) (by omega) (rfl)) mw_12_1 YX4_of ⟨rfl, rfl⟩ ⟨Nat.le_of_ble_eq_true rfl, Nat.le_of_ble_eq_true rfl⟩ ⟨Nat.zero_le _, Nat.zero_le _⟩ hw 0 rfl rfl rfl hl rfl (Nat.le_of_ble_eq_true rfl) dX4_clerksOf_29 (fun H locs hw => ?_)
      refine lv_iload_n E.1 E.2.1 dX4_clerksOf_32 rfl (lv_at hl 2 rfl) ?_
      refine lv_icmp_neN (tgt := 43) E.1 E.2.1 (by omega) (by omega) dX4_clerksOf_33 (by decide) (fun c33 => ?_) (fun c33 => ?_)
      · skip
        refine lv_iconst (v := nI 0) E.1 E.2.1 dX4_clerksOf_43 (by decide) ?_
        refine lv_ior E.1 E.2.1 dX4_clerksOf_44 (lv_eqi (y := nI (cOfI d s N c ||| 0)) (or_nI _ _) ?_)
        refine lv_istore_n (lv' := [(3, .int (nI (cOfI d s N c ||| 0))), (0, .ref (a 0)), (1, .int (nI (d))), (2, .int (nI (s))), (4, .int (nI (c)))]) E.1 E.2.1 dX4_clerksOf_45 rfl hl (by decide) rfl (fun ls hl => ?_)
        refine lv_iincN (k := 4) (lv' := [(4, .int (nI (c + 1))), (3, .int (nI (cOfI d s N c ||| 0))), (0, .ref (a 0)), (1, .int (nI (d))), (2, .int (nI (s)))]) E.1 E.2.1 dX4_clerksOf_46 hl rfl (by decide) rfl (fun ls hl => ?_)
        refine lv_goto (tgt := 5) E.1 E.2.1 dX4_clerksOf_49 (by decide) ?_
        exact ih (c + 1) (by omega) (by omega) _ _ _ (HB.eq hw (rfl)) (lvh_eq (l := [(0, .ref (a 0)), (1, .int (nI (d))), (2, .int (nI (s))), (3, .int (nI (cOfI d s N c ||| 0))), (4, .int (nI (c + 1)))]) (lv_sub hl [2, 3, 4, 1, 0] rfl) (by rw [cOfI, if_neg (fun z => c33 z.2)]))
      · skip
        refine lv_iconst (v := nI 1) E.1 E.2.1 dX4_clerksOf_36 (by decide) ?_
        refine lv_iload E.1 E.2.1 dX4_clerksOf_37 (lv_at hl 4 rfl) ?_
        refine lv_ishl E.1 E.2.1 dX4_clerksOf_39 (lv_eqi (y := nI (2 ^ c)) (shl_1 _ (by omega)) ?_)
        refine lv_goto (tgt := 44) E.1 E.2.1 dX4_clerksOf_40 (by decide) ?_
        refine lv_ior E.1 E.2.1 dX4_clerksOf_44 (lv_eqi (y := nI (cOfI d s N c ||| 2 ^ c)) (or_nI _ _) ?_)
        refine lv_istore_n (lv' := [(3, .int (nI (cOfI d s N c ||| 2 ^ c))), (0, .ref (a 0)), (1, .int (nI (d))), (2, .int (nI (s))), (4, .int (nI (c)))]) E.1 E.2.1 dX4_clerksOf_45 rfl hl (by decide) rfl (fun ls hl => ?_)
        refine lv_iincN (k := 4) (lv' := [(4, .int (nI (c + 1))), (3, .int (nI (cOfI d s N c ||| 2 ^ c))), (0, .ref (a 0)), (1, .int (nI (d))), (2, .int (nI (s)))]) E.1 E.2.1 dX4_clerksOf_46 hl rfl (by decide) rfl (fun ls hl => ?_)
        refine lv_goto (tgt := 5) E.1 E.2.1 dX4_clerksOf_49 (by decide) ?_
        exact ih (c + 1) (by omega) (by omega) _ _ _ (HB.eq hw (rfl)) (lvh_eq (l := [(0, .ref (a 0)), (1, .int (nI (d))), (2, .int (nI (s))), (3, .int (nI (cOfI d s N c ||| 2 ^ c))), (4, .int (nI (c + 1)))]) (lv_sub hl [2, 3, 4, 1, 0] rfl) (by rw [cOfI, if_pos ⟨c19, c33⟩]))
theorem YX4_ofDeal : YV yX4_ofDeal RX4 cX4_ofDeal 3 (some .int) 2 := ⟨mw_18_11, mw_18_12, mw_1_5, mw_18_13, by decide +kernel⟩
set_option maxHeartbeats 4000000 in
set_option maxRecDepth 100000 in
theorem c_X4_ofDeal_bad1 (l : Launch) (G : GP) (a : Nat → Nat) (N : NS) (x : MX) (e : Int32) (h5 : N 5 ≤ 8) (h : ¬ (0 ≤ e ∧ e < nI (N 5))) (w : Int32) : MI l yX4_ofDeal (.code yX4_ofDeal cX4_ofDeal 3 (some .int) :: GW) ({ frames := 2, cells := 0, slots := 0, locals := 43 }) [.ref (a 0), .int (e), .int (w)] G ES (mN G a (N) (x)) (mN G a (N) (x)) (-1) := by
  refine MI.of (own := RX4) rfl rfl (Nat.le_of_ble_eq_true rfl) ?_
  intro pP eE sS mM below meth cC ls AA E hw hl hr hlk hE
  replace hl : lv_has ls 3 [(0, .ref (a 0)), (1, .int (e)), (2, .int (w))] := hl
  refine lv_aload_n E.1 E.2.1 dX4_ofDeal_0 rfl (lv_at hl 0 rfl) ?_
  refine lv_iload_n E.1 E.2.1 dX4_ofDeal_1 rfl (lv_at hl 1 rfl) ?_
  refine callVI E (c_X4_isDeal l G a (N) (x) (e) (by omega)) mw_18_14 YX4_isDeal ⟨rfl, rfl⟩ ⟨Nat.le_of_ble_eq_true rfl, Nat.le_of_ble_eq_true rfl⟩ ⟨Nat.zero_le _, Nat.zero_le _⟩ hw 0 rfl rfl rfl hl rfl (Nat.le_of_ble_eq_true rfl) dX4_ofDeal_2 (fun H locs hw => ?_)
  refine lv_if_neB (tgt := 10) E.1 E.2.1 dX4_ofDeal_5 (by decide) (fun c5 => ?_) (fun c5 => ?_)
  · exact absurd c5 h
  · skip
    refine lv_iconst (v := -1) E.1 E.2.1 dX4_ofDeal_8 (by decide) ?_
    exact rI E hr hlk (HB.eq hw (rfl)) (rfl) dX4_ofDeal_9
set_option maxHeartbeats 4000000 in
set_option maxRecDepth 100000 in
theorem c_X4_ofDeal_bad2 (l : Launch) (G : GP) (a : Nat → Nat) (N : NS) (x : MX) (d : Nat) (hd : d < N 5) (hF : FI N) (w : Int32) (h : ¬ (nI 0 ≤ w ∧ w ≤ nI 8)) : MI l yX4_ofDeal (.code yX4_ofDeal cX4_ofDeal 3 (some .int) :: GW) ({ frames := 2, cells := 0, slots := 0, locals := 43 }) [.ref (a 0), .int (nI (d)), .int (w)] G ES (mN G a (N) (x)) (mN G a (N) (x)) (-2) := by
  refine MI.of (own := RX4) rfl rfl (Nat.le_of_ble_eq_true rfl) ?_
  intro pP eE sS mM below meth cC ls AA E hw hl hr hlk hE
  replace hl : lv_has ls 3 [(0, .ref (a 0)), (1, .int (nI (d))), (2, .int (w))] := hl
  have h5 := hF.2.1
  have h6 := hF.1
  have hd8 : d < 8 := by omega
  refine lv_aload_n E.1 E.2.1 dX4_ofDeal_0 rfl (lv_at hl 0 rfl) ?_
  refine lv_iload_n E.1 E.2.1 dX4_ofDeal_1 rfl (lv_at hl 1 rfl) ?_
  refine callVI E (c_X4_isDeal l G a (N) (x) (nI (d)) (by omega)) mw_18_14 YX4_isDeal ⟨rfl, rfl⟩ ⟨Nat.le_of_ble_eq_true rfl, Nat.le_of_ble_eq_true rfl⟩ ⟨Nat.zero_le _, Nat.zero_le _⟩ hw 0 rfl rfl rfl hl rfl (Nat.le_of_ble_eq_true rfl) dX4_ofDeal_2 (fun H locs hw => ?_)
  refine lv_if_neB (tgt := 10) E.1 E.2.1 dX4_ofDeal_5 (by decide) (fun c5 => ?_) (fun c5 => ?_)
  · skip
    refine lv_iload_n E.1 E.2.1 dX4_ofDeal_10 rfl (lv_at hl 2 rfl) ?_
    by_cases z11_0 : w = nI 0
    · refine lv_eqi (y := nI 0) z11_0 ?_
      refine lv_tableIn (tgt := 44) E.1 E.2.1 dX4_ofDeal_11 (by decide) (by decide) rfl (by decide) ?_
      exact absurd (by rw [z11_0]; decide) h
    by_cases z11_1 : w = nI 1
    · refine lv_eqi (y := nI 1) z11_1 ?_
      refine lv_tableIn (tgt := 44) E.1 E.2.1 dX4_ofDeal_11 (by decide) (by decide) rfl (by decide) ?_
      exact absurd (by rw [z11_1]; decide) h
    by_cases z11_2 : w = nI 2
    · refine lv_eqi (y := nI 2) z11_2 ?_
      refine lv_tableIn (tgt := 44) E.1 E.2.1 dX4_ofDeal_11 (by decide) (by decide) rfl (by decide) ?_
      exact absurd (by rw [z11_2]; decide) h
    by_cases z11_3 : w = nI 3
    · refine lv_eqi (y := nI 3) z11_3 ?_
      refine lv_tableIn (tgt := 51) E.1 E.2.1 dX4_ofDeal_11 (by decide) (by decide) rfl (by decide) ?_
      exact absurd (by rw [z11_3]; decide) h
    by_cases z11_4 : w = nI 4
    · refine lv_eqi (y := nI 4) z11_4 ?_
      refine lv_tableIn (tgt := 51) E.1 E.2.1 dX4_ofDeal_11 (by decide) (by decide) rfl (by decide) ?_
      exact absurd (by rw [z11_4]; decide) h
    refine lv_tableOut (tgt := 60) E.1 E.2.1 dX4_ofDeal_11 (by have t0 := lv_neT z11_0 (a := 0) (by decide); have t1 := lv_neT z11_1 (a := 1) (by decide); have t2 := lv_neT z11_2 (a := 2) (by decide); have t3 := lv_neT z11_3 (a := 3) (by decide); have t4 := lv_neT z11_4 (a := 4) (by decide); omega) (by decide) ?_
    refine lv_iload_n E.1 E.2.1 dX4_ofDeal_60 rfl (lv_at hl 2 rfl) ?_
    refine lv_iconst (v := nI 5) E.1 E.2.1 dX4_ofDeal_61 (by decide) ?_
    refine lv_bipush (v := nI 8) E.1 E.2.1 dX4_ofDeal_62 (by decide) ?_
    refine callSI E (c_X4_in l G (w) (nI (5)) (nI (8))) mw_5_13 YX4_in ⟨rfl, rfl⟩ ⟨Nat.le_of_ble_eq_true rfl, Nat.le_of_ble_eq_true rfl⟩ ⟨Nat.zero_le _, Nat.zero_le _⟩ hw (w := []) (w' := []) (rr := mN G a (N) (x)) (big' := mN G a (N) (x)) (List.Perm.refl _) (List.Perm.refl _) rfl hl rfl (Nat.le_of_ble_eq_true rfl) dX4_ofDeal_64 (fun H locs hw => ?_)
    refine lv_if_eqB (tgt := 81) E.1 E.2.1 dX4_ofDeal_67 (by decide) (fun c67 => ?_) (fun c67 => ?_)
    · skip
      refine lv_bipush (v := -2) E.1 E.2.1 dX4_ofDeal_81 (by decide) ?_
      exact rI E hr hlk (HB.eq hw (rfl)) (rfl) dX4_ofDeal_83
    · exact absurd ⟨Int32.le_trans (by decide) c67.1, c67.2⟩ h
  · exact absurd (in0 (by omega) (by omega)) c5
set_option maxHeartbeats 4000000 in
set_option maxRecDepth 100000 in
theorem c_X4_ofDeal_ok (l : Launch) (G : GP) (a : Nat → Nat) (N : NS) (x : MX) (d : Nat) (hd : d < N 5) (hF : FI N) (k : Nat) (hk : k ≤ 8) : MI l yX4_ofDeal (.code yX4_ofDeal cX4_ofDeal 3 (some .int) :: GW) ({ frames := 3, cells := 0, slots := 0, locals := 68 }) [.ref (a 0), .int (nI (d)), .int (nI (k))] G ES (mN G a (N) (x)) (mN G a (N) (x)) (nI (ofd d k N)) := by
  refine MI.of (own := RX4) rfl rfl (Nat.le_of_ble_eq_true rfl) ?_
  intro pP eE sS mM below meth cC ls AA E hw hl hr hlk hE
  replace hl : lv_has ls 3 [(0, .ref (a 0)), (1, .int (nI (d))), (2, .int (nI (k)))] := hl
  have h5 := hF.2.1
  have h6 := hF.1
  have hd8 : d < 8 := by omega
  refine lv_aload_n E.1 E.2.1 dX4_ofDeal_0 rfl (lv_at hl 0 rfl) ?_
  refine lv_iload_n E.1 E.2.1 dX4_ofDeal_1 rfl (lv_at hl 1 rfl) ?_
  refine callVI E (c_X4_isDeal l G a (N) (x) (nI (d)) (by omega)) mw_18_14 YX4_isDeal ⟨rfl, rfl⟩ ⟨Nat.le_of_ble_eq_true rfl, Nat.le_of_ble_eq_true rfl⟩ ⟨Nat.zero_le _, Nat.zero_le _⟩ hw 0 rfl rfl rfl hl rfl (Nat.le_of_ble_eq_true rfl) dX4_ofDeal_2 (fun H locs hw => ?_)
  refine lv_if_neB (tgt := 10) E.1 E.2.1 dX4_ofDeal_5 (by decide) (fun c5 => ?_) (fun c5 => ?_)
  · skip
    refine lv_iload_n E.1 E.2.1 dX4_ofDeal_10 rfl (lv_at hl 2 rfl) ?_
    by_cases z11_0 : k = 0
    · refine lv_eqi (y := nI 0) (by rw [z11_0]) ?_
      refine lv_tableIn (tgt := 44) E.1 E.2.1 dX4_ofDeal_11 (by decide) (by decide) rfl (by decide) ?_
      refine lv_aload_n E.1 E.2.1 dX4_ofDeal_44 rfl (lv_at hl 0 rfl) ?_
      refine lv_iload_n E.1 E.2.1 dX4_ofDeal_45 rfl (lv_at hl 1 rfl) ?_
      refine lv_iload_n E.1 E.2.1 dX4_ofDeal_46 rfl (lv_at hl 2 rfl) ?_
      refine callVI E (c_X4_of l G a (N) (x) d k (N (30 + 14 * d + k)) (by omega) (rfl)) mw_12_1 YX4_of ⟨rfl, rfl⟩ ⟨Nat.le_of_ble_eq_true rfl, Nat.le_of_ble_eq_true rfl⟩ ⟨Nat.zero_le _, Nat.zero_le _⟩ hw 0 rfl rfl rfl hl rfl (Nat.le_of_ble_eq_true rfl) dX4_ofDeal_47 (fun H locs hw => ?_)
      exact rI E hr hlk (HB.eq hw (rfl)) (by rw [ofd, if_pos (by omega)]) dX4_ofDeal_50
    by_cases z11_1 : k = 1
    · refine lv_eqi (y := nI 1) (by rw [z11_1]) ?_
      refine lv_tableIn (tgt := 44) E.1 E.2.1 dX4_ofDeal_11 (by decide) (by decide) rfl (by decide) ?_
      refine lv_aload_n E.1 E.2.1 dX4_ofDeal_44 rfl (lv_at hl 0 rfl) ?_
      refine lv_iload_n E.1 E.2.1 dX4_ofDeal_45 rfl (lv_at hl 1 rfl) ?_
      refine lv_iload_n E.1 E.2.1 dX4_ofDeal_46 rfl (lv_at hl 2 rfl) ?_
      refine callVI E (c_X4_of l G a (N) (x) d k (N (30 + 14 * d + k)) (by omega) (rfl)) mw_12_1 YX4_of ⟨rfl, rfl⟩ ⟨Nat.le_of_ble_eq_true rfl, Nat.le_of_ble_eq_true rfl⟩ ⟨Nat.zero_le _, Nat.zero_le _⟩ hw 0 rfl rfl rfl hl rfl (Nat.le_of_ble_eq_true rfl) dX4_ofDeal_47 (fun H locs hw => ?_)
      exact rI E hr hlk (HB.eq hw (rfl)) (by rw [ofd, if_pos (by omega)]) dX4_ofDeal_50
    by_cases z11_2 : k = 2
    · refine lv_eqi (y := nI 2) (by rw [z11_2]) ?_
      refine lv_tableIn (tgt := 44) E.1 E.2.1 dX4_ofDeal_11 (by decide) (by decide) rfl (by decide) ?_
      refine lv_aload_n E.1 E.2.1 dX4_ofDeal_44 rfl (lv_at hl 0 rfl) ?_
      refine lv_iload_n E.1 E.2.1 dX4_ofDeal_45 rfl (lv_at hl 1 rfl) ?_
      refine lv_iload_n E.1 E.2.1 dX4_ofDeal_46 rfl (lv_at hl 2 rfl) ?_
      refine callVI E (c_X4_of l G a (N) (x) d k (N (30 + 14 * d + k)) (by omega) (rfl)) mw_12_1 YX4_of ⟨rfl, rfl⟩ ⟨Nat.le_of_ble_eq_true rfl, Nat.le_of_ble_eq_true rfl⟩ ⟨Nat.zero_le _, Nat.zero_le _⟩ hw 0 rfl rfl rfl hl rfl (Nat.le_of_ble_eq_true rfl) dX4_ofDeal_47 (fun H locs hw => ?_)
      exact rI E hr hlk (HB.eq hw (rfl)) (by rw [ofd, if_pos (by omega)]) dX4_ofDeal_50
    by_cases z11_3 : k = 3
    · refine lv_eqi (y := nI 3) (by rw [z11_3]) ?_
      refine lv_tableIn (tgt := 51) E.1 E.2.1 dX4_ofDeal_11 (by decide) (by decide) rfl (by decide) ?_
      refine lv_aload_n E.1 E.2.1 dX4_ofDeal_51 rfl (lv_at hl 0 rfl) ?_
      refine lv_iload_n E.1 E.2.1 dX4_ofDeal_52 rfl (lv_at hl 1 rfl) ?_
      refine lv_iload_n E.1 E.2.1 dX4_ofDeal_53 rfl (lv_at hl 2 rfl) ?_
      refine lv_iconst (v := nI 1) E.1 E.2.1 dX4_ofDeal_54 (by decide) ?_
      refine lv_addN E.1 E.2.1 dX4_ofDeal_55 ?_
      refine callVI E (c_X4_of l G a (N) (x) d (k + 1) (N (30 + 14 * d + (k + 1))) (by omega) (rfl)) mw_12_1 YX4_of ⟨rfl, rfl⟩ ⟨Nat.le_of_ble_eq_true rfl, Nat.le_of_ble_eq_true rfl⟩ ⟨Nat.zero_le _, Nat.zero_le _⟩ hw 0 rfl rfl rfl hl rfl (Nat.le_of_ble_eq_true rfl) dX4_ofDeal_56 (fun H locs hw => ?_)
      exact rI E hr hlk (HB.eq hw (rfl)) (by rw [ofd, if_neg (by omega), if_pos (by omega)]) dX4_ofDeal_59
    by_cases z11_4 : k = 4
    · refine lv_eqi (y := nI 4) (by rw [z11_4]) ?_
      refine lv_tableIn (tgt := 51) E.1 E.2.1 dX4_ofDeal_11 (by decide) (by decide) rfl (by decide) ?_
      refine lv_aload_n E.1 E.2.1 dX4_ofDeal_51 rfl (lv_at hl 0 rfl) ?_
      refine lv_iload_n E.1 E.2.1 dX4_ofDeal_52 rfl (lv_at hl 1 rfl) ?_
      refine lv_iload_n E.1 E.2.1 dX4_ofDeal_53 rfl (lv_at hl 2 rfl) ?_
      refine lv_iconst (v := nI 1) E.1 E.2.1 dX4_ofDeal_54 (by decide) ?_
      refine lv_addN E.1 E.2.1 dX4_ofDeal_55 ?_
      refine callVI E (c_X4_of l G a (N) (x) d (k + 1) (N (30 + 14 * d + (k + 1))) (by omega) (rfl)) mw_12_1 YX4_of ⟨rfl, rfl⟩ ⟨Nat.le_of_ble_eq_true rfl, Nat.le_of_ble_eq_true rfl⟩ ⟨Nat.zero_le _, Nat.zero_le _⟩ hw 0 rfl rfl rfl hl rfl (Nat.le_of_ble_eq_true rfl) dX4_ofDeal_56 (fun H locs hw => ?_)
      exact rI E hr hlk (HB.eq hw (rfl)) (by rw [ofd, if_neg (by omega), if_pos (by omega)]) dX4_ofDeal_59
    refine lv_tableOutN (tgt := 60) E.1 E.2.1 (by omega) dX4_ofDeal_11 (by omega) (by decide) ?_
    refine lv_iload_n E.1 E.2.1 dX4_ofDeal_60 rfl (lv_at hl 2 rfl) ?_
    refine lv_iconst (v := nI 5) E.1 E.2.1 dX4_ofDeal_61 (by decide) ?_
    refine lv_bipush (v := nI 8) E.1 E.2.1 dX4_ofDeal_62 (by decide) ?_
    refine callSI E (c_X4_in l G (nI (k)) (nI (5)) (nI (8))) mw_5_13 YX4_in ⟨rfl, rfl⟩ ⟨Nat.le_of_ble_eq_true rfl, Nat.le_of_ble_eq_true rfl⟩ ⟨Nat.zero_le _, Nat.zero_le _⟩ hw (w := []) (w' := []) (rr := mN G a (N) (x)) (big' := mN G a (N) (x)) (List.Perm.refl _) (List.Perm.refl _) rfl hl rfl (Nat.le_of_ble_eq_true rfl) dX4_ofDeal_64 (fun H locs hw => ?_)
    refine lv_if_eqB (tgt := 81) E.1 E.2.1 dX4_ofDeal_67 (by decide) (fun c67 => ?_) (fun c67 => ?_)
    · exact absurd (inN (by omega) (by omega) (by decide)) c67
    · skip
      refine lv_aload_n E.1 E.2.1 dX4_ofDeal_70 rfl (lv_at hl 0 rfl) ?_
      refine lv_iload_n E.1 E.2.1 dX4_ofDeal_71 rfl (lv_at hl 1 rfl) ?_
      refine lv_iload_n E.1 E.2.1 dX4_ofDeal_72 rfl (lv_at hl 2 rfl) ?_
      refine lv_iconst (v := nI 5) E.1 E.2.1 dX4_ofDeal_73 (by decide) ?_
      refine lv_subN E.1 E.2.1 (by omega) dX4_ofDeal_74 ?_
      refine callVI E (c_X4_clerksOf l G a (N) (x) d (k - 5) (by omega) (by omega) (hF)) mw_18_18 YX4_clerksOf ⟨rfl, rfl⟩ ⟨Nat.le_of_ble_eq_true rfl, Nat.le_of_ble_eq_true rfl⟩ ⟨Nat.zero_le _, Nat.zero_le _⟩ hw 0 rfl rfl rfl hl rfl (Nat.le_of_ble_eq_true rfl) dX4_ofDeal_75 (fun H locs hw => ?_)
      refine lv_goto (tgt := 83) E.1 E.2.1 dX4_ofDeal_78 (by decide) ?_
      exact rI E hr hlk (HB.eq hw (rfl)) (by rw [ofd, if_neg (by omega), if_neg (by omega)]) dX4_ofDeal_83
  · exact absurd (in0 (by omega) (by omega)) c5
theorem YX4_at : YV yX4_at RX4 cX4_at 3 (some .int) 2 := ⟨mw_19_7, mw_19_8, mw_1_5, mw_19_9, by decide +kernel⟩
set_option maxHeartbeats 4000000 in
set_option maxRecDepth 100000 in
theorem c_X4_at_bad (l : Launch) (G : GP) (a : Nat → Nat) (N : NS) (x : MX) (e w : Int32) (h5 : N 5 ≤ 8) (h : ¬ ((0 ≤ e ∧ e < nI (N 5)) ∧ (nI 0 ≤ w ∧ w ≤ nI 3))) : MI l yX4_at (.code yX4_at cX4_at 3 (some .int) :: GW) ({ frames := 2, cells := 0, slots := 0, locals := 43 }) [.ref (a 0), .int (e), .int (w)] G ES (mN G a (N) (x)) (mN G a (N) (x)) (-1) := by
  refine MI.of (own := RX4) rfl rfl (Nat.le_of_ble_eq_true rfl) ?_
  intro pP eE sS mM below meth cC ls AA E hw hl hr hlk hE
  replace hl : lv_has ls 3 [(0, .ref (a 0)), (1, .int (e)), (2, .int (w))] := hl
  refine lv_aload_n E.1 E.2.1 dX4_at_0 rfl (lv_at hl 0 rfl) ?_
  refine lv_iload_n E.1 E.2.1 dX4_at_1 rfl (lv_at hl 1 rfl) ?_
  refine callVI E (c_X4_isDeal l G a (N) (x) (e) (by omega)) mw_18_14 YX4_isDeal ⟨rfl, rfl⟩ ⟨Nat.le_of_ble_eq_true rfl, Nat.le_of_ble_eq_true rfl⟩ ⟨Nat.zero_le _, Nat.zero_le _⟩ hw 0 rfl rfl rfl hl rfl (Nat.le_of_ble_eq_true rfl) dX4_at_2 (fun H locs hw => ?_)
  refine lv_if_eqB (tgt := 17) E.1 E.2.1 dX4_at_5 (by decide) (fun c5 => ?_) (fun c5 => ?_)
  · skip
    refine lv_iconst (v := -1) E.1 E.2.1 dX4_at_17 (by decide) ?_
    exact rI E hr hlk (HB.eq hw (rfl)) (rfl) dX4_at_18
  · skip
    refine lv_iload_n E.1 E.2.1 dX4_at_8 rfl (lv_at hl 2 rfl) ?_
    refine lv_iconst (v := nI 0) E.1 E.2.1 dX4_at_9 (by decide) ?_
    refine lv_iconst (v := nI 3) E.1 E.2.1 dX4_at_10 (by decide) ?_
    refine callSI E (c_X4_in l G (w) (nI (0)) (nI (3))) mw_5_13 YX4_in ⟨rfl, rfl⟩ ⟨Nat.le_of_ble_eq_true rfl, Nat.le_of_ble_eq_true rfl⟩ ⟨Nat.zero_le _, Nat.zero_le _⟩ hw (w := []) (w' := []) (rr := mN G a (N) (x)) (big' := mN G a (N) (x)) (List.Perm.refl _) (List.Perm.refl _) rfl hl rfl (Nat.le_of_ble_eq_true rfl) dX4_at_11 (fun H locs hw => ?_)
    refine lv_if_neB (tgt := 19) E.1 E.2.1 dX4_at_14 (by decide) (fun c14 => ?_) (fun c14 => ?_)
    · exact absurd ⟨c5, c14⟩ h
    · skip
      refine lv_iconst (v := -1) E.1 E.2.1 dX4_at_17 (by decide) ?_
      exact rI E hr hlk (HB.eq hw (rfl)) (rfl) dX4_at_18
set_option maxHeartbeats 4000000 in
set_option maxRecDepth 100000 in
theorem c_X4_at_ok (l : Launch) (G : GP) (a : Nat → Nat) (N : NS) (x : MX) (d : Nat) (hd : d < N 5) (hF : FI N) (c : Nat) (hc : c < 4) : MI l yX4_at (.code yX4_at cX4_at 3 (some .int) :: GW) ({ frames := 2, cells := 0, slots := 0, locals := 44 }) [.ref (a 0), .int (nI (d)), .int (nI (c))] G ES (mN G a (N) (x)) (mN G a (N) (x)) ((if (N (30 + 14 * d + 0)).testBit c = true then nI (N (30 + 14 * d + (6 + c))) else -6)) := by
  refine MI.of (own := RX4) rfl rfl (Nat.le_of_ble_eq_true rfl) ?_
  intro pP eE sS mM below meth cC ls AA E hw hl hr hlk hE
  replace hl : lv_has ls 3 [(0, .ref (a 0)), (1, .int (nI (d))), (2, .int (nI (c)))] := hl
  have h5 := hF.2.1
  have h6 := hF.1
  have hd8 : d < 8 := by omega
  have h0 := hF.f0 hd8
  refine lv_aload_n E.1 E.2.1 dX4_at_0 rfl (lv_at hl 0 rfl) ?_
  refine lv_iload_n E.1 E.2.1 dX4_at_1 rfl (lv_at hl 1 rfl) ?_
  refine callVI E (c_X4_isDeal l G a (N) (x) (nI (d)) (by omega)) mw_18_14 YX4_isDeal ⟨rfl, rfl⟩ ⟨Nat.le_of_ble_eq_true rfl, Nat.le_of_ble_eq_true rfl⟩ ⟨Nat.zero_le _, Nat.zero_le _⟩ hw 0 rfl rfl rfl hl rfl (Nat.le_of_ble_eq_true rfl) dX4_at_2 (fun H locs hw => ?_)
  refine lv_if_eqB (tgt := 17) E.1 E.2.1 dX4_at_5 (by decide) (fun c5 => ?_) (fun c5 => ?_)
  · exact absurd (in0 (by omega) (by omega)) c5
  · skip
    refine lv_iload_n E.1 E.2.1 dX4_at_8 rfl (lv_at hl 2 rfl) ?_
    refine lv_iconst (v := nI 0) E.1 E.2.1 dX4_at_9 (by decide) ?_
    refine lv_iconst (v := nI 3) E.1 E.2.1 dX4_at_10 (by decide) ?_
    refine callSI E (c_X4_in l G (nI (c)) (nI (0)) (nI (3))) mw_5_13 YX4_in ⟨rfl, rfl⟩ ⟨Nat.le_of_ble_eq_true rfl, Nat.le_of_ble_eq_true rfl⟩ ⟨Nat.zero_le _, Nat.zero_le _⟩ hw (w := []) (w' := []) (rr := mN G a (N) (x)) (big' := mN G a (N) (x)) (List.Perm.refl _) (List.Perm.refl _) rfl hl rfl (Nat.le_of_ble_eq_true rfl) dX4_at_11 (fun H locs hw => ?_)
    refine lv_if_neB (tgt := 19) E.1 E.2.1 dX4_at_14 (by decide) (fun c14 => ?_) (fun c14 => ?_)
    · skip
      refine lv_aload_n E.1 E.2.1 dX4_at_19 rfl (lv_at hl 0 rfl) ?_
      refine lv_iload_n E.1 E.2.1 dX4_at_20 rfl (lv_at hl 1 rfl) ?_
      refine lv_iload_n E.1 E.2.1 dX4_at_21 rfl (lv_at hl 2 rfl) ?_
      refine callVI E (c_X4_isPart l G a (N) (x) d c (N (30 + 14 * d + 0)) (by omega) (by omega) (rfl) (by omega)) mw_15_7 YX4_isPart ⟨rfl, rfl⟩ ⟨Nat.le_of_ble_eq_true rfl, Nat.le_of_ble_eq_true rfl⟩ ⟨Nat.zero_le _, Nat.zero_le _⟩ hw 0 rfl rfl rfl hl rfl (Nat.le_of_ble_eq_true rfl) dX4_at_22 (fun H locs hw => ?_)
      refine lv_if_eqB (tgt := 40) E.1 E.2.1 dX4_at_25 (by decide) (fun c25 => ?_) (fun c25 => ?_)
      · skip
        refine lv_bipush (v := -6) E.1 E.2.1 dX4_at_40 (by decide) ?_
        exact rI E hr hlk (HB.eq hw (rfl)) (by rw [if_neg c25]) dX4_at_42
      · skip
        refine lv_aload_n E.1 E.2.1 dX4_at_28 rfl (lv_at hl 0 rfl) ?_
        refine lv_iload_n E.1 E.2.1 dX4_at_29 rfl (lv_at hl 1 rfl) ?_
        refine lv_bipush (v := nI 6) E.1 E.2.1 dX4_at_30 (by decide) ?_
        refine lv_iload_n E.1 E.2.1 dX4_at_32 rfl (lv_at hl 2 rfl) ?_
        refine lv_addN E.1 E.2.1 dX4_at_33 ?_
        refine callVI E (c_X4_of l G a (N) (x) d (6 + c) (N (30 + 14 * d + (6 + c))) (by omega) (rfl)) mw_12_1 YX4_of ⟨rfl, rfl⟩ ⟨Nat.le_of_ble_eq_true rfl, Nat.le_of_ble_eq_true rfl⟩ ⟨Nat.zero_le _, Nat.zero_le _⟩ hw 0 rfl rfl rfl hl rfl (Nat.le_of_ble_eq_true rfl) dX4_at_34 (fun H locs hw => ?_)
        refine lv_goto (tgt := 42) E.1 E.2.1 dX4_at_37 (by decide) ?_
        exact rI E hr hlk (HB.eq hw (rfl)) (by rw [if_pos c25]) dX4_at_42
    · exact absurd (inN (by omega) (by omega) (by decide)) c14
theorem YX4_message : YV yX4_message RX4 cX4_message 3 (some .int) 2 := ⟨mw_19_22, mw_19_23, mw_1_5, mw_20_0, by decide +kernel⟩
set_option maxHeartbeats 4000000 in
set_option maxRecDepth 100000 in
theorem c_X4_message_bad1 (l : Launch) (G : GP) (a : Nat → Nat) (N : NS) (x : MX) (p : Int32) (h6 : N 6 ≤ 60) (h : ¬ (0 ≤ p ∧ p < nI (N 6))) (w : Int32) : MI l yX4_message (.code yX4_message cX4_message 3 (some .int) :: GW) ({ frames := 2, cells := 0, slots := 0, locals := 43 }) [.ref (a 0), .int (p), .int (w)] G ES (mN G a (N) (x)) (mN G a (N) (x)) (-1) := by
  refine MI.of (own := RX4) rfl rfl (Nat.le_of_ble_eq_true rfl) ?_
  intro pP eE sS mM below meth cC ls AA E hw hl hr hlk hE
  replace hl : lv_has ls 3 [(0, .ref (a 0)), (1, .int (p)), (2, .int (w))] := hl
  refine lv_aload_n E.1 E.2.1 dX4_message_0 rfl (lv_at hl 0 rfl) ?_
  refine lv_iload_n E.1 E.2.1 dX4_message_1 rfl (lv_at hl 1 rfl) ?_
  refine callVI E (c_X4_isMessage l G a (N) (x) (p) (by omega)) mw_11_9 YX4_isMessage ⟨rfl, rfl⟩ ⟨Nat.le_of_ble_eq_true rfl, Nat.le_of_ble_eq_true rfl⟩ ⟨Nat.zero_le _, Nat.zero_le _⟩ hw 0 rfl rfl rfl hl rfl (Nat.le_of_ble_eq_true rfl) dX4_message_2 (fun H locs hw => ?_)
  refine lv_if_neB (tgt := 10) E.1 E.2.1 dX4_message_5 (by decide) (fun c5 => ?_) (fun c5 => ?_)
  · exact absurd c5 h
  · skip
    refine lv_iconst (v := -1) E.1 E.2.1 dX4_message_8 (by decide) ?_
    exact rI E hr hlk (HB.eq hw (rfl)) (rfl) dX4_message_9
set_option maxHeartbeats 4000000 in
set_option maxRecDepth 100000 in
theorem c_X4_message_bad2 (l : Launch) (G : GP) (a : Nat → Nat) (N : NS) (x : MX) (p : Nat) (hp : p < N 6) (hF : FI N) (w : Int32) (h : ¬ (nI 0 ≤ w ∧ w ≤ nI 3)) : MI l yX4_message (.code yX4_message cX4_message 3 (some .int) :: GW) ({ frames := 2, cells := 0, slots := 0, locals := 43 }) [.ref (a 0), .int (nI (p)), .int (w)] G ES (mN G a (N) (x)) (mN G a (N) (x)) (-2) := by
  refine MI.of (own := RX4) rfl rfl (Nat.le_of_ble_eq_true rfl) ?_
  intro pP eE sS mM below meth cC ls AA E hw hl hr hlk hE
  replace hl : lv_has ls 3 [(0, .ref (a 0)), (1, .int (nI (p))), (2, .int (w))] := hl
  have h6 := hF.1
  refine lv_aload_n E.1 E.2.1 dX4_message_0 rfl (lv_at hl 0 rfl) ?_
  refine lv_iload_n E.1 E.2.1 dX4_message_1 rfl (lv_at hl 1 rfl) ?_
  refine callVI E (c_X4_isMessage l G a (N) (x) (nI (p)) (by omega)) mw_11_9 YX4_isMessage ⟨rfl, rfl⟩ ⟨Nat.le_of_ble_eq_true rfl, Nat.le_of_ble_eq_true rfl⟩ ⟨Nat.zero_le _, Nat.zero_le _⟩ hw 0 rfl rfl rfl hl rfl (Nat.le_of_ble_eq_true rfl) dX4_message_2 (fun H locs hw => ?_)
  refine lv_if_neB (tgt := 10) E.1 E.2.1 dX4_message_5 (by decide) (fun c5 => ?_) (fun c5 => ?_)
  · skip
    refine lv_iload_n E.1 E.2.1 dX4_message_10 rfl (lv_at hl 2 rfl) ?_
    refine lv_iconst (v := nI 0) E.1 E.2.1 dX4_message_11 (by decide) ?_
    refine lv_iconst (v := nI 3) E.1 E.2.1 dX4_message_12 (by decide) ?_
    refine callSI E (c_X4_in l G (w) (nI (0)) (nI (3))) mw_5_13 YX4_in ⟨rfl, rfl⟩ ⟨Nat.le_of_ble_eq_true rfl, Nat.le_of_ble_eq_true rfl⟩ ⟨Nat.zero_le _, Nat.zero_le _⟩ hw (w := []) (w' := []) (rr := mN G a (N) (x)) (big' := mN G a (N) (x)) (List.Perm.refl _) (List.Perm.refl _) rfl hl rfl (Nat.le_of_ble_eq_true rfl) dX4_message_13 (fun H locs hw => ?_)
    refine lv_if_eqB (tgt := 36) E.1 E.2.1 dX4_message_16 (by decide) (fun c16 => ?_) (fun c16 => ?_)
    · skip
      refine lv_bipush (v := -2) E.1 E.2.1 dX4_message_36 (by decide) ?_
      exact rI E hr hlk (HB.eq hw (rfl)) (rfl) dX4_message_38
    · exact absurd c16 h
  · exact absurd (in0 (by omega) (by omega)) c5
set_option maxHeartbeats 4000000 in
set_option maxRecDepth 100000 in
theorem c_X4_message_ok (l : Launch) (G : GP) (a : Nat → Nat) (N : NS) (x : MX) (p : Nat) (hp : p < N 6) (hF : FI N) (k : Nat) (hk : k < 4) : MI l yX4_message (.code yX4_message cX4_message 3 (some .int) :: GW) ({ frames := 2, cells := 0, slots := 0, locals := 43 }) [.ref (a 0), .int (nI (p)), .int (nI (k))] G ES (mN G a (N) (x)) (mN G a (N) (x)) (nI (N (150 + 4 * p + k))) := by
  refine MI.of (own := RX4) rfl rfl (Nat.le_of_ble_eq_true rfl) ?_
  intro pP eE sS mM below meth cC ls AA E hw hl hr hlk hE
  replace hl : lv_has ls 3 [(0, .ref (a 0)), (1, .int (nI (p))), (2, .int (nI (k)))] := hl
  have h6 := hF.1
  refine lv_aload_n E.1 E.2.1 dX4_message_0 rfl (lv_at hl 0 rfl) ?_
  refine lv_iload_n E.1 E.2.1 dX4_message_1 rfl (lv_at hl 1 rfl) ?_
  refine callVI E (c_X4_isMessage l G a (N) (x) (nI (p)) (by omega)) mw_11_9 YX4_isMessage ⟨rfl, rfl⟩ ⟨Nat.le_of_ble_eq_true rfl, Nat.le_of_ble_eq_true rfl⟩ ⟨Nat.zero_le _, Nat.zero_le _⟩ hw 0 rfl rfl rfl hl rfl (Nat.le_of_ble_eq_true rfl) dX4_message_2 (fun H locs hw => ?_)
  refine lv_if_neB (tgt := 10) E.1 E.2.1 dX4_message_5 (by decide) (fun c5 => ?_) (fun c5 => ?_)
  · skip
    refine lv_iload_n E.1 E.2.1 dX4_message_10 rfl (lv_at hl 2 rfl) ?_
    refine lv_iconst (v := nI 0) E.1 E.2.1 dX4_message_11 (by decide) ?_
    refine lv_iconst (v := nI 3) E.1 E.2.1 dX4_message_12 (by decide) ?_
    refine callSI E (c_X4_in l G (nI (k)) (nI (0)) (nI (3))) mw_5_13 YX4_in ⟨rfl, rfl⟩ ⟨Nat.le_of_ble_eq_true rfl, Nat.le_of_ble_eq_true rfl⟩ ⟨Nat.zero_le _, Nat.zero_le _⟩ hw (w := []) (w' := []) (rr := mN G a (N) (x)) (big' := mN G a (N) (x)) (List.Perm.refl _) (List.Perm.refl _) rfl hl rfl (Nat.le_of_ble_eq_true rfl) dX4_message_13 (fun H locs hw => ?_)
    refine lv_if_eqB (tgt := 36) E.1 E.2.1 dX4_message_16 (by decide) (fun c16 => ?_) (fun c16 => ?_)
    · exact absurd (inN (by omega) (by omega) (by decide)) c16
    · skip
      refine lv_aload_n E.1 E.2.1 dX4_message_19 rfl (lv_at hl 0 rfl) ?_
      refine gX4_0 E hw mw_3_8 dX4_message_20 ?_
      refine lv_sipush (v := nI 150) E.1 E.2.1 dX4_message_23 (by decide) ?_
      refine lv_iconst (v := nI 4) E.1 E.2.1 dX4_message_26 (by decide) ?_
      refine lv_iload_n E.1 E.2.1 dX4_message_27 rfl (lv_at hl 1 rfl) ?_
      refine lv_mulN E.1 E.2.1 dX4_message_28 ?_
      refine lv_addN E.1 E.2.1 dX4_message_29 ?_
      refine lv_iload_n E.1 E.2.1 dX4_message_30 rfl (lv_at hl 2 rfl) ?_
      refine lv_addN E.1 E.2.1 dX4_message_31 ?_
      refine lN4_0 E hw (v := N (150 + 4 * p + k)) (by omega) (rfl) dX4_message_32 ?_
      refine lv_goto (tgt := 38) E.1 E.2.1 dX4_message_33 (by decide) ?_
      exact rI E hr hlk (HB.eq hw (rfl)) (rfl) dX4_message_38
  · exact absurd (in0 (by omega) (by omega)) c5
theorem YX4_underwayTo : YV yX4_underwayTo RX4 cX4_underwayTo 4 (some .int) 1 := ⟨mw_20_19, mw_20_20, mw_1_5, mw_20_21, by decide +kernel⟩
set_option maxHeartbeats 4000000 in
set_option maxRecDepth 100000 in
theorem c_X4_underwayTo (l : Launch) (G : GP) (a : Nat → Nat) (N : NS) (x : MX) (w : Nat) (hw : w < 5) (h6 : N 6 ≤ 60) (hm : ∀ p, p < N 6 → N (150 + 4 * p + 3) < 2 ^ 31) : MI l yX4_underwayTo (.code yX4_underwayTo cX4_underwayTo 4 (some .int) :: GW) ({ frames := 0, cells := 0, slots := 0, locals := 0 }) [.ref (a 0), .int (nI (w))] G ES (mN G a (N) (x)) (mN G a (N) (x)) (nI (utI w N (N 6))) := by
  refine MI.of (own := RX4) rfl rfl (Nat.le_of_ble_eq_true rfl) ?_
  intro pP eE sS mM below meth cC ls AA E hw hl hr hlk hE
  replace hl : lv_has ls 4 [(0, .ref (a 0)), (1, .int (nI (w)))] := hl
  refine lv_iconst (v := nI 0) E.1 E.2.1 dX4_underwayTo_0 (by decide) ?_
  refine lv_istore_n (lv' := [(2, .int (nI (0))), (0, .ref (a 0)), (1, .int (nI (w)))]) E.1 E.2.1 dX4_underwayTo_1 rfl hl (by decide) rfl (fun ls hl => ?_)
  refine lv_iconst (v := nI 0) E.1 E.2.1 dX4_underwayTo_2 (by decide) ?_
  refine lv_istore_n (lv' := [(3, .int (nI (0))), (2, .int (nI (0))), (0, .ref (a 0)), (1, .int (nI (w)))]) E.1 E.2.1 dX4_underwayTo_3 rfl hl (by decide) rfl (fun ls hl => ?_)
  refine W_ind1 (nL := 4) (P := fun p => p ≤ N 6) (μ := fun p => N 6 - p) (I := fun p => mN G a (N) (x)) (L := fun p => [(0, .ref (a 0)), (1, .int (nI (w))), (2, .int (nI (utI w N p))), (3, .int (nI (p)))]) ?_ (0) (Nat.zero_le _) (HB.eq hw (rfl)) (lvh_eq (l := [(0, .ref (a 0)), (1, .int (nI (w))), (2, .int (nI (0))), (3, .int (nI (0)))]) (lv_sub hl [2, 3, 1, 0] rfl) (rfl))
  intro p hP ih H locs ls hw hl
  replace hw : HB G AA sS.heap (mN G a (N) (x)) H locs := hw
  replace hl : lv_has ls 4 [(0, .ref (a 0)), (1, .int (nI (w))), (2, .int (nI (utI w N p))), (3, .int (nI (p)))] := hl
  refine lv_iload_n E.1 E.2.1 dX4_underwayTo_4 rfl (lv_at hl 3 rfl) ?_
  refine lv_aload_n E.1 E.2.1 dX4_underwayTo_5 rfl (lv_at hl 0 rfl) ?_
  refine gX4_0 E hw mw_3_8 dX4_underwayTo_6 ?_
  refine lv_bipush (v := nI 6) E.1 E.2.1 dX4_underwayTo_9 (by decide) ?_
  refine lN4_0 E hw (v := N 6) (by omega) (rfl) dX4_underwayTo_11 ?_
  refine lv_icmp_geN (tgt := 47) E.1 E.2.1 (by omega) (by omega) dX4_underwayTo_12 (by decide) (fun c12 => ?_) (fun c12 => ?_)
  · skip
    refine lv_iload_n E.1 E.2.1 dX4_underwayTo_47 rfl (lv_at hl 2 rfl) ?_
    exact rI E hr hlk (HB.eq hw (rfl)) (by rw [show p = N 6 by omega]) dX4_underwayTo_48
  · skip
    have hmp := hm p (by omega)
    refine lv_iload_n E.1 E.2.1 dX4_underwayTo_15 rfl (lv_at hl 2 rfl) ?_
    refine lv_aload_n E.1 E.2.1 dX4_underwayTo_16 rfl (lv_at hl 0 rfl) ?_
    refine gX4_0 E hw mw_3_8 dX4_underwayTo_17 ?_
    refine lv_sipush (v := nI 150) E.1 E.2.1 dX4_underwayTo_20 (by decide) ?_
    refine lv_iconst (v := nI 4) E.1 E.2.1 dX4_underwayTo_23 (by decide) ?_
    refine lv_iload_n E.1 E.2.1 dX4_underwayTo_24 rfl (lv_at hl 3 rfl) ?_
    refine lv_mulN E.1 E.2.1 dX4_underwayTo_25 ?_
    refine lv_addN E.1 E.2.1 dX4_underwayTo_26 ?_
    refine lv_iconst (v := nI 3) E.1 E.2.1 dX4_underwayTo_27 (by decide) ?_
    refine lv_addN E.1 E.2.1 dX4_underwayTo_28 ?_
    refine lN4_0 E hw (v := N (150 + 4 * p + 3)) (by omega) (rfl) dX4_underwayTo_29 ?_
    refine lv_iload_n E.1 E.2.1 dX4_underwayTo_30 rfl (lv_at hl 1 rfl) ?_
    refine lv_icmp_neN (tgt := 38) E.1 E.2.1 (by omega) (by omega) dX4_underwayTo_31 (by decide) (fun c31 => ?_) (fun c31 => ?_)
    · skip
      refine lv_iconst (v := nI 0) E.1 E.2.1 dX4_underwayTo_38 (by decide) ?_
      refine lv_addN E.1 E.2.1 dX4_underwayTo_39 ?_
      refine lv_istore_n (lv' := [(2, .int (nI (utI w N p + 0))), (0, .ref (a 0)), (1, .int (nI (w))), (3, .int (nI (p)))]) E.1 E.2.1 dX4_underwayTo_40 rfl hl (by decide) rfl (fun ls hl => ?_)
      refine lv_iincN (k := 3) (lv' := [(3, .int (nI (p + 1))), (2, .int (nI (utI w N p + 0))), (0, .ref (a 0)), (1, .int (nI (w)))]) E.1 E.2.1 dX4_underwayTo_41 hl rfl (by decide) rfl (fun ls hl => ?_)
      refine lv_goto (tgt := 4) E.1 E.2.1 dX4_underwayTo_44 (by decide) ?_
      exact ih (p + 1) (by omega) (by omega) _ _ _ (HB.eq hw (rfl)) (lvh_eq (l := [(0, .ref (a 0)), (1, .int (nI (w))), (2, .int (nI (utI w N p + 0))), (3, .int (nI (p + 1)))]) (lv_sub hl [2, 3, 1, 0] rfl) (by rw [utI, if_neg c31]))
    · skip
      refine lv_iconst (v := nI 1) E.1 E.2.1 dX4_underwayTo_34 (by decide) ?_
      refine lv_goto (tgt := 39) E.1 E.2.1 dX4_underwayTo_35 (by decide) ?_
      refine lv_addN E.1 E.2.1 dX4_underwayTo_39 ?_
      refine lv_istore_n (lv' := [(2, .int (nI (utI w N p + 1))), (0, .ref (a 0)), (1, .int (nI (w))), (3, .int (nI (p)))]) E.1 E.2.1 dX4_underwayTo_40 rfl hl (by decide) rfl (fun ls hl => ?_)
      refine lv_iincN (k := 3) (lv' := [(3, .int (nI (p + 1))), (2, .int (nI (utI w N p + 1))), (0, .ref (a 0)), (1, .int (nI (w)))]) E.1 E.2.1 dX4_underwayTo_41 hl rfl (by decide) rfl (fun ls hl => ?_)
      refine lv_goto (tgt := 4) E.1 E.2.1 dX4_underwayTo_44 (by decide) ?_
      exact ih (p + 1) (by omega) (by omega) _ _ _ (HB.eq hw (rfl)) (lvh_eq (l := [(0, .ref (a 0)), (1, .int (nI (w))), (2, .int (nI (utI w N p + 1))), (3, .int (nI (p + 1)))]) (lv_sub hl [2, 3, 1, 0] rfl) (by rw [utI, if_pos c31]))
theorem YX4_who : YV yX4_who RX4 cX4_who 3 (some .int) 2 := ⟨mw_20_15, mw_20_16, mw_1_5, mw_20_17, by decide +kernel⟩
set_option maxHeartbeats 4000000 in
set_option maxRecDepth 100000 in
theorem c_X4_who_bad1 (l : Launch) (G : GP) (a : Nat → Nat) (N : NS) (x : MX) (v : Int32) (h : ¬ (nI 0 ≤ v ∧ v ≤ nI 4)) (w : Int32) : MI l yX4_who (.code yX4_who cX4_who 3 (some .int) :: GW) ({ frames := 1, cells := 0, slots := 0, locals := 22 }) [.ref (a 0), .int (v), .int (w)] G ES (mN G a (N) (x)) (mN G a (N) (x)) (-1) := by
  refine MI.of (own := RX4) rfl rfl (Nat.le_of_ble_eq_true rfl) ?_
  intro pP eE sS mM below meth cC ls AA E hw hl hr hlk hE
  replace hl : lv_has ls 3 [(0, .ref (a 0)), (1, .int (v)), (2, .int (w))] := hl
  refine lv_iload_n E.1 E.2.1 dX4_who_0 rfl (lv_at hl 1 rfl) ?_
  refine lv_iconst (v := nI 0) E.1 E.2.1 dX4_who_1 (by decide) ?_
  refine lv_iconst (v := nI 4) E.1 E.2.1 dX4_who_2 (by decide) ?_
  refine callSI E (c_X4_in l G (v) (nI (0)) (nI (4))) mw_5_13 YX4_in ⟨rfl, rfl⟩ ⟨Nat.le_of_ble_eq_true rfl, Nat.le_of_ble_eq_true rfl⟩ ⟨Nat.zero_le _, Nat.zero_le _⟩ hw (w := []) (w' := []) (rr := mN G a (N) (x)) (big' := mN G a (N) (x)) (List.Perm.refl _) (List.Perm.refl _) rfl hl rfl (Nat.le_of_ble_eq_true rfl) dX4_who_3 (fun H locs hw => ?_)
  refine lv_if_neB (tgt := 11) E.1 E.2.1 dX4_who_6 (by decide) (fun c6 => ?_) (fun c6 => ?_)
  · exact absurd c6 h
  · skip
    refine lv_iconst (v := -1) E.1 E.2.1 dX4_who_9 (by decide) ?_
    exact rI E hr hlk (HB.eq hw (rfl)) (rfl) dX4_who_10
set_option maxHeartbeats 4000000 in
set_option maxRecDepth 100000 in
theorem c_X4_who_bad2 (l : Launch) (G : GP) (a : Nat → Nat) (N : NS) (x : MX) (w : Nat) (hw : w < 5) (v : Int32) (h : ¬ (nI 0 ≤ v ∧ v ≤ nI 4)) : MI l yX4_who (.code yX4_who cX4_who 3 (some .int) :: GW) ({ frames := 1, cells := 0, slots := 0, locals := 22 }) [.ref (a 0), .int (nI (w)), .int (v)] G ES (mN G a (N) (x)) (mN G a (N) (x)) (-2) := by
  have hw5 := hw
  refine MI.of (own := RX4) rfl rfl (Nat.le_of_ble_eq_true rfl) ?_
  intro pP eE sS mM below meth cC ls AA E hw hl hr hlk hE
  replace hl : lv_has ls 3 [(0, .ref (a 0)), (1, .int (nI (w))), (2, .int (v))] := hl
  refine lv_iload_n E.1 E.2.1 dX4_who_0 rfl (lv_at hl 1 rfl) ?_
  refine lv_iconst (v := nI 0) E.1 E.2.1 dX4_who_1 (by decide) ?_
  refine lv_iconst (v := nI 4) E.1 E.2.1 dX4_who_2 (by decide) ?_
  refine callSI E (c_X4_in l G (nI (w)) (nI (0)) (nI (4))) mw_5_13 YX4_in ⟨rfl, rfl⟩ ⟨Nat.le_of_ble_eq_true rfl, Nat.le_of_ble_eq_true rfl⟩ ⟨Nat.zero_le _, Nat.zero_le _⟩ hw (w := []) (w' := []) (rr := mN G a (N) (x)) (big' := mN G a (N) (x)) (List.Perm.refl _) (List.Perm.refl _) rfl hl rfl (Nat.le_of_ble_eq_true rfl) dX4_who_3 (fun H locs hw => ?_)
  refine lv_if_neB (tgt := 11) E.1 E.2.1 dX4_who_6 (by decide) (fun c6 => ?_) (fun c6 => ?_)
  · skip
    refine lv_iload_n E.1 E.2.1 dX4_who_11 rfl (lv_at hl 2 rfl) ?_
    by_cases z12_0 : v = nI 0
    · refine lv_eqi (y := nI 0) z12_0 ?_
      refine lv_tableIn (tgt := 44) E.1 E.2.1 dX4_who_12 (by decide) (by decide) rfl (by decide) ?_
      exact absurd (by rw [z12_0]; decide) h
    by_cases z12_1 : v = nI 1
    · refine lv_eqi (y := nI 1) z12_1 ?_
      refine lv_tableIn (tgt := 54) E.1 E.2.1 dX4_who_12 (by decide) (by decide) rfl (by decide) ?_
      exact absurd (by rw [z12_1]; decide) h
    by_cases z12_2 : v = nI 2
    · refine lv_eqi (y := nI 2) z12_2 ?_
      refine lv_tableIn (tgt := 73) E.1 E.2.1 dX4_who_12 (by decide) (by decide) rfl (by decide) ?_
      exact absurd (by rw [z12_2]; decide) h
    by_cases z12_3 : v = nI 3
    · refine lv_eqi (y := nI 3) z12_3 ?_
      refine lv_tableIn (tgt := 79) E.1 E.2.1 dX4_who_12 (by decide) (by decide) rfl (by decide) ?_
      exact absurd (by rw [z12_3]; decide) h
    refine lv_tableOut (tgt := 89) E.1 E.2.1 dX4_who_12 (by have t0 := lv_neT z12_0 (a := 0) (by decide); have t1 := lv_neT z12_1 (a := 1) (by decide); have t2 := lv_neT z12_2 (a := 2) (by decide); have t3 := lv_neT z12_3 (a := 3) (by decide); omega) (by decide) ?_
    refine lv_iload_n E.1 E.2.1 dX4_who_89 rfl (lv_at hl 2 rfl) ?_
    refine lv_iconst (v := nI 4) E.1 E.2.1 dX4_who_90 (by decide) ?_
    refine lv_icmp_ne (tgt := 106) E.1 E.2.1 dX4_who_91 (by decide) (fun c91 => ?_) (fun c91 => ?_)
    · skip
      refine lv_bipush (v := -2) E.1 E.2.1 dX4_who_106 (by decide) ?_
      exact rI E hr hlk (HB.eq hw (rfl)) (rfl) dX4_who_108
    · exact absurd (by rw [c91]; decide) h
  · exact absurd (inN (by omega) (by omega) (by decide)) c6
set_option maxHeartbeats 4000000 in
set_option maxRecDepth 100000 in
theorem c_X4_who_ok (l : Launch) (G : GP) (a : Nat → Nat) (N : NS) (x : MX) (w k : Nat) (hw : w < 5) (hk : k < 5) (hF : FI N) (hm : ∀ p, p < N 6 → N (150 + 4 * p + 3) < 2 ^ 31) : MI l yX4_who (.code yX4_who cX4_who 3 (some .int) :: GW) ({ frames := 1, cells := 0, slots := 0, locals := 23 }) [.ref (a 0), .int (nI (w)), .int (nI (k))] G ES (mN G a (N) (x)) (mN G a (N) (x)) (nI (whoF w k N)) := by
  have hw5 := hw
  refine MI.of (own := RX4) rfl rfl (Nat.le_of_ble_eq_true rfl) ?_
  intro pP eE sS mM below meth cC ls AA E hw hl hr hlk hE
  replace hl : lv_has ls 3 [(0, .ref (a 0)), (1, .int (nI (w))), (2, .int (nI (k)))] := hl
  have h6 := hF.1
  refine lv_iload_n E.1 E.2.1 dX4_who_0 rfl (lv_at hl 1 rfl) ?_
  refine lv_iconst (v := nI 0) E.1 E.2.1 dX4_who_1 (by decide) ?_
  refine lv_iconst (v := nI 4) E.1 E.2.1 dX4_who_2 (by decide) ?_
  refine callSI E (c_X4_in l G (nI (w)) (nI (0)) (nI (4))) mw_5_13 YX4_in ⟨rfl, rfl⟩ ⟨Nat.le_of_ble_eq_true rfl, Nat.le_of_ble_eq_true rfl⟩ ⟨Nat.zero_le _, Nat.zero_le _⟩ hw (w := []) (w' := []) (rr := mN G a (N) (x)) (big' := mN G a (N) (x)) (List.Perm.refl _) (List.Perm.refl _) rfl hl rfl (Nat.le_of_ble_eq_true rfl) dX4_who_3 (fun H locs hw => ?_)
  refine lv_if_neB (tgt := 11) E.1 E.2.1 dX4_who_6 (by decide) (fun c6 => ?_) (fun c6 => ?_)
  · skip
    refine lv_iload_n E.1 E.2.1 dX4_who_11 rfl (lv_at hl 2 rfl) ?_
    by_cases z12_0 : k = 0
    · refine lv_eqi (y := nI 0) (by rw [z12_0]) ?_
      refine lv_tableIn (tgt := 44) E.1 E.2.1 dX4_who_12 (by decide) (by decide) rfl (by decide) ?_
      refine lv_aload_n E.1 E.2.1 dX4_who_44 rfl (lv_at hl 0 rfl) ?_
      refine gX4_0 E hw mw_3_8 dX4_who_45 ?_
      refine lv_bipush (v := nI 10) E.1 E.2.1 dX4_who_48 (by decide) ?_
      refine lv_iload_n E.1 E.2.1 dX4_who_50 rfl (lv_at hl 1 rfl) ?_
      refine lv_addN E.1 E.2.1 dX4_who_51 ?_
      refine lN4_0 E hw (v := N (10 + w)) (by omega) (rfl) dX4_who_52 ?_
      exact rI E hr hlk (HB.eq hw (rfl)) (by rw [whoF, if_pos (by omega)]) dX4_who_53
    by_cases z12_1 : k = 1
    · refine lv_eqi (y := nI 1) (by rw [z12_1]) ?_
      refine lv_tableIn (tgt := 54) E.1 E.2.1 dX4_who_12 (by decide) (by decide) rfl (by decide) ?_
      refine lv_iload_n E.1 E.2.1 dX4_who_54 rfl (lv_at hl 1 rfl) ?_
      refine lv_iconst (v := nI 4) E.1 E.2.1 dX4_who_55 (by decide) ?_
      refine lv_icmp_neN (tgt := 63) E.1 E.2.1 (by omega) (by omega) dX4_who_56 (by decide) (fun c56 => ?_) (fun c56 => ?_)
      · skip
        refine lv_aload_n E.1 E.2.1 dX4_who_63 rfl (lv_at hl 0 rfl) ?_
        refine gX4_0 E hw mw_3_8 dX4_who_64 ?_
        refine lv_bipush (v := nI 15) E.1 E.2.1 dX4_who_67 (by decide) ?_
        refine lv_iload_n E.1 E.2.1 dX4_who_69 rfl (lv_at hl 1 rfl) ?_
        refine lv_addN E.1 E.2.1 dX4_who_70 ?_
        refine lN4_0 E hw (v := N (15 + w)) (by omega) (rfl) dX4_who_71 ?_
        exact rI E hr hlk (HB.eq hw (rfl)) (by rw [whoF, if_neg (by omega), if_pos (by omega), if_neg c56]) dX4_who_72
      · skip
        refine lv_iconst (v := nI 1) E.1 E.2.1 dX4_who_59 (by decide) ?_
        refine lv_goto (tgt := 72) E.1 E.2.1 dX4_who_60 (by decide) ?_
        exact rI E hr hlk (HB.eq hw (rfl)) (by rw [whoF, if_neg (by omega), if_pos (by omega), if_pos c56]) dX4_who_72
    by_cases z12_2 : k = 2
    · refine lv_eqi (y := nI 2) (by rw [z12_2]) ?_
      refine lv_tableIn (tgt := 73) E.1 E.2.1 dX4_who_12 (by decide) (by decide) rfl (by decide) ?_
      refine lv_aload_n E.1 E.2.1 dX4_who_73 rfl (lv_at hl 0 rfl) ?_
      refine lv_iload_n E.1 E.2.1 dX4_who_74 rfl (lv_at hl 1 rfl) ?_
      refine callVI E (c_X4_underwayTo l G a (N) (x) w (by omega) (by omega) hm) mw_20_18 YX4_underwayTo ⟨rfl, rfl⟩ ⟨Nat.le_of_ble_eq_true rfl, Nat.le_of_ble_eq_true rfl⟩ ⟨Nat.zero_le _, Nat.zero_le _⟩ hw 0 rfl rfl rfl hl rfl (Nat.le_of_ble_eq_true rfl) dX4_who_75 (fun H locs hw => ?_)
      exact rI E hr hlk (HB.eq hw (rfl)) (by rw [whoF, if_neg (by omega), if_neg (by omega), if_pos (by omega)]) dX4_who_78
    by_cases z12_3 : k = 3
    · refine lv_eqi (y := nI 3) (by rw [z12_3]) ?_
      refine lv_tableIn (tgt := 79) E.1 E.2.1 dX4_who_12 (by decide) (by decide) rfl (by decide) ?_
      refine lv_aload_n E.1 E.2.1 dX4_who_79 rfl (lv_at hl 0 rfl) ?_
      refine gX4_0 E hw mw_3_8 dX4_who_80 ?_
      refine lv_bipush (v := nI 20) E.1 E.2.1 dX4_who_83 (by decide) ?_
      refine lv_iload_n E.1 E.2.1 dX4_who_85 rfl (lv_at hl 1 rfl) ?_
      refine lv_addN E.1 E.2.1 dX4_who_86 ?_
      refine lN4_0 E hw (v := N (20 + w)) (by omega) (rfl) dX4_who_87 ?_
      exact rI E hr hlk (HB.eq hw (rfl)) (by rw [whoF, if_neg (by omega), if_neg (by omega), if_neg (by omega), if_pos (by omega)]) dX4_who_88
    refine lv_tableOutN (tgt := 89) E.1 E.2.1 (by omega) dX4_who_12 (by omega) (by decide) ?_
    refine lv_iload_n E.1 E.2.1 dX4_who_89 rfl (lv_at hl 2 rfl) ?_
    refine lv_iconst (v := nI 4) E.1 E.2.1 dX4_who_90 (by decide) ?_
    refine lv_icmp_neN (tgt := 106) E.1 E.2.1 (by omega) (by omega) dX4_who_91 (by decide) (fun c91 => ?_) (fun c91 => ?_)
    · omega
    · skip
      refine lv_aload_n E.1 E.2.1 dX4_who_94 rfl (lv_at hl 0 rfl) ?_
      refine gX4_0 E hw mw_3_8 dX4_who_95 ?_
      refine lv_bipush (v := nI 25) E.1 E.2.1 dX4_who_98 (by decide) ?_
      refine lv_iload_n E.1 E.2.1 dX4_who_100 rfl (lv_at hl 1 rfl) ?_
      refine lv_addN E.1 E.2.1 dX4_who_101 ?_
      refine lN4_0 E hw (v := N (25 + w)) (by omega) (rfl) dX4_who_102 ?_
      refine lv_goto (tgt := 108) E.1 E.2.1 dX4_who_103 (by decide) ?_
      exact rI E hr hlk (HB.eq hw (rfl)) (by rw [whoF, if_neg (by omega), if_neg (by omega), if_neg (by omega), if_neg (by omega)]) dX4_who_108
  · exact absurd (inN (by omega) (by omega) (by decide)) c6
theorem YX4_dealsWith : YV yX4_dealsWith RX4 cX4_dealsWith 6 (some .int) 1 := ⟨mw_21_21, mw_21_22, mw_1_5, mw_21_23, by decide +kernel⟩
set_option maxHeartbeats 4000000 in
set_option maxRecDepth 100000 in
theorem c_X4_dealsWith (l : Launch) (G : GP) (a : Nat → Nat) (N : NS) (x : MX) (q : Nat) (hq : q < 3) (hF : FI N) : MI l yX4_dealsWith (.code yX4_dealsWith cX4_dealsWith 6 (some .int) :: GW) ({ frames := 3, cells := 0, slots := 0, locals := 68 }) [.ref (a 0), .int (nI (q))] G ES (mN G a (N) (x)) (mN G a (N) (x)) (nI (dwI q N (N 5))) := by
  refine MI.of (own := RX4) rfl rfl (Nat.le_of_ble_eq_true rfl) ?_
  intro pP eE sS mM below meth cC ls AA E hw hl hr hlk hE
  replace hl : lv_has ls 6 [(0, .ref (a 0)), (1, .int (nI (q)))] := hl
  have h5 := hF.2.1
  refine lv_iconst (v := nI 0) E.1 E.2.1 dX4_dealsWith_0 (by decide) ?_
  refine lv_istore_n (lv' := [(2, .int (nI (0))), (0, .ref (a 0)), (1, .int (nI (q)))]) E.1 E.2.1 dX4_dealsWith_1 rfl hl (by decide) rfl (fun ls hl => ?_)
  refine lv_iconst (v := nI 0) E.1 E.2.1 dX4_dealsWith_2 (by decide) ?_
  refine lv_istore_n (lv' := [(3, .int (nI (0))), (2, .int (nI (0))), (0, .ref (a 0)), (1, .int (nI (q)))]) E.1 E.2.1 dX4_dealsWith_3 rfl hl (by decide) rfl (fun ls hl => ?_)
  refine W_ind1 (nL := 6) (P := fun d => d ≤ N 5) (μ := fun d => N 5 - d) (I := fun d => mN G a (N) (x)) (L := fun d => [(0, .ref (a 0)), (1, .int (nI (q))), (2, .int (nI (dwI q N d))), (3, .int (nI (d)))]) ?_ (0) (Nat.zero_le _) (HB.eq hw (rfl)) (lvh_eq (l := [(0, .ref (a 0)), (1, .int (nI (q))), (2, .int (nI (0))), (3, .int (nI (0)))]) (lv_sub hl [2, 3, 1, 0] rfl) (rfl))
  intro d hP ih H locs ls hw hl
  replace hw : HB G AA sS.heap (mN G a (N) (x)) H locs := hw
  replace hl : lv_has ls 6 [(0, .ref (a 0)), (1, .int (nI (q))), (2, .int (nI (dwI q N d))), (3, .int (nI (d)))] := hl
  refine lv_iload_n E.1 E.2.1 dX4_dealsWith_4 rfl (lv_at hl 3 rfl) ?_
  refine lv_aload_n E.1 E.2.1 dX4_dealsWith_5 rfl (lv_at hl 0 rfl) ?_
  refine gX4_0 E hw mw_3_8 dX4_dealsWith_6 ?_
  refine lv_iconst (v := nI 5) E.1 E.2.1 dX4_dealsWith_9 (by decide) ?_
  refine lN4_0 E hw (v := N 5) (by omega) (rfl) dX4_dealsWith_10 ?_
  refine lv_icmp_geN (tgt := 79) E.1 E.2.1 (by omega) (by omega) dX4_dealsWith_11 (by decide) (fun c11 => ?_) (fun c11 => ?_)
  · skip
    refine lv_iload_n E.1 E.2.1 dX4_dealsWith_79 rfl (lv_at hl 2 rfl) ?_
    exact rI E hr hlk (HB.eq hw (rfl)) (by rw [show d = N 5 by omega]) dX4_dealsWith_80
  · skip
    have hd : d < 8 := by omega
    have hp2 := cOfI_lt (d := d) (s := 2) (N := N) 4 (by decide)
    have hp3 := cOfI_lt (d := d) (s := 3) (N := N) 4 (by decide)
    have hq2 : cOf d 2 N < 16 := hp2
    have hq3 : cOf d 3 N < 16 := hp3
    refine lv_aload_n E.1 E.2.1 dX4_dealsWith_14 rfl (lv_at hl 0 rfl) ?_
    refine lv_iload_n E.1 E.2.1 dX4_dealsWith_15 rfl (lv_at hl 3 rfl) ?_
    refine lv_iconst (v := nI 2) E.1 E.2.1 dX4_dealsWith_16 (by decide) ?_
    refine callVI E (c_X4_clerksOf l G a (N) (x) d 2 (by omega) (by omega) (hF)) mw_18_18 YX4_clerksOf ⟨rfl, rfl⟩ ⟨Nat.le_of_ble_eq_true rfl, Nat.le_of_ble_eq_true rfl⟩ ⟨Nat.zero_le _, Nat.zero_le _⟩ hw 0 rfl rfl rfl hl rfl (Nat.le_of_ble_eq_true rfl) dX4_dealsWith_17 (fun H locs hw => ?_)
    refine lv_if_eqN (tgt := 27) E.1 E.2.1 (by omega) dX4_dealsWith_20 (by decide) (fun c20 => ?_) (fun c20 => ?_)
    · skip
      refine lv_iconst (v := nI 0) E.1 E.2.1 dX4_dealsWith_27 (by decide) ?_
      refine lv_istore (lv' := [(4, .int (nI (0))), (0, .ref (a 0)), (1, .int (nI (q))), (2, .int (nI (dwI q N d))), (3, .int (nI (d)))]) E.1 E.2.1 dX4_dealsWith_28 hl (by decide) rfl (fun ls hl => ?_)
      refine lv_aload_n E.1 E.2.1 dX4_dealsWith_30 rfl (lv_at hl 1 rfl) ?_
      refine lv_iload_n E.1 E.2.1 dX4_dealsWith_31 rfl (lv_at hl 4 rfl) ?_
      refine lv_iconst (v := nI 3) E.1 E.2.1 dX4_dealsWith_32 (by decide) ?_
      refine callVI E (c_X4_clerksOf l G a (N) (x) d 3 (by omega) (by omega) (hF)) mw_18_18 YX4_clerksOf ⟨rfl, rfl⟩ ⟨Nat.le_of_ble_eq_true rfl, Nat.le_of_ble_eq_true rfl⟩ ⟨Nat.zero_le _, Nat.zero_le _⟩ hw 0 rfl rfl rfl hl rfl (Nat.le_of_ble_eq_true rfl) dX4_dealsWith_33 (fun H locs hw => ?_)
      refine lv_if_eqN (tgt := 43) E.1 E.2.1 (by omega) dX4_dealsWith_36 (by decide) (fun c36 => ?_) (fun c36 => ?_)
      · skip
        refine lv_iconst (v := nI 0) E.1 E.2.1 dX4_dealsWith_43 (by decide) ?_
        refine lv_istore (lv' := [(5, .int (nI (0))), (4, .int (nI (0))), (0, .ref (a 0)), (1, .int (nI (q))), (2, .int (nI (dwI q N d))), (3, .int (nI (d)))]) E.1 E.2.1 dX4_dealsWith_44 hl (by decide) rfl (fun ls hl => ?_)
        refine lv_iload_n E.1 E.2.1 dX4_dealsWith_46 rfl (lv_at hl 4 rfl) ?_
        refine lv_iload_n E.1 E.2.1 dX4_dealsWith_47 rfl (lv_at hl 3 rfl) ?_
        refine lv_iconst (v := nI 1) E.1 E.2.1 dX4_dealsWith_48 (by decide) ?_
        refine lv_icmp_eqN (tgt := 57) E.1 E.2.1 (by omega) (by omega) dX4_dealsWith_49 (by decide) (fun c49 => ?_) (fun c49 => ?_)
        · skip
          refine lv_iload_n E.1 E.2.1 dX4_dealsWith_57 rfl (lv_at hl 3 rfl) ?_
          refine lv_if_eqN (tgt := 66) E.1 E.2.1 (by omega) dX4_dealsWith_58 (by decide) (fun c58 => ?_) (fun c58 => ?_)
          · skip
            refine lv_iconst (v := nI 1) E.1 E.2.1 dX4_dealsWith_66 (by decide) ?_
            refine lv_goto (tgt := 71) E.1 E.2.1 dX4_dealsWith_67 (by decide) ?_
            refine lv_addN E.1 E.2.1 dX4_dealsWith_71 ?_
            refine lv_istore_n (lv' := [(2, .int (nI (dwI q N d + 1))), (5, .int (nI (0))), (4, .int (nI (0))), (0, .ref (a 0)), (1, .int (nI (q))), (3, .int (nI (d)))]) E.1 E.2.1 dX4_dealsWith_72 rfl hl (by decide) rfl (fun ls hl => ?_)
            refine lv_iincN (k := 5) (lv' := [(3, .int (nI (d + 1))), (2, .int (nI (dwI q N d + 1))), (5, .int (nI (0))), (4, .int (nI (0))), (0, .ref (a 0)), (1, .int (nI (q)))]) E.1 E.2.1 dX4_dealsWith_73 hl rfl (by decide) rfl (fun ls hl => ?_)
            refine lv_goto (tgt := 4) E.1 E.2.1 dX4_dealsWith_76 (by decide) ?_
            exact ih (d + 1) (by omega) (by omega) _ _ _ (HB.eq hw (rfl)) (lvh_eq (l := [(0, .ref (a 0)), (1, .int (nI (q))), (2, .int (nI (dwI q N d + 1))), (3, .int (nI (d + 1)))]) (lv_sub hl [4, 5, 1, 0] rfl) (by rw [dwI, if_pos (by omega)]))
          · skip
            refine lv_iload E.1 E.2.1 dX4_dealsWith_61 (lv_at hl 0 rfl) ?_
            refine lv_if_eqN (tgt := 70) E.1 E.2.1 (by omega) dX4_dealsWith_63 (by decide) (fun c63 => ?_) (fun c63 => ?_)
            · skip
              refine lv_iconst (v := nI 0) E.1 E.2.1 dX4_dealsWith_70 (by decide) ?_
              refine lv_addN E.1 E.2.1 dX4_dealsWith_71 ?_
              refine lv_istore_n (lv' := [(2, .int (nI (dwI q N d + 0))), (5, .int (nI (0))), (4, .int (nI (0))), (0, .ref (a 0)), (1, .int (nI (q))), (3, .int (nI (d)))]) E.1 E.2.1 dX4_dealsWith_72 rfl hl (by decide) rfl (fun ls hl => ?_)
              refine lv_iincN (k := 5) (lv' := [(3, .int (nI (d + 1))), (2, .int (nI (dwI q N d + 0))), (5, .int (nI (0))), (4, .int (nI (0))), (0, .ref (a 0)), (1, .int (nI (q)))]) E.1 E.2.1 dX4_dealsWith_73 hl rfl (by decide) rfl (fun ls hl => ?_)
              refine lv_goto (tgt := 4) E.1 E.2.1 dX4_dealsWith_76 (by decide) ?_
              exact ih (d + 1) (by omega) (by omega) _ _ _ (HB.eq hw (rfl)) (lvh_eq (l := [(0, .ref (a 0)), (1, .int (nI (q))), (2, .int (nI (dwI q N d + 0))), (3, .int (nI (d + 1)))]) (lv_sub hl [4, 5, 1, 0] rfl) (by rw [dwI, if_neg (by omega)]))
            · exact absurd c63 (by decide)
        · skip
          refine lv_iload E.1 E.2.1 dX4_dealsWith_52 (lv_at hl 1 rfl) ?_
          refine lv_if_eqN (tgt := 70) E.1 E.2.1 (by omega) dX4_dealsWith_54 (by decide) (fun c54 => ?_) (fun c54 => ?_)
          · skip
            refine lv_iconst (v := nI 0) E.1 E.2.1 dX4_dealsWith_70 (by decide) ?_
            refine lv_addN E.1 E.2.1 dX4_dealsWith_71 ?_
            refine lv_istore_n (lv' := [(2, .int (nI (dwI q N d + 0))), (5, .int (nI (0))), (4, .int (nI (0))), (0, .ref (a 0)), (1, .int (nI (q))), (3, .int (nI (d)))]) E.1 E.2.1 dX4_dealsWith_72 rfl hl (by decide) rfl (fun ls hl => ?_)
            refine lv_iincN (k := 5) (lv' := [(3, .int (nI (d + 1))), (2, .int (nI (dwI q N d + 0))), (5, .int (nI (0))), (4, .int (nI (0))), (0, .ref (a 0)), (1, .int (nI (q)))]) E.1 E.2.1 dX4_dealsWith_73 hl rfl (by decide) rfl (fun ls hl => ?_)
            refine lv_goto (tgt := 4) E.1 E.2.1 dX4_dealsWith_76 (by decide) ?_
            exact ih (d + 1) (by omega) (by omega) _ _ _ (HB.eq hw (rfl)) (lvh_eq (l := [(0, .ref (a 0)), (1, .int (nI (q))), (2, .int (nI (dwI q N d + 0))), (3, .int (nI (d + 1)))]) (lv_sub hl [4, 5, 1, 0] rfl) (by rw [dwI, if_neg (by omega)]))
          · exact absurd c54 (by decide)
      · skip
        refine lv_iconst (v := nI 1) E.1 E.2.1 dX4_dealsWith_39 (by decide) ?_
        refine lv_goto (tgt := 44) E.1 E.2.1 dX4_dealsWith_40 (by decide) ?_
        refine lv_istore (lv' := [(5, .int (nI (1))), (4, .int (nI (0))), (0, .ref (a 0)), (1, .int (nI (q))), (2, .int (nI (dwI q N d))), (3, .int (nI (d)))]) E.1 E.2.1 dX4_dealsWith_44 hl (by decide) rfl (fun ls hl => ?_)
        refine lv_iload_n E.1 E.2.1 dX4_dealsWith_46 rfl (lv_at hl 4 rfl) ?_
        refine lv_iload_n E.1 E.2.1 dX4_dealsWith_47 rfl (lv_at hl 3 rfl) ?_
        refine lv_iconst (v := nI 1) E.1 E.2.1 dX4_dealsWith_48 (by decide) ?_
        refine lv_icmp_eqN (tgt := 57) E.1 E.2.1 (by omega) (by omega) dX4_dealsWith_49 (by decide) (fun c49 => ?_) (fun c49 => ?_)
        · skip
          refine lv_iload_n E.1 E.2.1 dX4_dealsWith_57 rfl (lv_at hl 3 rfl) ?_
          refine lv_if_eqN (tgt := 66) E.1 E.2.1 (by omega) dX4_dealsWith_58 (by decide) (fun c58 => ?_) (fun c58 => ?_)
          · skip
            refine lv_iconst (v := nI 1) E.1 E.2.1 dX4_dealsWith_66 (by decide) ?_
            refine lv_goto (tgt := 71) E.1 E.2.1 dX4_dealsWith_67 (by decide) ?_
            refine lv_addN E.1 E.2.1 dX4_dealsWith_71 ?_
            refine lv_istore_n (lv' := [(2, .int (nI (dwI q N d + 1))), (5, .int (nI (1))), (4, .int (nI (0))), (0, .ref (a 0)), (1, .int (nI (q))), (3, .int (nI (d)))]) E.1 E.2.1 dX4_dealsWith_72 rfl hl (by decide) rfl (fun ls hl => ?_)
            refine lv_iincN (k := 5) (lv' := [(3, .int (nI (d + 1))), (2, .int (nI (dwI q N d + 1))), (5, .int (nI (1))), (4, .int (nI (0))), (0, .ref (a 0)), (1, .int (nI (q)))]) E.1 E.2.1 dX4_dealsWith_73 hl rfl (by decide) rfl (fun ls hl => ?_)
            refine lv_goto (tgt := 4) E.1 E.2.1 dX4_dealsWith_76 (by decide) ?_
            exact ih (d + 1) (by omega) (by omega) _ _ _ (HB.eq hw (rfl)) (lvh_eq (l := [(0, .ref (a 0)), (1, .int (nI (q))), (2, .int (nI (dwI q N d + 1))), (3, .int (nI (d + 1)))]) (lv_sub hl [4, 5, 1, 0] rfl) (by rw [dwI, if_pos (by omega)]))
          · skip
            refine lv_iload E.1 E.2.1 dX4_dealsWith_61 (lv_at hl 0 rfl) ?_
            refine lv_if_eqN (tgt := 70) E.1 E.2.1 (by omega) dX4_dealsWith_63 (by decide) (fun c63 => ?_) (fun c63 => ?_)
            · exact absurd c63 (by decide)
            · skip
              refine lv_iconst (v := nI 1) E.1 E.2.1 dX4_dealsWith_66 (by decide) ?_
              refine lv_goto (tgt := 71) E.1 E.2.1 dX4_dealsWith_67 (by decide) ?_
              refine lv_addN E.1 E.2.1 dX4_dealsWith_71 ?_
              refine lv_istore_n (lv' := [(2, .int (nI (dwI q N d + 1))), (5, .int (nI (1))), (4, .int (nI (0))), (0, .ref (a 0)), (1, .int (nI (q))), (3, .int (nI (d)))]) E.1 E.2.1 dX4_dealsWith_72 rfl hl (by decide) rfl (fun ls hl => ?_)
              refine lv_iincN (k := 5) (lv' := [(3, .int (nI (d + 1))), (2, .int (nI (dwI q N d + 1))), (5, .int (nI (1))), (4, .int (nI (0))), (0, .ref (a 0)), (1, .int (nI (q)))]) E.1 E.2.1 dX4_dealsWith_73 hl rfl (by decide) rfl (fun ls hl => ?_)
              refine lv_goto (tgt := 4) E.1 E.2.1 dX4_dealsWith_76 (by decide) ?_
              exact ih (d + 1) (by omega) (by omega) _ _ _ (HB.eq hw (rfl)) (lvh_eq (l := [(0, .ref (a 0)), (1, .int (nI (q))), (2, .int (nI (dwI q N d + 1))), (3, .int (nI (d + 1)))]) (lv_sub hl [4, 5, 1, 0] rfl) (by rw [dwI, if_pos (by omega)]))
        · skip
          refine lv_iload E.1 E.2.1 dX4_dealsWith_52 (lv_at hl 1 rfl) ?_
          refine lv_if_eqN (tgt := 70) E.1 E.2.1 (by omega) dX4_dealsWith_54 (by decide) (fun c54 => ?_) (fun c54 => ?_)
          · skip
            refine lv_iconst (v := nI 0) E.1 E.2.1 dX4_dealsWith_70 (by decide) ?_
            refine lv_addN E.1 E.2.1 dX4_dealsWith_71 ?_
            refine lv_istore_n (lv' := [(2, .int (nI (dwI q N d + 0))), (5, .int (nI (1))), (4, .int (nI (0))), (0, .ref (a 0)), (1, .int (nI (q))), (3, .int (nI (d)))]) E.1 E.2.1 dX4_dealsWith_72 rfl hl (by decide) rfl (fun ls hl => ?_)
            refine lv_iincN (k := 5) (lv' := [(3, .int (nI (d + 1))), (2, .int (nI (dwI q N d + 0))), (5, .int (nI (1))), (4, .int (nI (0))), (0, .ref (a 0)), (1, .int (nI (q)))]) E.1 E.2.1 dX4_dealsWith_73 hl rfl (by decide) rfl (fun ls hl => ?_)
            refine lv_goto (tgt := 4) E.1 E.2.1 dX4_dealsWith_76 (by decide) ?_
            exact ih (d + 1) (by omega) (by omega) _ _ _ (HB.eq hw (rfl)) (lvh_eq (l := [(0, .ref (a 0)), (1, .int (nI (q))), (2, .int (nI (dwI q N d + 0))), (3, .int (nI (d + 1)))]) (lv_sub hl [4, 5, 1, 0] rfl) (by rw [dwI, if_neg (by omega)]))
          · exact absurd c54 (by decide)
    · skip
      refine lv_iconst (v := nI 1) E.1 E.2.1 dX4_dealsWith_23 (by decide) ?_
      refine lv_goto (tgt := 28) E.1 E.2.1 dX4_dealsWith_24 (by decide) ?_
      refine lv_istore (lv' := [(4, .int (nI (1))), (0, .ref (a 0)), (1, .int (nI (q))), (2, .int (nI (dwI q N d))), (3, .int (nI (d)))]) E.1 E.2.1 dX4_dealsWith_28 hl (by decide) rfl (fun ls hl => ?_)
      refine lv_aload_n E.1 E.2.1 dX4_dealsWith_30 rfl (lv_at hl 1 rfl) ?_
      refine lv_iload_n E.1 E.2.1 dX4_dealsWith_31 rfl (lv_at hl 4 rfl) ?_
      refine lv_iconst (v := nI 3) E.1 E.2.1 dX4_dealsWith_32 (by decide) ?_
      refine callVI E (c_X4_clerksOf l G a (N) (x) d 3 (by omega) (by omega) (hF)) mw_18_18 YX4_clerksOf ⟨rfl, rfl⟩ ⟨Nat.le_of_ble_eq_true rfl, Nat.le_of_ble_eq_true rfl⟩ ⟨Nat.zero_le _, Nat.zero_le _⟩ hw 0 rfl rfl rfl hl rfl (Nat.le_of_ble_eq_true rfl) dX4_dealsWith_33 (fun H locs hw => ?_)
      refine lv_if_eqN (tgt := 43) E.1 E.2.1 (by omega) dX4_dealsWith_36 (by decide) (fun c36 => ?_) (fun c36 => ?_)
      · skip
        refine lv_iconst (v := nI 0) E.1 E.2.1 dX4_dealsWith_43 (by decide) ?_
        refine lv_istore (lv' := [(5, .int (nI (0))), (4, .int (nI (1))), (0, .ref (a 0)), (1, .int (nI (q))), (2, .int (nI (dwI q N d))), (3, .int (nI (d)))]) E.1 E.2.1 dX4_dealsWith_44 hl (by decide) rfl (fun ls hl => ?_)
        refine lv_iload_n E.1 E.2.1 dX4_dealsWith_46 rfl (lv_at hl 4 rfl) ?_
        refine lv_iload_n E.1 E.2.1 dX4_dealsWith_47 rfl (lv_at hl 3 rfl) ?_
        refine lv_iconst (v := nI 1) E.1 E.2.1 dX4_dealsWith_48 (by decide) ?_
        refine lv_icmp_eqN (tgt := 57) E.1 E.2.1 (by omega) (by omega) dX4_dealsWith_49 (by decide) (fun c49 => ?_) (fun c49 => ?_)
        · skip
          refine lv_iload_n E.1 E.2.1 dX4_dealsWith_57 rfl (lv_at hl 3 rfl) ?_
          refine lv_if_eqN (tgt := 66) E.1 E.2.1 (by omega) dX4_dealsWith_58 (by decide) (fun c58 => ?_) (fun c58 => ?_)
          · skip
            refine lv_iconst (v := nI 1) E.1 E.2.1 dX4_dealsWith_66 (by decide) ?_
            refine lv_goto (tgt := 71) E.1 E.2.1 dX4_dealsWith_67 (by decide) ?_
            refine lv_addN E.1 E.2.1 dX4_dealsWith_71 ?_
            refine lv_istore_n (lv' := [(2, .int (nI (dwI q N d + 1))), (5, .int (nI (0))), (4, .int (nI (1))), (0, .ref (a 0)), (1, .int (nI (q))), (3, .int (nI (d)))]) E.1 E.2.1 dX4_dealsWith_72 rfl hl (by decide) rfl (fun ls hl => ?_)
            refine lv_iincN (k := 5) (lv' := [(3, .int (nI (d + 1))), (2, .int (nI (dwI q N d + 1))), (5, .int (nI (0))), (4, .int (nI (1))), (0, .ref (a 0)), (1, .int (nI (q)))]) E.1 E.2.1 dX4_dealsWith_73 hl rfl (by decide) rfl (fun ls hl => ?_)
            refine lv_goto (tgt := 4) E.1 E.2.1 dX4_dealsWith_76 (by decide) ?_
            exact ih (d + 1) (by omega) (by omega) _ _ _ (HB.eq hw (rfl)) (lvh_eq (l := [(0, .ref (a 0)), (1, .int (nI (q))), (2, .int (nI (dwI q N d + 1))), (3, .int (nI (d + 1)))]) (lv_sub hl [4, 5, 1, 0] rfl) (by rw [dwI, if_pos (by omega)]))
          · skip
            refine lv_iload E.1 E.2.1 dX4_dealsWith_61 (lv_at hl 0 rfl) ?_
            refine lv_if_eqN (tgt := 70) E.1 E.2.1 (by omega) dX4_dealsWith_63 (by decide) (fun c63 => ?_) (fun c63 => ?_)
            · skip
              refine lv_iconst (v := nI 0) E.1 E.2.1 dX4_dealsWith_70 (by decide) ?_
              refine lv_addN E.1 E.2.1 dX4_dealsWith_71 ?_
              refine lv_istore_n (lv' := [(2, .int (nI (dwI q N d + 0))), (5, .int (nI (0))), (4, .int (nI (1))), (0, .ref (a 0)), (1, .int (nI (q))), (3, .int (nI (d)))]) E.1 E.2.1 dX4_dealsWith_72 rfl hl (by decide) rfl (fun ls hl => ?_)
              refine lv_iincN (k := 5) (lv' := [(3, .int (nI (d + 1))), (2, .int (nI (dwI q N d + 0))), (5, .int (nI (0))), (4, .int (nI (1))), (0, .ref (a 0)), (1, .int (nI (q)))]) E.1 E.2.1 dX4_dealsWith_73 hl rfl (by decide) rfl (fun ls hl => ?_)
              refine lv_goto (tgt := 4) E.1 E.2.1 dX4_dealsWith_76 (by decide) ?_
              exact ih (d + 1) (by omega) (by omega) _ _ _ (HB.eq hw (rfl)) (lvh_eq (l := [(0, .ref (a 0)), (1, .int (nI (q))), (2, .int (nI (dwI q N d + 0))), (3, .int (nI (d + 1)))]) (lv_sub hl [4, 5, 1, 0] rfl) (by rw [dwI, if_neg (by omega)]))
            · exact absurd c63 (by decide)
        · skip
          refine lv_iload E.1 E.2.1 dX4_dealsWith_52 (lv_at hl 1 rfl) ?_
          refine lv_if_eqN (tgt := 70) E.1 E.2.1 (by omega) dX4_dealsWith_54 (by decide) (fun c54 => ?_) (fun c54 => ?_)
          · exact absurd c54 (by decide)
          · skip
            refine lv_iload_n E.1 E.2.1 dX4_dealsWith_57 rfl (lv_at hl 3 rfl) ?_
            refine lv_if_eqN (tgt := 66) E.1 E.2.1 (by omega) dX4_dealsWith_58 (by decide) (fun c58 => ?_) (fun c58 => ?_)
            · skip
              refine lv_iconst (v := nI 1) E.1 E.2.1 dX4_dealsWith_66 (by decide) ?_
              refine lv_goto (tgt := 71) E.1 E.2.1 dX4_dealsWith_67 (by decide) ?_
              refine lv_addN E.1 E.2.1 dX4_dealsWith_71 ?_
              refine lv_istore_n (lv' := [(2, .int (nI (dwI q N d + 1))), (5, .int (nI (0))), (4, .int (nI (1))), (0, .ref (a 0)), (1, .int (nI (q))), (3, .int (nI (d)))]) E.1 E.2.1 dX4_dealsWith_72 rfl hl (by decide) rfl (fun ls hl => ?_)
              refine lv_iincN (k := 5) (lv' := [(3, .int (nI (d + 1))), (2, .int (nI (dwI q N d + 1))), (5, .int (nI (0))), (4, .int (nI (1))), (0, .ref (a 0)), (1, .int (nI (q)))]) E.1 E.2.1 dX4_dealsWith_73 hl rfl (by decide) rfl (fun ls hl => ?_)
              refine lv_goto (tgt := 4) E.1 E.2.1 dX4_dealsWith_76 (by decide) ?_
              exact ih (d + 1) (by omega) (by omega) _ _ _ (HB.eq hw (rfl)) (lvh_eq (l := [(0, .ref (a 0)), (1, .int (nI (q))), (2, .int (nI (dwI q N d + 1))), (3, .int (nI (d + 1)))]) (lv_sub hl [4, 5, 1, 0] rfl) (by rw [dwI, if_pos (by omega)]))
            · skip
              refine lv_iload E.1 E.2.1 dX4_dealsWith_61 (lv_at hl 0 rfl) ?_
              refine lv_if_eqN (tgt := 70) E.1 E.2.1 (by omega) dX4_dealsWith_63 (by decide) (fun c63 => ?_) (fun c63 => ?_)
              · skip
                refine lv_iconst (v := nI 0) E.1 E.2.1 dX4_dealsWith_70 (by decide) ?_
                refine lv_addN E.1 E.2.1 dX4_dealsWith_71 ?_
                refine lv_istore_n (lv' := [(2, .int (nI (dwI q N d + 0))), (5, .int (nI (0))), (4, .int (nI (1))), (0, .ref (a 0)), (1, .int (nI (q))), (3, .int (nI (d)))]) E.1 E.2.1 dX4_dealsWith_72 rfl hl (by decide) rfl (fun ls hl => ?_)
                refine lv_iincN (k := 5) (lv' := [(3, .int (nI (d + 1))), (2, .int (nI (dwI q N d + 0))), (5, .int (nI (0))), (4, .int (nI (1))), (0, .ref (a 0)), (1, .int (nI (q)))]) E.1 E.2.1 dX4_dealsWith_73 hl rfl (by decide) rfl (fun ls hl => ?_)
                refine lv_goto (tgt := 4) E.1 E.2.1 dX4_dealsWith_76 (by decide) ?_
                exact ih (d + 1) (by omega) (by omega) _ _ _ (HB.eq hw (rfl)) (lvh_eq (l := [(0, .ref (a 0)), (1, .int (nI (q))), (2, .int (nI (dwI q N d + 0))), (3, .int (nI (d + 1)))]) (lv_sub hl [4, 5, 1, 0] rfl) (by rw [dwI, if_neg (by omega)]))
              · exact absurd c63 (by decide)
      · skip
        refine lv_iconst (v := nI 1) E.1 E.2.1 dX4_dealsWith_39 (by decide) ?_
        refine lv_goto (tgt := 44) E.1 E.2.1 dX4_dealsWith_40 (by decide) ?_
        refine lv_istore (lv' := [(5, .int (nI (1))), (4, .int (nI (1))), (0, .ref (a 0)), (1, .int (nI (q))), (2, .int (nI (dwI q N d))), (3, .int (nI (d)))]) E.1 E.2.1 dX4_dealsWith_44 hl (by decide) rfl (fun ls hl => ?_)
        refine lv_iload_n E.1 E.2.1 dX4_dealsWith_46 rfl (lv_at hl 4 rfl) ?_
        refine lv_iload_n E.1 E.2.1 dX4_dealsWith_47 rfl (lv_at hl 3 rfl) ?_
        refine lv_iconst (v := nI 1) E.1 E.2.1 dX4_dealsWith_48 (by decide) ?_
        refine lv_icmp_eqN (tgt := 57) E.1 E.2.1 (by omega) (by omega) dX4_dealsWith_49 (by decide) (fun c49 => ?_) (fun c49 => ?_)
        · skip
          refine lv_iload_n E.1 E.2.1 dX4_dealsWith_57 rfl (lv_at hl 3 rfl) ?_
          refine lv_if_eqN (tgt := 66) E.1 E.2.1 (by omega) dX4_dealsWith_58 (by decide) (fun c58 => ?_) (fun c58 => ?_)
          · skip
            refine lv_iconst (v := nI 1) E.1 E.2.1 dX4_dealsWith_66 (by decide) ?_
            refine lv_goto (tgt := 71) E.1 E.2.1 dX4_dealsWith_67 (by decide) ?_
            refine lv_addN E.1 E.2.1 dX4_dealsWith_71 ?_
            refine lv_istore_n (lv' := [(2, .int (nI (dwI q N d + 1))), (5, .int (nI (1))), (4, .int (nI (1))), (0, .ref (a 0)), (1, .int (nI (q))), (3, .int (nI (d)))]) E.1 E.2.1 dX4_dealsWith_72 rfl hl (by decide) rfl (fun ls hl => ?_)
            refine lv_iincN (k := 5) (lv' := [(3, .int (nI (d + 1))), (2, .int (nI (dwI q N d + 1))), (5, .int (nI (1))), (4, .int (nI (1))), (0, .ref (a 0)), (1, .int (nI (q)))]) E.1 E.2.1 dX4_dealsWith_73 hl rfl (by decide) rfl (fun ls hl => ?_)
            refine lv_goto (tgt := 4) E.1 E.2.1 dX4_dealsWith_76 (by decide) ?_
            exact ih (d + 1) (by omega) (by omega) _ _ _ (HB.eq hw (rfl)) (lvh_eq (l := [(0, .ref (a 0)), (1, .int (nI (q))), (2, .int (nI (dwI q N d + 1))), (3, .int (nI (d + 1)))]) (lv_sub hl [4, 5, 1, 0] rfl) (by rw [dwI, if_pos (by omega)]))
          · skip
            refine lv_iload E.1 E.2.1 dX4_dealsWith_61 (lv_at hl 0 rfl) ?_
            refine lv_if_eqN (tgt := 70) E.1 E.2.1 (by omega) dX4_dealsWith_63 (by decide) (fun c63 => ?_) (fun c63 => ?_)
            · exact absurd c63 (by decide)
            · skip
              refine lv_iconst (v := nI 1) E.1 E.2.1 dX4_dealsWith_66 (by decide) ?_
              refine lv_goto (tgt := 71) E.1 E.2.1 dX4_dealsWith_67 (by decide) ?_
              refine lv_addN E.1 E.2.1 dX4_dealsWith_71 ?_
              refine lv_istore_n (lv' := [(2, .int (nI (dwI q N d + 1))), (5, .int (nI (1))), (4, .int (nI (1))), (0, .ref (a 0)), (1, .int (nI (q))), (3, .int (nI (d)))]) E.1 E.2.1 dX4_dealsWith_72 rfl hl (by decide) rfl (fun ls hl => ?_)
              refine lv_iincN (k := 5) (lv' := [(3, .int (nI (d + 1))), (2, .int (nI (dwI q N d + 1))), (5, .int (nI (1))), (4, .int (nI (1))), (0, .ref (a 0)), (1, .int (nI (q)))]) E.1 E.2.1 dX4_dealsWith_73 hl rfl (by decide) rfl (fun ls hl => ?_)
              refine lv_goto (tgt := 4) E.1 E.2.1 dX4_dealsWith_76 (by decide) ?_
              exact ih (d + 1) (by omega) (by omega) _ _ _ (HB.eq hw (rfl)) (lvh_eq (l := [(0, .ref (a 0)), (1, .int (nI (q))), (2, .int (nI (dwI q N d + 1))), (3, .int (nI (d + 1)))]) (lv_sub hl [4, 5, 1, 0] rfl) (by rw [dwI, if_pos (by omega)]))
        · skip
          refine lv_iload E.1 E.2.1 dX4_dealsWith_52 (lv_at hl 1 rfl) ?_
          refine lv_if_eqN (tgt := 70) E.1 E.2.1 (by omega) dX4_dealsWith_54 (by decide) (fun c54 => ?_) (fun c54 => ?_)
          · exact absurd c54 (by decide)
          · skip
            refine lv_iload_n E.1 E.2.1 dX4_dealsWith_57 rfl (lv_at hl 3 rfl) ?_
            refine lv_if_eqN (tgt := 66) E.1 E.2.1 (by omega) dX4_dealsWith_58 (by decide) (fun c58 => ?_) (fun c58 => ?_)
            · skip
              refine lv_iconst (v := nI 1) E.1 E.2.1 dX4_dealsWith_66 (by decide) ?_
              refine lv_goto (tgt := 71) E.1 E.2.1 dX4_dealsWith_67 (by decide) ?_
              refine lv_addN E.1 E.2.1 dX4_dealsWith_71 ?_
              refine lv_istore_n (lv' := [(2, .int (nI (dwI q N d + 1))), (5, .int (nI (1))), (4, .int (nI (1))), (0, .ref (a 0)), (1, .int (nI (q))), (3, .int (nI (d)))]) E.1 E.2.1 dX4_dealsWith_72 rfl hl (by decide) rfl (fun ls hl => ?_)
              refine lv_iincN (k := 5) (lv' := [(3, .int (nI (d + 1))), (2, .int (nI (dwI q N d + 1))), (5, .int (nI (1))), (4, .int (nI (1))), (0, .ref (a 0)), (1, .int (nI (q)))]) E.1 E.2.1 dX4_dealsWith_73 hl rfl (by decide) rfl (fun ls hl => ?_)
              refine lv_goto (tgt := 4) E.1 E.2.1 dX4_dealsWith_76 (by decide) ?_
              exact ih (d + 1) (by omega) (by omega) _ _ _ (HB.eq hw (rfl)) (lvh_eq (l := [(0, .ref (a 0)), (1, .int (nI (q))), (2, .int (nI (dwI q N d + 1))), (3, .int (nI (d + 1)))]) (lv_sub hl [4, 5, 1, 0] rfl) (by rw [dwI, if_pos (by omega)]))
            · skip
              refine lv_iload E.1 E.2.1 dX4_dealsWith_61 (lv_at hl 0 rfl) ?_
              refine lv_if_eqN (tgt := 70) E.1 E.2.1 (by omega) dX4_dealsWith_63 (by decide) (fun c63 => ?_) (fun c63 => ?_)
              · exact absurd c63 (by decide)
              · skip
                refine lv_iconst (v := nI 1) E.1 E.2.1 dX4_dealsWith_66 (by decide) ?_
                refine lv_goto (tgt := 71) E.1 E.2.1 dX4_dealsWith_67 (by decide) ?_
                refine lv_addN E.1 E.2.1 dX4_dealsWith_71 ?_
                refine lv_istore_n (lv' := [(2, .int (nI (dwI q N d + 1))), (5, .int (nI (1))), (4, .int (nI (1))), (0, .ref (a 0)), (1, .int (nI (q))), (3, .int (nI (d)))]) E.1 E.2.1 dX4_dealsWith_72 rfl hl (by decide) rfl (fun ls hl => ?_)
                refine lv_iincN (k := 5) (lv' := [(3, .int (nI (d + 1))), (2, .int (nI (dwI q N d + 1))), (5, .int (nI (1))), (4, .int (nI (1))), (0, .ref (a 0)), (1, .int (nI (q)))]) E.1 E.2.1 dX4_dealsWith_73 hl rfl (by decide) rfl (fun ls hl => ?_)
                refine lv_goto (tgt := 4) E.1 E.2.1 dX4_dealsWith_76 (by decide) ?_
                exact ih (d + 1) (by omega) (by omega) _ _ _ (HB.eq hw (rfl)) (lvh_eq (l := [(0, .ref (a 0)), (1, .int (nI (q))), (2, .int (nI (dwI q N d + 1))), (3, .int (nI (d + 1)))]) (lv_sub hl [4, 5, 1, 0] rfl) (by rw [dwI, if_pos (by omega)]))
theorem YX4_count : YV yX4_count RX4 cX4_count 2 (some .int) 1 := ⟨mw_21_16, mw_21_17, mw_1_5, mw_21_18, by decide +kernel⟩
set_option maxHeartbeats 4000000 in
set_option maxRecDepth 100000 in
theorem c_X4_count_bad (l : Launch) (G : GP) (a : Nat → Nat) (N : NS) (x : MX) (v : Int32) (h : ¬ (nI 0 ≤ v ∧ v ≤ nI 13)) : MI l yX4_count (.code yX4_count cX4_count 2 (some .int) :: GW) ({ frames := 1, cells := 0, slots := 0, locals := 22 }) [.ref (a 0), .int (v)] G ES (mN G a (N) (x)) (mN G a (N) (x)) (-2) := by
  refine MI.of (own := RX4) rfl rfl (Nat.le_of_ble_eq_true rfl) ?_
  intro pP eE sS mM below meth cC ls AA E hw hl hr hlk hE
  replace hl : lv_has ls 2 [(0, .ref (a 0)), (1, .int (v))] := hl
  refine lv_iload_n E.1 E.2.1 dX4_count_0 rfl (lv_at hl 1 rfl) ?_
  refine lv_bipush (v := nI 7) E.1 E.2.1 dX4_count_1 (by decide) ?_
  refine lv_bipush (v := nI 10) E.1 E.2.1 dX4_count_3 (by decide) ?_
  refine callSI E (c_X4_in l G (v) (nI (7)) (nI (10))) mw_5_13 YX4_in ⟨rfl, rfl⟩ ⟨Nat.le_of_ble_eq_true rfl, Nat.le_of_ble_eq_true rfl⟩ ⟨Nat.zero_le _, Nat.zero_le _⟩ hw (w := []) (w' := []) (rr := mN G a (N) (x)) (big' := mN G a (N) (x)) (List.Perm.refl _) (List.Perm.refl _) rfl hl rfl (Nat.le_of_ble_eq_true rfl) dX4_count_5 (fun H locs hw => ?_)
  refine lv_if_eqB (tgt := 21) E.1 E.2.1 dX4_count_8 (by decide) (fun c8 => ?_) (fun c8 => ?_)
  · skip
    refine lv_iload_n E.1 E.2.1 dX4_count_21 rfl (lv_at hl 1 rfl) ?_
    refine lv_bipush (v := nI 11) E.1 E.2.1 dX4_count_22 (by decide) ?_
    refine lv_bipush (v := nI 13) E.1 E.2.1 dX4_count_24 (by decide) ?_
    refine callSI E (c_X4_in l G (v) (nI (11)) (nI (13))) mw_5_13 YX4_in ⟨rfl, rfl⟩ ⟨Nat.le_of_ble_eq_true rfl, Nat.le_of_ble_eq_true rfl⟩ ⟨Nat.zero_le _, Nat.zero_le _⟩ hw (w := []) (w' := []) (rr := mN G a (N) (x)) (big' := mN G a (N) (x)) (List.Perm.refl _) (List.Perm.refl _) rfl hl rfl (Nat.le_of_ble_eq_true rfl) dX4_count_26 (fun H locs hw => ?_)
    refine lv_if_eqB (tgt := 41) E.1 E.2.1 dX4_count_29 (by decide) (fun c29 => ?_) (fun c29 => ?_)
    · skip
      refine lv_iload_n E.1 E.2.1 dX4_count_41 rfl (lv_at hl 1 rfl) ?_
      refine lv_iconst (v := nI 0) E.1 E.2.1 dX4_count_42 (by decide) ?_
      refine lv_iconst (v := nI 4) E.1 E.2.1 dX4_count_43 (by decide) ?_
      refine callSI E (c_X4_in l G (v) (nI (0)) (nI (4))) mw_5_13 YX4_in ⟨rfl, rfl⟩ ⟨Nat.le_of_ble_eq_true rfl, Nat.le_of_ble_eq_true rfl⟩ ⟨Nat.zero_le _, Nat.zero_le _⟩ hw (w := []) (w' := []) (rr := mN G a (N) (x)) (big' := mN G a (N) (x)) (List.Perm.refl _) (List.Perm.refl _) rfl hl rfl (Nat.le_of_ble_eq_true rfl) dX4_count_44 (fun H locs hw => ?_)
      refine lv_if_eqB (tgt := 61) E.1 E.2.1 dX4_count_47 (by decide) (fun c47 => ?_) (fun c47 => ?_)
      · skip
        refine lv_iload_n E.1 E.2.1 dX4_count_61 rfl (lv_at hl 1 rfl) ?_
        refine lv_iconst (v := nI 5) E.1 E.2.1 dX4_count_62 (by decide) ?_
        refine lv_icmp_ne (tgt := 73) E.1 E.2.1 dX4_count_63 (by decide) (fun c63 => ?_) (fun c63 => ?_)
        · skip
          refine lv_iload_n E.1 E.2.1 dX4_count_73 rfl (lv_at hl 1 rfl) ?_
          refine lv_bipush (v := nI 6) E.1 E.2.1 dX4_count_74 (by decide) ?_
          refine lv_icmp_ne (tgt := 86) E.1 E.2.1 dX4_count_76 (by decide) (fun c76 => ?_) (fun c76 => ?_)
          · skip
            refine lv_bipush (v := -2) E.1 E.2.1 dX4_count_86 (by decide) ?_
            exact rI E hr hlk (HB.eq hw (rfl)) (rfl) dX4_count_88
          · exact absurd (by rw [c76]; decide) h
        · exact absurd (by rw [c63]; decide) h
      · exact absurd ⟨c47.1, Int32.le_trans c47.2 (by decide)⟩ h
    · exact absurd ⟨Int32.le_trans (by decide) c29.1, c29.2⟩ h
  · exact absurd ⟨Int32.le_trans (by decide) c8.1, Int32.le_trans c8.2 (by decide)⟩ h
set_option maxHeartbeats 4000000 in
set_option maxRecDepth 100000 in
theorem c_X4_count_ok (l : Launch) (G : GP) (a : Nat → Nat) (N : NS) (x : MX) (k : Nat) (hk : k < 14) (hF : FI N) : MI l yX4_count (.code yX4_count cX4_count 2 (some .int) :: GW) ({ frames := 4, cells := 0, slots := 0, locals := 93 }) [.ref (a 0), .int (nI (k))] G ES (mN G a (N) (x)) (mN G a (N) (x)) ((if k < 5 then nI (N (4 + k)) else if k = 5 then x.1 1 else if k = 6 then x.1 0 else if k < 11 then nI (N (k - 7)) else nI (dwI (k - 11) N (N 5)))) := by
  refine MI.of (own := RX4) rfl rfl (Nat.le_of_ble_eq_true rfl) ?_
  intro pP eE sS mM below meth cC ls AA E hw hl hr hlk hE
  replace hl : lv_has ls 2 [(0, .ref (a 0)), (1, .int (nI (k)))] := hl
  refine lv_iload_n E.1 E.2.1 dX4_count_0 rfl (lv_at hl 1 rfl) ?_
  refine lv_bipush (v := nI 7) E.1 E.2.1 dX4_count_1 (by decide) ?_
  refine lv_bipush (v := nI 10) E.1 E.2.1 dX4_count_3 (by decide) ?_
  refine callSI E (c_X4_in l G (nI (k)) (nI (7)) (nI (10))) mw_5_13 YX4_in ⟨rfl, rfl⟩ ⟨Nat.le_of_ble_eq_true rfl, Nat.le_of_ble_eq_true rfl⟩ ⟨Nat.zero_le _, Nat.zero_le _⟩ hw (w := []) (w' := []) (rr := mN G a (N) (x)) (big' := mN G a (N) (x)) (List.Perm.refl _) (List.Perm.refl _) rfl hl rfl (Nat.le_of_ble_eq_true rfl) dX4_count_5 (fun H locs hw => ?_)
  refine lv_if_eqB (tgt := 21) E.1 E.2.1 dX4_count_8 (by decide) (fun c8 => ?_) (fun c8 => ?_)
  · skip
    refine lv_iload_n E.1 E.2.1 dX4_count_21 rfl (lv_at hl 1 rfl) ?_
    refine lv_bipush (v := nI 11) E.1 E.2.1 dX4_count_22 (by decide) ?_
    refine lv_bipush (v := nI 13) E.1 E.2.1 dX4_count_24 (by decide) ?_
    refine callSI E (c_X4_in l G (nI (k)) (nI (11)) (nI (13))) mw_5_13 YX4_in ⟨rfl, rfl⟩ ⟨Nat.le_of_ble_eq_true rfl, Nat.le_of_ble_eq_true rfl⟩ ⟨Nat.zero_le _, Nat.zero_le _⟩ hw (w := []) (w' := []) (rr := mN G a (N) (x)) (big' := mN G a (N) (x)) (List.Perm.refl _) (List.Perm.refl _) rfl hl rfl (Nat.le_of_ble_eq_true rfl) dX4_count_26 (fun H locs hw => ?_)
    refine lv_if_eqB (tgt := 41) E.1 E.2.1 dX4_count_29 (by decide) (fun c29 => ?_) (fun c29 => ?_)
    · skip
      refine lv_iload_n E.1 E.2.1 dX4_count_41 rfl (lv_at hl 1 rfl) ?_
      refine lv_iconst (v := nI 0) E.1 E.2.1 dX4_count_42 (by decide) ?_
      refine lv_iconst (v := nI 4) E.1 E.2.1 dX4_count_43 (by decide) ?_
      refine callSI E (c_X4_in l G (nI (k)) (nI (0)) (nI (4))) mw_5_13 YX4_in ⟨rfl, rfl⟩ ⟨Nat.le_of_ble_eq_true rfl, Nat.le_of_ble_eq_true rfl⟩ ⟨Nat.zero_le _, Nat.zero_le _⟩ hw (w := []) (w' := []) (rr := mN G a (N) (x)) (big' := mN G a (N) (x)) (List.Perm.refl _) (List.Perm.refl _) rfl hl rfl (Nat.le_of_ble_eq_true rfl) dX4_count_44 (fun H locs hw => ?_)
      refine lv_if_eqB (tgt := 61) E.1 E.2.1 dX4_count_47 (by decide) (fun c47 => ?_) (fun c47 => ?_)
      · skip
        have q8 : ¬ (7 ≤ k ∧ k < 11) := fun z => c8 (inN (by omega) (by omega) (by decide))
        have q29 : ¬ 11 ≤ k := fun z => c29 (inN (by omega) (by omega) (by decide))
        have q47 : ¬ k < 5 := fun z => c47 (inN (by omega) (by omega) (by decide))
        refine lv_iload_n E.1 E.2.1 dX4_count_61 rfl (lv_at hl 1 rfl) ?_
        refine lv_iconst (v := nI 5) E.1 E.2.1 dX4_count_62 (by decide) ?_
        refine lv_icmp_neN (tgt := 73) E.1 E.2.1 (by omega) (by omega) dX4_count_63 (by decide) (fun c63 => ?_) (fun c63 => ?_)
        · skip
          refine lv_iload_n E.1 E.2.1 dX4_count_73 rfl (lv_at hl 1 rfl) ?_
          refine lv_bipush (v := nI 6) E.1 E.2.1 dX4_count_74 (by decide) ?_
          refine lv_icmp_neN (tgt := 86) E.1 E.2.1 (by omega) (by omega) dX4_count_76 (by decide) (fun c76 => ?_) (fun c76 => ?_)
          · omega
          · skip
            refine lv_aload_n E.1 E.2.1 dX4_count_79 rfl (lv_at hl 0 rfl) ?_
            refine gX4_3 E hw mw_5_21 dX4_count_80 ?_
            refine lv_goto (tgt := 88) E.1 E.2.1 dX4_count_83 (by decide) ?_
            exact rI E hr hlk (HB.eq hw (rfl)) (by rw [if_neg (by omega), if_neg (by omega), if_pos (by omega)]) dX4_count_88
        · skip
          refine lv_aload_n E.1 E.2.1 dX4_count_66 rfl (lv_at hl 0 rfl) ?_
          refine gX4_7 E hw mw_21_19 dX4_count_67 ?_
          refine lv_goto (tgt := 88) E.1 E.2.1 dX4_count_70 (by decide) ?_
          exact rI E hr hlk (HB.eq hw (rfl)) (by rw [if_neg (by omega), if_pos (by omega)]) dX4_count_88
      · skip
        have q47 : k < 5 := by have := (nI_leI (a := k) (b := 4) (by omega) (by decide)).mp c47.2; omega
        refine lv_aload_n E.1 E.2.1 dX4_count_50 rfl (lv_at hl 0 rfl) ?_
        refine gX4_0 E hw mw_3_8 dX4_count_51 ?_
        refine lv_iconst (v := nI 4) E.1 E.2.1 dX4_count_54 (by decide) ?_
        refine lv_iload_n E.1 E.2.1 dX4_count_55 rfl (lv_at hl 1 rfl) ?_
        refine lv_addN E.1 E.2.1 dX4_count_56 ?_
        refine lN4_0 E hw (v := N (4 + k)) (by omega) (rfl) dX4_count_57 ?_
        refine lv_goto (tgt := 88) E.1 E.2.1 dX4_count_58 (by decide) ?_
        exact rI E hr hlk (HB.eq hw (rfl)) (by rw [if_pos q47]) dX4_count_88
    · skip
      have q29 : 11 ≤ k ∧ k < 14 := ⟨(nI_leI (by decide) (by omega)).mp c29.1, by omega⟩
      refine lv_aload_n E.1 E.2.1 dX4_count_32 rfl (lv_at hl 0 rfl) ?_
      refine lv_iload_n E.1 E.2.1 dX4_count_33 rfl (lv_at hl 1 rfl) ?_
      refine lv_bipush (v := nI 11) E.1 E.2.1 dX4_count_34 (by decide) ?_
      refine lv_subN E.1 E.2.1 (by omega) dX4_count_36 ?_
      refine callVI E (c_X4_dealsWith l G a (N) (x) (k - 11) (by omega) hF) mw_21_20 YX4_dealsWith ⟨rfl, rfl⟩ ⟨Nat.le_of_ble_eq_true rfl, Nat.le_of_ble_eq_true rfl⟩ ⟨Nat.zero_le _, Nat.zero_le _⟩ hw 0 rfl rfl rfl hl rfl (Nat.le_of_ble_eq_true rfl) dX4_count_37 (fun H locs hw => ?_)
      exact rI E hr hlk (HB.eq hw (rfl)) (by rw [if_neg (by omega), if_neg (by omega), if_neg (by omega), if_neg (by omega)]) dX4_count_40
  · skip
    have q8 : 7 ≤ k ∧ k < 11 := ⟨(nI_leI (by decide) (by omega)).mp c8.1, by have := (nI_leI (a := k) (b := 10) (by omega) (by decide)).mp c8.2; omega⟩
    refine lv_aload_n E.1 E.2.1 dX4_count_11 rfl (lv_at hl 0 rfl) ?_
    refine gX4_0 E hw mw_3_8 dX4_count_12 ?_
    refine lv_iload_n E.1 E.2.1 dX4_count_15 rfl (lv_at hl 1 rfl) ?_
    refine lv_bipush (v := nI 7) E.1 E.2.1 dX4_count_16 (by decide) ?_
    refine lv_subN E.1 E.2.1 (by omega) dX4_count_18 ?_
    refine lN4_0 E hw (v := N (k - 7)) (by omega) (rfl) dX4_count_19 ?_
    exact rI E hr hlk (HB.eq hw (rfl)) (by rw [if_neg (by omega), if_neg (by omega), if_neg (by omega), if_pos (by omega)]) dX4_count_20
theorem YX4_sure : YV yX4_sure RX4 cX4_sure 3 (some .int) 1 := ⟨mw_22_9, mw_22_10, mw_1_5, mw_22_11, by decide +kernel⟩
set_option maxHeartbeats 4000000 in
set_option maxRecDepth 100000 in
theorem c_X4_sure_bad1 (l : Launch) (G : GP) (a : Nat → Nat) (N : NS) (x : MX) (e : Int32) (h5 : N 5 ≤ 8) (h : ¬ (0 ≤ e ∧ e < nI (N 5))) : MI l yX4_sure (.code yX4_sure cX4_sure 3 (some .int) :: GW) ({ frames := 2, cells := 0, slots := 0, locals := 43 }) [.ref (a 0), .int (e)] G ES (mN G a (N) (x)) (mN G a (N) (x)) (-1) := by
  refine MI.of (own := RX4) rfl rfl (Nat.le_of_ble_eq_true rfl) ?_
  intro pP eE sS mM below meth cC ls AA E hw hl hr hlk hE
  replace hl : lv_has ls 3 [(0, .ref (a 0)), (1, .int (e))] := hl
  refine lv_aload_n E.1 E.2.1 dX4_sure_0 rfl (lv_at hl 0 rfl) ?_
  refine lv_iload_n E.1 E.2.1 dX4_sure_1 rfl (lv_at hl 1 rfl) ?_
  refine callVI E (c_X4_isDeal l G a (N) (x) (e) (by omega)) mw_18_14 YX4_isDeal ⟨rfl, rfl⟩ ⟨Nat.le_of_ble_eq_true rfl, Nat.le_of_ble_eq_true rfl⟩ ⟨Nat.zero_le _, Nat.zero_le _⟩ hw 0 rfl rfl rfl hl rfl (Nat.le_of_ble_eq_true rfl) dX4_sure_2 (fun H locs hw => ?_)
  refine lv_if_neB (tgt := 10) E.1 E.2.1 dX4_sure_5 (by decide) (fun c5 => ?_) (fun c5 => ?_)
  · exact absurd c5 h
  · skip
    refine lv_iconst (v := -1) E.1 E.2.1 dX4_sure_8 (by decide) ?_
    exact rI E hr hlk (HB.eq hw (rfl)) (rfl) dX4_sure_9
set_option maxHeartbeats 4000000 in
set_option maxRecDepth 100000 in
theorem c_X4_sure_ok (l : Launch) (G : GP) (a : Nat → Nat) (N : NS) (x : MX) (d : Nat) (hd : d < N 5) (hF : FI N) : MI l yX4_sure (.code yX4_sure cX4_sure 3 (some .int) :: GW) ({ frames := 3, cells := 0, slots := 0, locals := 68 }) [.ref (a 0), .int (nI (d))] G ES (mN G a (N) (x)) (mN G a (N) (x)) (nI (suR d N)) := by
  refine MI.of (own := RX4) rfl rfl (Nat.le_of_ble_eq_true rfl) ?_
  intro pP eE sS mM below meth cC ls AA E hw hl hr hlk hE
  replace hl : lv_has ls 3 [(0, .ref (a 0)), (1, .int (nI (d)))] := hl
  have h5 := hF.2.1
  have h6 := hF.1
  have hd8 : d < 8 := by omega
  have h1 := hF.f1 hd8
  have hp3 := cOfI_lt (d := d) (s := 3) (N := N) 4 (by decide)
  have hq3 : cOf d 3 N < 16 := hp3
  refine lv_aload_n E.1 E.2.1 dX4_sure_0 rfl (lv_at hl 0 rfl) ?_
  refine lv_iload_n E.1 E.2.1 dX4_sure_1 rfl (lv_at hl 1 rfl) ?_
  refine callVI E (c_X4_isDeal l G a (N) (x) (nI (d)) (by omega)) mw_18_14 YX4_isDeal ⟨rfl, rfl⟩ ⟨Nat.le_of_ble_eq_true rfl, Nat.le_of_ble_eq_true rfl⟩ ⟨Nat.zero_le _, Nat.zero_le _⟩ hw 0 rfl rfl rfl hl rfl (Nat.le_of_ble_eq_true rfl) dX4_sure_2 (fun H locs hw => ?_)
  refine lv_if_neB (tgt := 10) E.1 E.2.1 dX4_sure_5 (by decide) (fun c5 => ?_) (fun c5 => ?_)
  · skip
    refine lv_aload_n E.1 E.2.1 dX4_sure_10 rfl (lv_at hl 0 rfl) ?_
    refine lv_iload_n E.1 E.2.1 dX4_sure_11 rfl (lv_at hl 1 rfl) ?_
    refine lv_iconst (v := nI 1) E.1 E.2.1 dX4_sure_12 (by decide) ?_
    refine callVI E (c_X4_of l G a (N) (x) d 1 (N (30 + 14 * d + 1)) (by omega) (rfl)) mw_12_1 YX4_of ⟨rfl, rfl⟩ ⟨Nat.le_of_ble_eq_true rfl, Nat.le_of_ble_eq_true rfl⟩ ⟨Nat.zero_le _, Nat.zero_le _⟩ hw 0 rfl rfl rfl hl rfl (Nat.le_of_ble_eq_true rfl) dX4_sure_13 (fun H locs hw => ?_)
    refine lv_istore_n (lv' := [(2, .int (nI (N (30 + 14 * d + 1)))), (0, .ref (a 0)), (1, .int (nI (d)))]) E.1 E.2.1 dX4_sure_16 rfl hl (by decide) rfl (fun ls hl => ?_)
    refine lv_iload_n E.1 E.2.1 dX4_sure_17 rfl (lv_at hl 0 rfl) ?_
    refine lv_iconst (v := nI 1) E.1 E.2.1 dX4_sure_18 (by decide) ?_
    refine lv_icmp_eqN (tgt := 27) E.1 E.2.1 (by omega) (by omega) dX4_sure_19 (by decide) (fun c19 => ?_) (fun c19 => ?_)
    · skip
      refine lv_iconst (v := nI 1) E.1 E.2.1 dX4_sure_27 (by decide) ?_
      refine lv_goto (tgt := 50) E.1 E.2.1 dX4_sure_28 (by decide) ?_
      exact rI E hr hlk (HB.eq hw (rfl)) (by rw [suR, if_pos (by omega)]) dX4_sure_50
    · skip
      refine lv_iload_n E.1 E.2.1 dX4_sure_22 rfl (lv_at hl 0 rfl) ?_
      refine lv_iconst (v := nI 3) E.1 E.2.1 dX4_sure_23 (by decide) ?_
      refine lv_icmp_neN (tgt := 31) E.1 E.2.1 (by omega) (by omega) dX4_sure_24 (by decide) (fun c24 => ?_) (fun c24 => ?_)
      · skip
        refine lv_iload_n E.1 E.2.1 dX4_sure_31 rfl (lv_at hl 0 rfl) ?_
        refine lv_iconst (v := nI 2) E.1 E.2.1 dX4_sure_32 (by decide) ?_
        refine lv_icmp_eqN (tgt := 45) E.1 E.2.1 (by omega) (by omega) dX4_sure_33 (by decide) (fun c33 => ?_) (fun c33 => ?_)
        · skip
          refine lv_iconst (v := nI 2) E.1 E.2.1 dX4_sure_45 (by decide) ?_
          refine lv_goto (tgt := 50) E.1 E.2.1 dX4_sure_46 (by decide) ?_
          exact rI E hr hlk (HB.eq hw (rfl)) (by rw [suR, if_neg (by omega), if_pos (by omega)]) dX4_sure_50
        · skip
          refine lv_aload_n E.1 E.2.1 dX4_sure_36 rfl (lv_at hl 1 rfl) ?_
          refine lv_iload_n E.1 E.2.1 dX4_sure_37 rfl (lv_at hl 2 rfl) ?_
          refine lv_iconst (v := nI 3) E.1 E.2.1 dX4_sure_38 (by decide) ?_
          refine callVI E (c_X4_clerksOf l G a (N) (x) d 3 (by omega) (by omega) (hF)) mw_18_18 YX4_clerksOf ⟨rfl, rfl⟩ ⟨Nat.le_of_ble_eq_true rfl, Nat.le_of_ble_eq_true rfl⟩ ⟨Nat.zero_le _, Nat.zero_le _⟩ hw 0 rfl rfl rfl hl rfl (Nat.le_of_ble_eq_true rfl) dX4_sure_39 (fun H locs hw => ?_)
          refine lv_if_eqN (tgt := 49) E.1 E.2.1 (by omega) dX4_sure_42 (by decide) (fun c42 => ?_) (fun c42 => ?_)
          · skip
            refine lv_iconst (v := nI 0) E.1 E.2.1 dX4_sure_49 (by decide) ?_
            exact rI E hr hlk (HB.eq hw (rfl)) (by rw [suR, if_neg (by omega), if_neg (by omega)]) dX4_sure_50
          · skip
            refine lv_iconst (v := nI 2) E.1 E.2.1 dX4_sure_45 (by decide) ?_
            refine lv_goto (tgt := 50) E.1 E.2.1 dX4_sure_46 (by decide) ?_
            exact rI E hr hlk (HB.eq hw (rfl)) (by rw [suR, if_neg (by omega), if_pos (by omega)]) dX4_sure_50
      · skip
        refine lv_iconst (v := nI 1) E.1 E.2.1 dX4_sure_27 (by decide) ?_
        refine lv_goto (tgt := 50) E.1 E.2.1 dX4_sure_28 (by decide) ?_
        exact rI E hr hlk (HB.eq hw (rfl)) (by rw [suR, if_pos (by omega)]) dX4_sure_50
  · exact absurd (in0 (by omega) (by omega)) c5
theorem YX4_canAsk : YV yX4_canAsk RX4 cX4_canAsk 5 (some .boolean) 2 := ⟨mw_23_1, mw_23_2, mw_1_5, mw_23_3, by decide +kernel⟩
set_option maxHeartbeats 4000000 in
set_option maxRecDepth 100000 in
theorem c_X4_canAsk (l : Launch) (G : GP) (a : Nat → Nat) (N : NS) (x : MX) (d k : Nat) (hd : d < 8) (hk : k < 4) (hF : FI N) : MI l yX4_canAsk (.code yX4_canAsk cX4_canAsk 5 (some .boolean) :: GW) ({ frames := 2, cells := 0, slots := 0, locals := 44 }) [.ref (a 0), .int (nI (d)), .int (nI (k))] G ES (mN G a (N) (x)) (mN G a (N) (x)) (zb (caB d k N = true)) := by
  refine MI.of (own := RX4) rfl rfl (Nat.le_of_ble_eq_true rfl) ?_
  intro pP eE sS mM below meth cC ls AA E hw hl hr hlk hE
  replace hl : lv_has ls 5 [(0, .ref (a 0)), (1, .int (nI (d))), (2, .int (nI (k)))] := hl
  have h0 := hF.f0 hd
  have h1 := hF.f1 hd
  have hi4 : N 14 ≤ 1 := hF.il (w := 4) (by decide)
  have hik := hF.il (w := k) (by omega)
  have h7k := hF.f6 hd hk
  have hs3 := hF.2.2.2.1
  refine lv_aload_n E.1 E.2.1 dX4_canAsk_0 rfl (lv_at hl 0 rfl) ?_
  refine lv_iconst (v := nI 4) E.1 E.2.1 dX4_canAsk_1 (by decide) ?_
  refine callVI E (c_X4_isIll l G a (N) (x) 4 (N 14) (by omega) (rfl) (by omega)) mw_7_15 YX4_isIll ⟨rfl, rfl⟩ ⟨Nat.le_of_ble_eq_true rfl, Nat.le_of_ble_eq_true rfl⟩ ⟨Nat.zero_le _, Nat.zero_le _⟩ hw 0 rfl rfl rfl hl rfl (Nat.le_of_ble_eq_true rfl) dX4_canAsk_2 (fun H locs hw => ?_)
  refine lv_if_neB (tgt := 21) E.1 E.2.1 dX4_canAsk_5 (by decide) (fun c5 => ?_) (fun c5 => ?_)
  · skip
    refine lv_iconst (v := nI 0) E.1 E.2.1 dX4_canAsk_21 (by decide) ?_
    refine lv_istore_n (lv' := [(3, .int (nI (0))), (0, .ref (a 0)), (1, .int (nI (d))), (2, .int (nI (k)))]) E.1 E.2.1 dX4_canAsk_22 rfl hl (by decide) rfl (fun ls hl => ?_)
    refine lv_iconst (v := nI 0) E.1 E.2.1 dX4_canAsk_23 (by decide) ?_
    refine lv_istore (lv' := [(4, .int (nI (0))), (3, .int (nI (0))), (0, .ref (a 0)), (1, .int (nI (d))), (2, .int (nI (k)))]) E.1 E.2.1 dX4_canAsk_24 hl (by decide) rfl (fun ls hl => ?_)
    refine W_ind1 (nL := 5) (P := fun c => c ≤ 4) (μ := fun c => 4 - c) (I := fun c => mN G a (N) (x)) (L := fun c => [(0, .ref (a 0)), (1, .int (nI (d))), (2, .int (nI (k))), (3, .int (zb (elB d k N c = true))), (4, .int (nI (c)))]) ?_ (0) (Nat.zero_le _) (HB.eq hw (rfl)) (lvh_eq (l := [(0, .ref (a 0)), (1, .int (nI (d))), (2, .int (nI (k))), (3, .int (nI (0))), (4, .int (nI (0)))]) (lv_sub hl [2, 3, 4, 1, 0] rfl) (by rw [zb_f (fun y => (elB_0.mp y).1 c5)]; rfl))
    intro c hP ih H locs ls hw hl
    replace hw : HB G AA sS.heap (mN G a (N) (x)) H locs := hw
    replace hl : lv_has ls 5 [(0, .ref (a 0)), (1, .int (nI (d))), (2, .int (nI (k))), (3, .int (zb (elB d k N c = true))), (4, .int (nI (c)))] := hl
    refine lv_iload E.1 E.2.1 dX4_canAsk_26 (lv_at hl 4 rfl) ?_
    refine lv_iconst (v := nI 4) E.1 E.2.1 dX4_canAsk_28 (by decide) ?_
    refine lv_icmp_geN (tgt := 97) E.1 E.2.1 (by omega) (by omega) dX4_canAsk_29 (by decide) (fun c29 => ?_) (fun c29 => ?_)
    · skip
      obtain rfl : c = 4 := by omega
      refine lv_iload_n E.1 E.2.1 dX4_canAsk_97 rfl (lv_at hl 3 rfl) ?_
      refine lv_if_eqB (tgt := 135) E.1 E.2.1 dX4_canAsk_98 (by decide) (fun c98 => ?_) (fun c98 => ?_)
      · skip
        refine lv_iconst (v := nI 0) E.1 E.2.1 dX4_canAsk_135 (by decide) ?_
        exact rZ E hr hlk (HB.eq hw (rfl)) (by rw [zb_f (fun y => by have z := caB_i.mp y; exact c98 z.1)]; rfl) rfl dX4_canAsk_136
      · skip
        refine lv_aload_n E.1 E.2.1 dX4_canAsk_101 rfl (lv_at hl 0 rfl) ?_
        refine lv_iload_n E.1 E.2.1 dX4_canAsk_102 rfl (lv_at hl 2 rfl) ?_
        refine callVI E (c_X4_isIll l G a (N) (x) k (N (10 + k)) (by omega) (rfl) (by omega)) mw_7_15 YX4_isIll ⟨rfl, rfl⟩ ⟨Nat.le_of_ble_eq_true rfl, Nat.le_of_ble_eq_true rfl⟩ ⟨Nat.zero_le _, Nat.zero_le _⟩ hw 0 rfl rfl rfl hl rfl (Nat.le_of_ble_eq_true rfl) dX4_canAsk_103 (fun H locs hw => ?_)
        refine lv_if_neB (tgt := 135) E.1 E.2.1 dX4_canAsk_106 (by decide) (fun c106 => ?_) (fun c106 => ?_)
        · skip
          refine lv_iconst (v := nI 0) E.1 E.2.1 dX4_canAsk_135 (by decide) ?_
          exact rZ E hr hlk (HB.eq hw (rfl)) (by rw [zb_f (fun y => by have z := caB_i.mp y; exact z.2.1 c106)]; rfl) rfl dX4_canAsk_136
        · skip
          refine lv_aload_n E.1 E.2.1 dX4_canAsk_109 rfl (lv_at hl 0 rfl) ?_
          refine lv_iload_n E.1 E.2.1 dX4_canAsk_110 rfl (lv_at hl 1 rfl) ?_
          refine lv_iload_n E.1 E.2.1 dX4_canAsk_111 rfl (lv_at hl 2 rfl) ?_
          refine callVI E (c_X4_isPart l G a (N) (x) d k (N (30 + 14 * d + 0)) (by omega) (by omega) (rfl) (by omega)) mw_15_7 YX4_isPart ⟨rfl, rfl⟩ ⟨Nat.le_of_ble_eq_true rfl, Nat.le_of_ble_eq_true rfl⟩ ⟨Nat.zero_le _, Nat.zero_le _⟩ hw 0 rfl rfl rfl hl rfl (Nat.le_of_ble_eq_true rfl) dX4_canAsk_112 (fun H locs hw => ?_)
          refine lv_if_eqB (tgt := 135) E.1 E.2.1 dX4_canAsk_115 (by decide) (fun c115 => ?_) (fun c115 => ?_)
          · skip
            refine lv_iconst (v := nI 0) E.1 E.2.1 dX4_canAsk_135 (by decide) ?_
            exact rZ E hr hlk (HB.eq hw (rfl)) (by rw [zb_f (fun y => by have z := caB_i.mp y; exact c115 z.2.2.1)]; rfl) rfl dX4_canAsk_136
          · skip
            refine lv_aload_n E.1 E.2.1 dX4_canAsk_118 rfl (lv_at hl 0 rfl) ?_
            refine lv_iload_n E.1 E.2.1 dX4_canAsk_119 rfl (lv_at hl 1 rfl) ?_
            refine lv_bipush (v := nI 6) E.1 E.2.1 dX4_canAsk_120 (by decide) ?_
            refine lv_iload_n E.1 E.2.1 dX4_canAsk_122 rfl (lv_at hl 2 rfl) ?_
            refine lv_addN E.1 E.2.1 dX4_canAsk_123 ?_
            refine callVI E (c_X4_of l G a (N) (x) d (6 + k) (N (30 + 14 * d + (6 + k))) (by omega) (rfl)) mw_12_1 YX4_of ⟨rfl, rfl⟩ ⟨Nat.le_of_ble_eq_true rfl, Nat.le_of_ble_eq_true rfl⟩ ⟨Nat.zero_le _, Nat.zero_le _⟩ hw 0 rfl rfl rfl hl rfl (Nat.le_of_ble_eq_true rfl) dX4_canAsk_124 (fun H locs hw => ?_)
            refine lv_iconst (v := nI 1) E.1 E.2.1 dX4_canAsk_127 (by decide) ?_
            refine lv_icmp_neN (tgt := 135) E.1 E.2.1 (by omega) (by omega) dX4_canAsk_128 (by decide) (fun c128 => ?_) (fun c128 => ?_)
            · skip
              refine lv_iconst (v := nI 0) E.1 E.2.1 dX4_canAsk_135 (by decide) ?_
              exact rZ E hr hlk (HB.eq hw (rfl)) (by rw [zb_f (fun y => by have z := caB_i.mp y; exact c128 z.2.2.2)]; rfl) rfl dX4_canAsk_136
            · skip
              refine lv_iconst (v := nI 1) E.1 E.2.1 dX4_canAsk_131 (by decide) ?_
              refine lv_goto (tgt := 136) E.1 E.2.1 dX4_canAsk_132 (by decide) ?_
              exact rZ E hr hlk (HB.eq hw (rfl)) (by rw [zb_t (caB_i.mpr ⟨c98, c106, c115, c128⟩)]; rfl) rfl dX4_canAsk_136
    · skip
      have hc : c < 4 := by omega
      have hic := hF.il (w := c) (by omega)
      have h7c := hF.f6 hd hc
      refine lv_iload_n E.1 E.2.1 dX4_canAsk_32 rfl (lv_at hl 3 rfl) ?_
      refine lv_if_neB (tgt := 85) E.1 E.2.1 dX4_canAsk_33 (by decide) (fun c33 => ?_) (fun c33 => ?_)
      · skip
        refine lv_iconst (v := nI 1) E.1 E.2.1 dX4_canAsk_85 (by decide) ?_
        refine lv_goto (tgt := 90) E.1 E.2.1 dX4_canAsk_86 (by decide) ?_
        refine lv_istore_n (lv' := [(3, .int (nI (1))), (0, .ref (a 0)), (1, .int (nI (d))), (2, .int (nI (k))), (4, .int (nI (c)))]) E.1 E.2.1 dX4_canAsk_90 rfl hl (by decide) rfl (fun ls hl => ?_)
        refine lv_iincN (k := 4) (lv' := [(4, .int (nI (c + 1))), (3, .int (nI (1))), (0, .ref (a 0)), (1, .int (nI (d))), (2, .int (nI (k)))]) E.1 E.2.1 dX4_canAsk_91 hl rfl (by decide) rfl (fun ls hl => ?_)
        refine lv_goto (tgt := 26) E.1 E.2.1 dX4_canAsk_94 (by decide) ?_
        exact ih (c + 1) (by omega) (by omega) _ _ _ (HB.eq hw (rfl)) (lvh_eq (l := [(0, .ref (a 0)), (1, .int (nI (d))), (2, .int (nI (k))), (3, .int (nI (1))), (4, .int (nI (c + 1)))]) (lv_sub hl [2, 3, 4, 1, 0] rfl) (by rw [zb_t (elB_s.mpr (Or.inl c33))]; rfl))
      · skip
        refine lv_aload_n E.1 E.2.1 dX4_canAsk_36 rfl (lv_at hl 0 rfl) ?_
        refine gX4_0 E hw mw_3_8 dX4_canAsk_37 ?_
        refine lv_iconst (v := nI 3) E.1 E.2.1 dX4_canAsk_40 (by decide) ?_
        refine lN4_0 E hw (v := N 3) (by omega) (rfl) dX4_canAsk_41 ?_
        refine lv_iconst (v := nI 1) E.1 E.2.1 dX4_canAsk_42 (by decide) ?_
        refine lv_icmp_neN (tgt := 89) E.1 E.2.1 (by omega) (by omega) dX4_canAsk_43 (by decide) (fun c43 => ?_) (fun c43 => ?_)
        · skip
          refine lv_iconst (v := nI 0) E.1 E.2.1 dX4_canAsk_89 (by decide) ?_
          refine lv_istore_n (lv' := [(3, .int (nI (0))), (0, .ref (a 0)), (1, .int (nI (d))), (2, .int (nI (k))), (4, .int (nI (c)))]) E.1 E.2.1 dX4_canAsk_90 rfl hl (by decide) rfl (fun ls hl => ?_)
          refine lv_iincN (k := 4) (lv' := [(4, .int (nI (c + 1))), (3, .int (nI (0))), (0, .ref (a 0)), (1, .int (nI (d))), (2, .int (nI (k)))]) E.1 E.2.1 dX4_canAsk_91 hl rfl (by decide) rfl (fun ls hl => ?_)
          refine lv_goto (tgt := 26) E.1 E.2.1 dX4_canAsk_94 (by decide) ?_
          exact ih (c + 1) (by omega) (by omega) _ _ _ (HB.eq hw (rfl)) (lvh_eq (l := [(0, .ref (a 0)), (1, .int (nI (d))), (2, .int (nI (k))), (3, .int (nI (0))), (4, .int (nI (c + 1)))]) (lv_sub hl [2, 3, 4, 1, 0] rfl) (by rw [zb_f (fun y => (elB_s.mp y).elim c33 (fun z => c43 z.1))]; rfl))
        · skip
          refine lv_iload E.1 E.2.1 dX4_canAsk_46 (lv_at hl 4 rfl) ?_
          refine lv_iload_n E.1 E.2.1 dX4_canAsk_48 rfl (lv_at hl 2 rfl) ?_
          refine lv_icmp_eqN (tgt := 89) E.1 E.2.1 (by omega) (by omega) dX4_canAsk_49 (by decide) (fun c49 => ?_) (fun c49 => ?_)
          · skip
            refine lv_iconst (v := nI 0) E.1 E.2.1 dX4_canAsk_89 (by decide) ?_
            refine lv_istore_n (lv' := [(3, .int (nI (0))), (0, .ref (a 0)), (1, .int (nI (d))), (2, .int (nI (k))), (4, .int (nI (c)))]) E.1 E.2.1 dX4_canAsk_90 rfl hl (by decide) rfl (fun ls hl => ?_)
            refine lv_iincN (k := 4) (lv' := [(4, .int (nI (c + 1))), (3, .int (nI (0))), (0, .ref (a 0)), (1, .int (nI (d))), (2, .int (nI (k)))]) E.1 E.2.1 dX4_canAsk_91 hl rfl (by decide) rfl (fun ls hl => ?_)
            refine lv_goto (tgt := 26) E.1 E.2.1 dX4_canAsk_94 (by decide) ?_
            exact ih (c + 1) (by omega) (by omega) _ _ _ (HB.eq hw (rfl)) (lvh_eq (l := [(0, .ref (a 0)), (1, .int (nI (d))), (2, .int (nI (k))), (3, .int (nI (0))), (4, .int (nI (c + 1)))]) (lv_sub hl [2, 3, 4, 1, 0] rfl) (by rw [zb_f (fun y => (elB_s.mp y).elim c33 (fun z => z.2.1 c49))]; rfl))
          · skip
            refine lv_aload_n E.1 E.2.1 dX4_canAsk_52 rfl (lv_at hl 0 rfl) ?_
            refine lv_iload_n E.1 E.2.1 dX4_canAsk_53 rfl (lv_at hl 1 rfl) ?_
            refine lv_iload E.1 E.2.1 dX4_canAsk_54 (lv_at hl 4 rfl) ?_
            refine callVI E (c_X4_isPart l G a (N) (x) d c (N (30 + 14 * d + 0)) (by omega) (by omega) (rfl) (by omega)) mw_15_7 YX4_isPart ⟨rfl, rfl⟩ ⟨Nat.le_of_ble_eq_true rfl, Nat.le_of_ble_eq_true rfl⟩ ⟨Nat.zero_le _, Nat.zero_le _⟩ hw 0 rfl rfl rfl hl rfl (Nat.le_of_ble_eq_true rfl) dX4_canAsk_56 (fun H locs hw => ?_)
            refine lv_if_eqB (tgt := 89) E.1 E.2.1 dX4_canAsk_59 (by decide) (fun c59 => ?_) (fun c59 => ?_)
            · skip
              refine lv_iconst (v := nI 0) E.1 E.2.1 dX4_canAsk_89 (by decide) ?_
              refine lv_istore_n (lv' := [(3, .int (nI (0))), (0, .ref (a 0)), (1, .int (nI (d))), (2, .int (nI (k))), (4, .int (nI (c)))]) E.1 E.2.1 dX4_canAsk_90 rfl hl (by decide) rfl (fun ls hl => ?_)
              refine lv_iincN (k := 4) (lv' := [(4, .int (nI (c + 1))), (3, .int (nI (0))), (0, .ref (a 0)), (1, .int (nI (d))), (2, .int (nI (k)))]) E.1 E.2.1 dX4_canAsk_91 hl rfl (by decide) rfl (fun ls hl => ?_)
              refine lv_goto (tgt := 26) E.1 E.2.1 dX4_canAsk_94 (by decide) ?_
              exact ih (c + 1) (by omega) (by omega) _ _ _ (HB.eq hw (rfl)) (lvh_eq (l := [(0, .ref (a 0)), (1, .int (nI (d))), (2, .int (nI (k))), (3, .int (nI (0))), (4, .int (nI (c + 1)))]) (lv_sub hl [2, 3, 4, 1, 0] rfl) (by rw [zb_f (fun y => (elB_s.mp y).elim c33 (fun z => c59 z.2.2.1))]; rfl))
            · skip
              refine lv_aload_n E.1 E.2.1 dX4_canAsk_62 rfl (lv_at hl 0 rfl) ?_
              refine lv_iload E.1 E.2.1 dX4_canAsk_63 (lv_at hl 4 rfl) ?_
              refine callVI E (c_X4_isIll l G a (N) (x) c (N (10 + c)) (by omega) (rfl) (by omega)) mw_7_15 YX4_isIll ⟨rfl, rfl⟩ ⟨Nat.le_of_ble_eq_true rfl, Nat.le_of_ble_eq_true rfl⟩ ⟨Nat.zero_le _, Nat.zero_le _⟩ hw 0 rfl rfl rfl hl rfl (Nat.le_of_ble_eq_true rfl) dX4_canAsk_65 (fun H locs hw => ?_)
              refine lv_if_neB (tgt := 89) E.1 E.2.1 dX4_canAsk_68 (by decide) (fun c68 => ?_) (fun c68 => ?_)
              · skip
                refine lv_iconst (v := nI 0) E.1 E.2.1 dX4_canAsk_89 (by decide) ?_
                refine lv_istore_n (lv' := [(3, .int (nI (0))), (0, .ref (a 0)), (1, .int (nI (d))), (2, .int (nI (k))), (4, .int (nI (c)))]) E.1 E.2.1 dX4_canAsk_90 rfl hl (by decide) rfl (fun ls hl => ?_)
                refine lv_iincN (k := 4) (lv' := [(4, .int (nI (c + 1))), (3, .int (nI (0))), (0, .ref (a 0)), (1, .int (nI (d))), (2, .int (nI (k)))]) E.1 E.2.1 dX4_canAsk_91 hl rfl (by decide) rfl (fun ls hl => ?_)
                refine lv_goto (tgt := 26) E.1 E.2.1 dX4_canAsk_94 (by decide) ?_
                exact ih (c + 1) (by omega) (by omega) _ _ _ (HB.eq hw (rfl)) (lvh_eq (l := [(0, .ref (a 0)), (1, .int (nI (d))), (2, .int (nI (k))), (3, .int (nI (0))), (4, .int (nI (c + 1)))]) (lv_sub hl [2, 3, 4, 1, 0] rfl) (by rw [zb_f (fun y => (elB_s.mp y).elim c33 (fun z => z.2.2.2.1 c68))]; rfl))
              · skip
                refine lv_aload_n E.1 E.2.1 dX4_canAsk_71 rfl (lv_at hl 0 rfl) ?_
                refine lv_iload_n E.1 E.2.1 dX4_canAsk_72 rfl (lv_at hl 1 rfl) ?_
                refine lv_bipush (v := nI 6) E.1 E.2.1 dX4_canAsk_73 (by decide) ?_
                refine lv_iload E.1 E.2.1 dX4_canAsk_75 (lv_at hl 4 rfl) ?_
                refine lv_addN E.1 E.2.1 dX4_canAsk_77 ?_
                refine callVI E (c_X4_of l G a (N) (x) d (6 + c) (N (30 + 14 * d + (6 + c))) (by omega) (rfl)) mw_12_1 YX4_of ⟨rfl, rfl⟩ ⟨Nat.le_of_ble_eq_true rfl, Nat.le_of_ble_eq_true rfl⟩ ⟨Nat.zero_le _, Nat.zero_le _⟩ hw 0 rfl rfl rfl hl rfl (Nat.le_of_ble_eq_true rfl) dX4_canAsk_78 (fun H locs hw => ?_)
                refine lv_iconst (v := nI 1) E.1 E.2.1 dX4_canAsk_81 (by decide) ?_
                refine lv_icmp_eqN (tgt := 89) E.1 E.2.1 (by omega) (by omega) dX4_canAsk_82 (by decide) (fun c82 => ?_) (fun c82 => ?_)
                · skip
                  refine lv_iconst (v := nI 0) E.1 E.2.1 dX4_canAsk_89 (by decide) ?_
                  refine lv_istore_n (lv' := [(3, .int (nI (0))), (0, .ref (a 0)), (1, .int (nI (d))), (2, .int (nI (k))), (4, .int (nI (c)))]) E.1 E.2.1 dX4_canAsk_90 rfl hl (by decide) rfl (fun ls hl => ?_)
                  refine lv_iincN (k := 4) (lv' := [(4, .int (nI (c + 1))), (3, .int (nI (0))), (0, .ref (a 0)), (1, .int (nI (d))), (2, .int (nI (k)))]) E.1 E.2.1 dX4_canAsk_91 hl rfl (by decide) rfl (fun ls hl => ?_)
                  refine lv_goto (tgt := 26) E.1 E.2.1 dX4_canAsk_94 (by decide) ?_
                  exact ih (c + 1) (by omega) (by omega) _ _ _ (HB.eq hw (rfl)) (lvh_eq (l := [(0, .ref (a 0)), (1, .int (nI (d))), (2, .int (nI (k))), (3, .int (nI (0))), (4, .int (nI (c + 1)))]) (lv_sub hl [2, 3, 4, 1, 0] rfl) (by rw [zb_f (fun y => (elB_s.mp y).elim c33 (fun z => z.2.2.2.2 c82))]; rfl))
                · skip
                  refine lv_iconst (v := nI 1) E.1 E.2.1 dX4_canAsk_85 (by decide) ?_
                  refine lv_goto (tgt := 90) E.1 E.2.1 dX4_canAsk_86 (by decide) ?_
                  refine lv_istore_n (lv' := [(3, .int (nI (1))), (0, .ref (a 0)), (1, .int (nI (d))), (2, .int (nI (k))), (4, .int (nI (c)))]) E.1 E.2.1 dX4_canAsk_90 rfl hl (by decide) rfl (fun ls hl => ?_)
                  refine lv_iincN (k := 4) (lv' := [(4, .int (nI (c + 1))), (3, .int (nI (1))), (0, .ref (a 0)), (1, .int (nI (d))), (2, .int (nI (k)))]) E.1 E.2.1 dX4_canAsk_91 hl rfl (by decide) rfl (fun ls hl => ?_)
                  refine lv_goto (tgt := 26) E.1 E.2.1 dX4_canAsk_94 (by decide) ?_
                  exact ih (c + 1) (by omega) (by omega) _ _ _ (HB.eq hw (rfl)) (lvh_eq (l := [(0, .ref (a 0)), (1, .int (nI (d))), (2, .int (nI (k))), (3, .int (nI (1))), (4, .int (nI (c + 1)))]) (lv_sub hl [2, 3, 4, 1, 0] rfl) (by rw [zb_t (elB_s.mpr (Or.inr ⟨c43, c49, c59, c68, c82⟩))]; rfl))
  · skip
    refine lv_aload_n E.1 E.2.1 dX4_canAsk_8 rfl (lv_at hl 0 rfl) ?_
    refine lv_iload_n E.1 E.2.1 dX4_canAsk_9 rfl (lv_at hl 1 rfl) ?_
    refine lv_iconst (v := nI 1) E.1 E.2.1 dX4_canAsk_10 (by decide) ?_
    refine callVI E (c_X4_of l G a (N) (x) d 1 (N (30 + 14 * d + 1)) (by omega) (rfl)) mw_12_1 YX4_of ⟨rfl, rfl⟩ ⟨Nat.le_of_ble_eq_true rfl, Nat.le_of_ble_eq_true rfl⟩ ⟨Nat.zero_le _, Nat.zero_le _⟩ hw 0 rfl rfl rfl hl rfl (Nat.le_of_ble_eq_true rfl) dX4_canAsk_11 (fun H locs hw => ?_)
    refine lv_if_eqN (tgt := 21) E.1 E.2.1 (by omega) dX4_canAsk_14 (by decide) (fun c14 => ?_) (fun c14 => ?_)
    · skip
      refine lv_iconst (v := nI 0) E.1 E.2.1 dX4_canAsk_21 (by decide) ?_
      refine lv_istore_n (lv' := [(3, .int (nI (0))), (0, .ref (a 0)), (1, .int (nI (d))), (2, .int (nI (k)))]) E.1 E.2.1 dX4_canAsk_22 rfl hl (by decide) rfl (fun ls hl => ?_)
      refine lv_iconst (v := nI 0) E.1 E.2.1 dX4_canAsk_23 (by decide) ?_
      refine lv_istore (lv' := [(4, .int (nI (0))), (3, .int (nI (0))), (0, .ref (a 0)), (1, .int (nI (d))), (2, .int (nI (k)))]) E.1 E.2.1 dX4_canAsk_24 hl (by decide) rfl (fun ls hl => ?_)
      refine W_ind1 (nL := 5) (P := fun c => c ≤ 4) (μ := fun c => 4 - c) (I := fun c => mN G a (N) (x)) (L := fun c => [(0, .ref (a 0)), (1, .int (nI (d))), (2, .int (nI (k))), (3, .int (zb (elB d k N c = true))), (4, .int (nI (c)))]) ?_ (0) (Nat.zero_le _) (HB.eq hw (rfl)) (lvh_eq (l := [(0, .ref (a 0)), (1, .int (nI (d))), (2, .int (nI (k))), (3, .int (nI (0))), (4, .int (nI (0)))]) (lv_sub hl [2, 3, 4, 1, 0] rfl) (by rw [zb_f (fun y => (elB_0.mp y).2 c14)]; rfl))
      intro c hP ih H locs ls hw hl
      replace hw : HB G AA sS.heap (mN G a (N) (x)) H locs := hw
      replace hl : lv_has ls 5 [(0, .ref (a 0)), (1, .int (nI (d))), (2, .int (nI (k))), (3, .int (zb (elB d k N c = true))), (4, .int (nI (c)))] := hl
      refine lv_iload E.1 E.2.1 dX4_canAsk_26 (lv_at hl 4 rfl) ?_
      refine lv_iconst (v := nI 4) E.1 E.2.1 dX4_canAsk_28 (by decide) ?_
      refine lv_icmp_geN (tgt := 97) E.1 E.2.1 (by omega) (by omega) dX4_canAsk_29 (by decide) (fun c29 => ?_) (fun c29 => ?_)
      · skip
        obtain rfl : c = 4 := by omega
        refine lv_iload_n E.1 E.2.1 dX4_canAsk_97 rfl (lv_at hl 3 rfl) ?_
        refine lv_if_eqB (tgt := 135) E.1 E.2.1 dX4_canAsk_98 (by decide) (fun c98 => ?_) (fun c98 => ?_)
        · skip
          refine lv_iconst (v := nI 0) E.1 E.2.1 dX4_canAsk_135 (by decide) ?_
          exact rZ E hr hlk (HB.eq hw (rfl)) (by rw [zb_f (fun y => by have z := caB_i.mp y; exact c98 z.1)]; rfl) rfl dX4_canAsk_136
        · skip
          refine lv_aload_n E.1 E.2.1 dX4_canAsk_101 rfl (lv_at hl 0 rfl) ?_
          refine lv_iload_n E.1 E.2.1 dX4_canAsk_102 rfl (lv_at hl 2 rfl) ?_
          refine callVI E (c_X4_isIll l G a (N) (x) k (N (10 + k)) (by omega) (rfl) (by omega)) mw_7_15 YX4_isIll ⟨rfl, rfl⟩ ⟨Nat.le_of_ble_eq_true rfl, Nat.le_of_ble_eq_true rfl⟩ ⟨Nat.zero_le _, Nat.zero_le _⟩ hw 0 rfl rfl rfl hl rfl (Nat.le_of_ble_eq_true rfl) dX4_canAsk_103 (fun H locs hw => ?_)
          refine lv_if_neB (tgt := 135) E.1 E.2.1 dX4_canAsk_106 (by decide) (fun c106 => ?_) (fun c106 => ?_)
          · skip
            refine lv_iconst (v := nI 0) E.1 E.2.1 dX4_canAsk_135 (by decide) ?_
            exact rZ E hr hlk (HB.eq hw (rfl)) (by rw [zb_f (fun y => by have z := caB_i.mp y; exact z.2.1 c106)]; rfl) rfl dX4_canAsk_136
          · skip
            refine lv_aload_n E.1 E.2.1 dX4_canAsk_109 rfl (lv_at hl 0 rfl) ?_
            refine lv_iload_n E.1 E.2.1 dX4_canAsk_110 rfl (lv_at hl 1 rfl) ?_
            refine lv_iload_n E.1 E.2.1 dX4_canAsk_111 rfl (lv_at hl 2 rfl) ?_
            refine callVI E (c_X4_isPart l G a (N) (x) d k (N (30 + 14 * d + 0)) (by omega) (by omega) (rfl) (by omega)) mw_15_7 YX4_isPart ⟨rfl, rfl⟩ ⟨Nat.le_of_ble_eq_true rfl, Nat.le_of_ble_eq_true rfl⟩ ⟨Nat.zero_le _, Nat.zero_le _⟩ hw 0 rfl rfl rfl hl rfl (Nat.le_of_ble_eq_true rfl) dX4_canAsk_112 (fun H locs hw => ?_)
            refine lv_if_eqB (tgt := 135) E.1 E.2.1 dX4_canAsk_115 (by decide) (fun c115 => ?_) (fun c115 => ?_)
            · skip
              refine lv_iconst (v := nI 0) E.1 E.2.1 dX4_canAsk_135 (by decide) ?_
              exact rZ E hr hlk (HB.eq hw (rfl)) (by rw [zb_f (fun y => by have z := caB_i.mp y; exact c115 z.2.2.1)]; rfl) rfl dX4_canAsk_136
            · skip
              refine lv_aload_n E.1 E.2.1 dX4_canAsk_118 rfl (lv_at hl 0 rfl) ?_
              refine lv_iload_n E.1 E.2.1 dX4_canAsk_119 rfl (lv_at hl 1 rfl) ?_
              refine lv_bipush (v := nI 6) E.1 E.2.1 dX4_canAsk_120 (by decide) ?_
              refine lv_iload_n E.1 E.2.1 dX4_canAsk_122 rfl (lv_at hl 2 rfl) ?_
              refine lv_addN E.1 E.2.1 dX4_canAsk_123 ?_
              refine callVI E (c_X4_of l G a (N) (x) d (6 + k) (N (30 + 14 * d + (6 + k))) (by omega) (rfl)) mw_12_1 YX4_of ⟨rfl, rfl⟩ ⟨Nat.le_of_ble_eq_true rfl, Nat.le_of_ble_eq_true rfl⟩ ⟨Nat.zero_le _, Nat.zero_le _⟩ hw 0 rfl rfl rfl hl rfl (Nat.le_of_ble_eq_true rfl) dX4_canAsk_124 (fun H locs hw => ?_)
              refine lv_iconst (v := nI 1) E.1 E.2.1 dX4_canAsk_127 (by decide) ?_
              refine lv_icmp_neN (tgt := 135) E.1 E.2.1 (by omega) (by omega) dX4_canAsk_128 (by decide) (fun c128 => ?_) (fun c128 => ?_)
              · skip
                refine lv_iconst (v := nI 0) E.1 E.2.1 dX4_canAsk_135 (by decide) ?_
                exact rZ E hr hlk (HB.eq hw (rfl)) (by rw [zb_f (fun y => by have z := caB_i.mp y; exact c128 z.2.2.2)]; rfl) rfl dX4_canAsk_136
              · skip
                refine lv_iconst (v := nI 1) E.1 E.2.1 dX4_canAsk_131 (by decide) ?_
                refine lv_goto (tgt := 136) E.1 E.2.1 dX4_canAsk_132 (by decide) ?_
                exact rZ E hr hlk (HB.eq hw (rfl)) (by rw [zb_t (caB_i.mpr ⟨c98, c106, c115, c128⟩)]; rfl) rfl dX4_canAsk_136
      · skip
        have hc : c < 4 := by omega
        have hic := hF.il (w := c) (by omega)
        have h7c := hF.f6 hd hc
        refine lv_iload_n E.1 E.2.1 dX4_canAsk_32 rfl (lv_at hl 3 rfl) ?_
        refine lv_if_neB (tgt := 85) E.1 E.2.1 dX4_canAsk_33 (by decide) (fun c33 => ?_) (fun c33 => ?_)
        · skip
          refine lv_iconst (v := nI 1) E.1 E.2.1 dX4_canAsk_85 (by decide) ?_
          refine lv_goto (tgt := 90) E.1 E.2.1 dX4_canAsk_86 (by decide) ?_
          refine lv_istore_n (lv' := [(3, .int (nI (1))), (0, .ref (a 0)), (1, .int (nI (d))), (2, .int (nI (k))), (4, .int (nI (c)))]) E.1 E.2.1 dX4_canAsk_90 rfl hl (by decide) rfl (fun ls hl => ?_)
          refine lv_iincN (k := 4) (lv' := [(4, .int (nI (c + 1))), (3, .int (nI (1))), (0, .ref (a 0)), (1, .int (nI (d))), (2, .int (nI (k)))]) E.1 E.2.1 dX4_canAsk_91 hl rfl (by decide) rfl (fun ls hl => ?_)
          refine lv_goto (tgt := 26) E.1 E.2.1 dX4_canAsk_94 (by decide) ?_
          exact ih (c + 1) (by omega) (by omega) _ _ _ (HB.eq hw (rfl)) (lvh_eq (l := [(0, .ref (a 0)), (1, .int (nI (d))), (2, .int (nI (k))), (3, .int (nI (1))), (4, .int (nI (c + 1)))]) (lv_sub hl [2, 3, 4, 1, 0] rfl) (by rw [zb_t (elB_s.mpr (Or.inl c33))]; rfl))
        · skip
          refine lv_aload_n E.1 E.2.1 dX4_canAsk_36 rfl (lv_at hl 0 rfl) ?_
          refine gX4_0 E hw mw_3_8 dX4_canAsk_37 ?_
          refine lv_iconst (v := nI 3) E.1 E.2.1 dX4_canAsk_40 (by decide) ?_
          refine lN4_0 E hw (v := N 3) (by omega) (rfl) dX4_canAsk_41 ?_
          refine lv_iconst (v := nI 1) E.1 E.2.1 dX4_canAsk_42 (by decide) ?_
          refine lv_icmp_neN (tgt := 89) E.1 E.2.1 (by omega) (by omega) dX4_canAsk_43 (by decide) (fun c43 => ?_) (fun c43 => ?_)
          · skip
            refine lv_iconst (v := nI 0) E.1 E.2.1 dX4_canAsk_89 (by decide) ?_
            refine lv_istore_n (lv' := [(3, .int (nI (0))), (0, .ref (a 0)), (1, .int (nI (d))), (2, .int (nI (k))), (4, .int (nI (c)))]) E.1 E.2.1 dX4_canAsk_90 rfl hl (by decide) rfl (fun ls hl => ?_)
            refine lv_iincN (k := 4) (lv' := [(4, .int (nI (c + 1))), (3, .int (nI (0))), (0, .ref (a 0)), (1, .int (nI (d))), (2, .int (nI (k)))]) E.1 E.2.1 dX4_canAsk_91 hl rfl (by decide) rfl (fun ls hl => ?_)
            refine lv_goto (tgt := 26) E.1 E.2.1 dX4_canAsk_94 (by decide) ?_
            exact ih (c + 1) (by omega) (by omega) _ _ _ (HB.eq hw (rfl)) (lvh_eq (l := [(0, .ref (a 0)), (1, .int (nI (d))), (2, .int (nI (k))), (3, .int (nI (0))), (4, .int (nI (c + 1)))]) (lv_sub hl [2, 3, 4, 1, 0] rfl) (by rw [zb_f (fun y => (elB_s.mp y).elim c33 (fun z => c43 z.1))]; rfl))
          · skip
            refine lv_iload E.1 E.2.1 dX4_canAsk_46 (lv_at hl 4 rfl) ?_
            refine lv_iload_n E.1 E.2.1 dX4_canAsk_48 rfl (lv_at hl 2 rfl) ?_
            refine lv_icmp_eqN (tgt := 89) E.1 E.2.1 (by omega) (by omega) dX4_canAsk_49 (by decide) (fun c49 => ?_) (fun c49 => ?_)
            · skip
              refine lv_iconst (v := nI 0) E.1 E.2.1 dX4_canAsk_89 (by decide) ?_
              refine lv_istore_n (lv' := [(3, .int (nI (0))), (0, .ref (a 0)), (1, .int (nI (d))), (2, .int (nI (k))), (4, .int (nI (c)))]) E.1 E.2.1 dX4_canAsk_90 rfl hl (by decide) rfl (fun ls hl => ?_)
              refine lv_iincN (k := 4) (lv' := [(4, .int (nI (c + 1))), (3, .int (nI (0))), (0, .ref (a 0)), (1, .int (nI (d))), (2, .int (nI (k)))]) E.1 E.2.1 dX4_canAsk_91 hl rfl (by decide) rfl (fun ls hl => ?_)
              refine lv_goto (tgt := 26) E.1 E.2.1 dX4_canAsk_94 (by decide) ?_
              exact ih (c + 1) (by omega) (by omega) _ _ _ (HB.eq hw (rfl)) (lvh_eq (l := [(0, .ref (a 0)), (1, .int (nI (d))), (2, .int (nI (k))), (3, .int (nI (0))), (4, .int (nI (c + 1)))]) (lv_sub hl [2, 3, 4, 1, 0] rfl) (by rw [zb_f (fun y => (elB_s.mp y).elim c33 (fun z => z.2.1 c49))]; rfl))
            · skip
              refine lv_aload_n E.1 E.2.1 dX4_canAsk_52 rfl (lv_at hl 0 rfl) ?_
              refine lv_iload_n E.1 E.2.1 dX4_canAsk_53 rfl (lv_at hl 1 rfl) ?_
              refine lv_iload E.1 E.2.1 dX4_canAsk_54 (lv_at hl 4 rfl) ?_
              refine callVI E (c_X4_isPart l G a (N) (x) d c (N (30 + 14 * d + 0)) (by omega) (by omega) (rfl) (by omega)) mw_15_7 YX4_isPart ⟨rfl, rfl⟩ ⟨Nat.le_of_ble_eq_true rfl, Nat.le_of_ble_eq_true rfl⟩ ⟨Nat.zero_le _, Nat.zero_le _⟩ hw 0 rfl rfl rfl hl rfl (Nat.le_of_ble_eq_true rfl) dX4_canAsk_56 (fun H locs hw => ?_)
              refine lv_if_eqB (tgt := 89) E.1 E.2.1 dX4_canAsk_59 (by decide) (fun c59 => ?_) (fun c59 => ?_)
              · skip
                refine lv_iconst (v := nI 0) E.1 E.2.1 dX4_canAsk_89 (by decide) ?_
                refine lv_istore_n (lv' := [(3, .int (nI (0))), (0, .ref (a 0)), (1, .int (nI (d))), (2, .int (nI (k))), (4, .int (nI (c)))]) E.1 E.2.1 dX4_canAsk_90 rfl hl (by decide) rfl (fun ls hl => ?_)
                refine lv_iincN (k := 4) (lv' := [(4, .int (nI (c + 1))), (3, .int (nI (0))), (0, .ref (a 0)), (1, .int (nI (d))), (2, .int (nI (k)))]) E.1 E.2.1 dX4_canAsk_91 hl rfl (by decide) rfl (fun ls hl => ?_)
                refine lv_goto (tgt := 26) E.1 E.2.1 dX4_canAsk_94 (by decide) ?_
                exact ih (c + 1) (by omega) (by omega) _ _ _ (HB.eq hw (rfl)) (lvh_eq (l := [(0, .ref (a 0)), (1, .int (nI (d))), (2, .int (nI (k))), (3, .int (nI (0))), (4, .int (nI (c + 1)))]) (lv_sub hl [2, 3, 4, 1, 0] rfl) (by rw [zb_f (fun y => (elB_s.mp y).elim c33 (fun z => c59 z.2.2.1))]; rfl))
              · skip
                refine lv_aload_n E.1 E.2.1 dX4_canAsk_62 rfl (lv_at hl 0 rfl) ?_
                refine lv_iload E.1 E.2.1 dX4_canAsk_63 (lv_at hl 4 rfl) ?_
                refine callVI E (c_X4_isIll l G a (N) (x) c (N (10 + c)) (by omega) (rfl) (by omega)) mw_7_15 YX4_isIll ⟨rfl, rfl⟩ ⟨Nat.le_of_ble_eq_true rfl, Nat.le_of_ble_eq_true rfl⟩ ⟨Nat.zero_le _, Nat.zero_le _⟩ hw 0 rfl rfl rfl hl rfl (Nat.le_of_ble_eq_true rfl) dX4_canAsk_65 (fun H locs hw => ?_)
                refine lv_if_neB (tgt := 89) E.1 E.2.1 dX4_canAsk_68 (by decide) (fun c68 => ?_) (fun c68 => ?_)
                · skip
                  refine lv_iconst (v := nI 0) E.1 E.2.1 dX4_canAsk_89 (by decide) ?_
                  refine lv_istore_n (lv' := [(3, .int (nI (0))), (0, .ref (a 0)), (1, .int (nI (d))), (2, .int (nI (k))), (4, .int (nI (c)))]) E.1 E.2.1 dX4_canAsk_90 rfl hl (by decide) rfl (fun ls hl => ?_)
                  refine lv_iincN (k := 4) (lv' := [(4, .int (nI (c + 1))), (3, .int (nI (0))), (0, .ref (a 0)), (1, .int (nI (d))), (2, .int (nI (k)))]) E.1 E.2.1 dX4_canAsk_91 hl rfl (by decide) rfl (fun ls hl => ?_)
                  refine lv_goto (tgt := 26) E.1 E.2.1 dX4_canAsk_94 (by decide) ?_
                  exact ih (c + 1) (by omega) (by omega) _ _ _ (HB.eq hw (rfl)) (lvh_eq (l := [(0, .ref (a 0)), (1, .int (nI (d))), (2, .int (nI (k))), (3, .int (nI (0))), (4, .int (nI (c + 1)))]) (lv_sub hl [2, 3, 4, 1, 0] rfl) (by rw [zb_f (fun y => (elB_s.mp y).elim c33 (fun z => z.2.2.2.1 c68))]; rfl))
                · skip
                  refine lv_aload_n E.1 E.2.1 dX4_canAsk_71 rfl (lv_at hl 0 rfl) ?_
                  refine lv_iload_n E.1 E.2.1 dX4_canAsk_72 rfl (lv_at hl 1 rfl) ?_
                  refine lv_bipush (v := nI 6) E.1 E.2.1 dX4_canAsk_73 (by decide) ?_
                  refine lv_iload E.1 E.2.1 dX4_canAsk_75 (lv_at hl 4 rfl) ?_
                  refine lv_addN E.1 E.2.1 dX4_canAsk_77 ?_
                  refine callVI E (c_X4_of l G a (N) (x) d (6 + c) (N (30 + 14 * d + (6 + c))) (by omega) (rfl)) mw_12_1 YX4_of ⟨rfl, rfl⟩ ⟨Nat.le_of_ble_eq_true rfl, Nat.le_of_ble_eq_true rfl⟩ ⟨Nat.zero_le _, Nat.zero_le _⟩ hw 0 rfl rfl rfl hl rfl (Nat.le_of_ble_eq_true rfl) dX4_canAsk_78 (fun H locs hw => ?_)
                  refine lv_iconst (v := nI 1) E.1 E.2.1 dX4_canAsk_81 (by decide) ?_
                  refine lv_icmp_eqN (tgt := 89) E.1 E.2.1 (by omega) (by omega) dX4_canAsk_82 (by decide) (fun c82 => ?_) (fun c82 => ?_)
                  · skip
                    refine lv_iconst (v := nI 0) E.1 E.2.1 dX4_canAsk_89 (by decide) ?_
                    refine lv_istore_n (lv' := [(3, .int (nI (0))), (0, .ref (a 0)), (1, .int (nI (d))), (2, .int (nI (k))), (4, .int (nI (c)))]) E.1 E.2.1 dX4_canAsk_90 rfl hl (by decide) rfl (fun ls hl => ?_)
                    refine lv_iincN (k := 4) (lv' := [(4, .int (nI (c + 1))), (3, .int (nI (0))), (0, .ref (a 0)), (1, .int (nI (d))), (2, .int (nI (k)))]) E.1 E.2.1 dX4_canAsk_91 hl rfl (by decide) rfl (fun ls hl => ?_)
                    refine lv_goto (tgt := 26) E.1 E.2.1 dX4_canAsk_94 (by decide) ?_
                    exact ih (c + 1) (by omega) (by omega) _ _ _ (HB.eq hw (rfl)) (lvh_eq (l := [(0, .ref (a 0)), (1, .int (nI (d))), (2, .int (nI (k))), (3, .int (nI (0))), (4, .int (nI (c + 1)))]) (lv_sub hl [2, 3, 4, 1, 0] rfl) (by rw [zb_f (fun y => (elB_s.mp y).elim c33 (fun z => z.2.2.2.2 c82))]; rfl))
                  · skip
                    refine lv_iconst (v := nI 1) E.1 E.2.1 dX4_canAsk_85 (by decide) ?_
                    refine lv_goto (tgt := 90) E.1 E.2.1 dX4_canAsk_86 (by decide) ?_
                    refine lv_istore_n (lv' := [(3, .int (nI (1))), (0, .ref (a 0)), (1, .int (nI (d))), (2, .int (nI (k))), (4, .int (nI (c)))]) E.1 E.2.1 dX4_canAsk_90 rfl hl (by decide) rfl (fun ls hl => ?_)
                    refine lv_iincN (k := 4) (lv' := [(4, .int (nI (c + 1))), (3, .int (nI (1))), (0, .ref (a 0)), (1, .int (nI (d))), (2, .int (nI (k)))]) E.1 E.2.1 dX4_canAsk_91 hl rfl (by decide) rfl (fun ls hl => ?_)
                    refine lv_goto (tgt := 26) E.1 E.2.1 dX4_canAsk_94 (by decide) ?_
                    exact ih (c + 1) (by omega) (by omega) _ _ _ (HB.eq hw (rfl)) (lvh_eq (l := [(0, .ref (a 0)), (1, .int (nI (d))), (2, .int (nI (k))), (3, .int (nI (1))), (4, .int (nI (c + 1)))]) (lv_sub hl [2, 3, 4, 1, 0] rfl) (by rw [zb_t (elB_s.mpr (Or.inr ⟨c43, c49, c59, c68, c82⟩))]; rfl))
    · skip
      refine lv_iconst (v := nI 1) E.1 E.2.1 dX4_canAsk_17 (by decide) ?_
      refine lv_goto (tgt := 22) E.1 E.2.1 dX4_canAsk_18 (by decide) ?_
      refine lv_istore_n (lv' := [(3, .int (nI (1))), (0, .ref (a 0)), (1, .int (nI (d))), (2, .int (nI (k)))]) E.1 E.2.1 dX4_canAsk_22 rfl hl (by decide) rfl (fun ls hl => ?_)
      refine lv_iconst (v := nI 0) E.1 E.2.1 dX4_canAsk_23 (by decide) ?_
      refine lv_istore (lv' := [(4, .int (nI (0))), (3, .int (nI (1))), (0, .ref (a 0)), (1, .int (nI (d))), (2, .int (nI (k)))]) E.1 E.2.1 dX4_canAsk_24 hl (by decide) rfl (fun ls hl => ?_)
      refine W_ind1 (nL := 5) (P := fun c => c ≤ 4) (μ := fun c => 4 - c) (I := fun c => mN G a (N) (x)) (L := fun c => [(0, .ref (a 0)), (1, .int (nI (d))), (2, .int (nI (k))), (3, .int (zb (elB d k N c = true))), (4, .int (nI (c)))]) ?_ (0) (Nat.zero_le _) (HB.eq hw (rfl)) (lvh_eq (l := [(0, .ref (a 0)), (1, .int (nI (d))), (2, .int (nI (k))), (3, .int (nI (1))), (4, .int (nI (0)))]) (lv_sub hl [2, 3, 4, 1, 0] rfl) (by rw [zb_t (elB_0.mpr ⟨c5, c14⟩)]; rfl))
      intro c hP ih H locs ls hw hl
      replace hw : HB G AA sS.heap (mN G a (N) (x)) H locs := hw
      replace hl : lv_has ls 5 [(0, .ref (a 0)), (1, .int (nI (d))), (2, .int (nI (k))), (3, .int (zb (elB d k N c = true))), (4, .int (nI (c)))] := hl
      refine lv_iload E.1 E.2.1 dX4_canAsk_26 (lv_at hl 4 rfl) ?_
      refine lv_iconst (v := nI 4) E.1 E.2.1 dX4_canAsk_28 (by decide) ?_
      refine lv_icmp_geN (tgt := 97) E.1 E.2.1 (by omega) (by omega) dX4_canAsk_29 (by decide) (fun c29 => ?_) (fun c29 => ?_)
      · skip
        obtain rfl : c = 4 := by omega
        refine lv_iload_n E.1 E.2.1 dX4_canAsk_97 rfl (lv_at hl 3 rfl) ?_
        refine lv_if_eqB (tgt := 135) E.1 E.2.1 dX4_canAsk_98 (by decide) (fun c98 => ?_) (fun c98 => ?_)
        · skip
          refine lv_iconst (v := nI 0) E.1 E.2.1 dX4_canAsk_135 (by decide) ?_
          exact rZ E hr hlk (HB.eq hw (rfl)) (by rw [zb_f (fun y => by have z := caB_i.mp y; exact c98 z.1)]; rfl) rfl dX4_canAsk_136
        · skip
          refine lv_aload_n E.1 E.2.1 dX4_canAsk_101 rfl (lv_at hl 0 rfl) ?_
          refine lv_iload_n E.1 E.2.1 dX4_canAsk_102 rfl (lv_at hl 2 rfl) ?_
          refine callVI E (c_X4_isIll l G a (N) (x) k (N (10 + k)) (by omega) (rfl) (by omega)) mw_7_15 YX4_isIll ⟨rfl, rfl⟩ ⟨Nat.le_of_ble_eq_true rfl, Nat.le_of_ble_eq_true rfl⟩ ⟨Nat.zero_le _, Nat.zero_le _⟩ hw 0 rfl rfl rfl hl rfl (Nat.le_of_ble_eq_true rfl) dX4_canAsk_103 (fun H locs hw => ?_)
          refine lv_if_neB (tgt := 135) E.1 E.2.1 dX4_canAsk_106 (by decide) (fun c106 => ?_) (fun c106 => ?_)
          · skip
            refine lv_iconst (v := nI 0) E.1 E.2.1 dX4_canAsk_135 (by decide) ?_
            exact rZ E hr hlk (HB.eq hw (rfl)) (by rw [zb_f (fun y => by have z := caB_i.mp y; exact z.2.1 c106)]; rfl) rfl dX4_canAsk_136
          · skip
            refine lv_aload_n E.1 E.2.1 dX4_canAsk_109 rfl (lv_at hl 0 rfl) ?_
            refine lv_iload_n E.1 E.2.1 dX4_canAsk_110 rfl (lv_at hl 1 rfl) ?_
            refine lv_iload_n E.1 E.2.1 dX4_canAsk_111 rfl (lv_at hl 2 rfl) ?_
            refine callVI E (c_X4_isPart l G a (N) (x) d k (N (30 + 14 * d + 0)) (by omega) (by omega) (rfl) (by omega)) mw_15_7 YX4_isPart ⟨rfl, rfl⟩ ⟨Nat.le_of_ble_eq_true rfl, Nat.le_of_ble_eq_true rfl⟩ ⟨Nat.zero_le _, Nat.zero_le _⟩ hw 0 rfl rfl rfl hl rfl (Nat.le_of_ble_eq_true rfl) dX4_canAsk_112 (fun H locs hw => ?_)
            refine lv_if_eqB (tgt := 135) E.1 E.2.1 dX4_canAsk_115 (by decide) (fun c115 => ?_) (fun c115 => ?_)
            · skip
              refine lv_iconst (v := nI 0) E.1 E.2.1 dX4_canAsk_135 (by decide) ?_
              exact rZ E hr hlk (HB.eq hw (rfl)) (by rw [zb_f (fun y => by have z := caB_i.mp y; exact c115 z.2.2.1)]; rfl) rfl dX4_canAsk_136
            · skip
              refine lv_aload_n E.1 E.2.1 dX4_canAsk_118 rfl (lv_at hl 0 rfl) ?_
              refine lv_iload_n E.1 E.2.1 dX4_canAsk_119 rfl (lv_at hl 1 rfl) ?_
              refine lv_bipush (v := nI 6) E.1 E.2.1 dX4_canAsk_120 (by decide) ?_
              refine lv_iload_n E.1 E.2.1 dX4_canAsk_122 rfl (lv_at hl 2 rfl) ?_
              refine lv_addN E.1 E.2.1 dX4_canAsk_123 ?_
              refine callVI E (c_X4_of l G a (N) (x) d (6 + k) (N (30 + 14 * d + (6 + k))) (by omega) (rfl)) mw_12_1 YX4_of ⟨rfl, rfl⟩ ⟨Nat.le_of_ble_eq_true rfl, Nat.le_of_ble_eq_true rfl⟩ ⟨Nat.zero_le _, Nat.zero_le _⟩ hw 0 rfl rfl rfl hl rfl (Nat.le_of_ble_eq_true rfl) dX4_canAsk_124 (fun H locs hw => ?_)
              refine lv_iconst (v := nI 1) E.1 E.2.1 dX4_canAsk_127 (by decide) ?_
              refine lv_icmp_neN (tgt := 135) E.1 E.2.1 (by omega) (by omega) dX4_canAsk_128 (by decide) (fun c128 => ?_) (fun c128 => ?_)
              · skip
                refine lv_iconst (v := nI 0) E.1 E.2.1 dX4_canAsk_135 (by decide) ?_
                exact rZ E hr hlk (HB.eq hw (rfl)) (by rw [zb_f (fun y => by have z := caB_i.mp y; exact c128 z.2.2.2)]; rfl) rfl dX4_canAsk_136
              · skip
                refine lv_iconst (v := nI 1) E.1 E.2.1 dX4_canAsk_131 (by decide) ?_
                refine lv_goto (tgt := 136) E.1 E.2.1 dX4_canAsk_132 (by decide) ?_
                exact rZ E hr hlk (HB.eq hw (rfl)) (by rw [zb_t (caB_i.mpr ⟨c98, c106, c115, c128⟩)]; rfl) rfl dX4_canAsk_136
      · skip
        have hc : c < 4 := by omega
        have hic := hF.il (w := c) (by omega)
        have h7c := hF.f6 hd hc
        refine lv_iload_n E.1 E.2.1 dX4_canAsk_32 rfl (lv_at hl 3 rfl) ?_
        refine lv_if_neB (tgt := 85) E.1 E.2.1 dX4_canAsk_33 (by decide) (fun c33 => ?_) (fun c33 => ?_)
        · skip
          refine lv_iconst (v := nI 1) E.1 E.2.1 dX4_canAsk_85 (by decide) ?_
          refine lv_goto (tgt := 90) E.1 E.2.1 dX4_canAsk_86 (by decide) ?_
          refine lv_istore_n (lv' := [(3, .int (nI (1))), (0, .ref (a 0)), (1, .int (nI (d))), (2, .int (nI (k))), (4, .int (nI (c)))]) E.1 E.2.1 dX4_canAsk_90 rfl hl (by decide) rfl (fun ls hl => ?_)
          refine lv_iincN (k := 4) (lv' := [(4, .int (nI (c + 1))), (3, .int (nI (1))), (0, .ref (a 0)), (1, .int (nI (d))), (2, .int (nI (k)))]) E.1 E.2.1 dX4_canAsk_91 hl rfl (by decide) rfl (fun ls hl => ?_)
          refine lv_goto (tgt := 26) E.1 E.2.1 dX4_canAsk_94 (by decide) ?_
          exact ih (c + 1) (by omega) (by omega) _ _ _ (HB.eq hw (rfl)) (lvh_eq (l := [(0, .ref (a 0)), (1, .int (nI (d))), (2, .int (nI (k))), (3, .int (nI (1))), (4, .int (nI (c + 1)))]) (lv_sub hl [2, 3, 4, 1, 0] rfl) (by rw [zb_t (elB_s.mpr (Or.inl c33))]; rfl))
        · skip
          refine lv_aload_n E.1 E.2.1 dX4_canAsk_36 rfl (lv_at hl 0 rfl) ?_
          refine gX4_0 E hw mw_3_8 dX4_canAsk_37 ?_
          refine lv_iconst (v := nI 3) E.1 E.2.1 dX4_canAsk_40 (by decide) ?_
          refine lN4_0 E hw (v := N 3) (by omega) (rfl) dX4_canAsk_41 ?_
          refine lv_iconst (v := nI 1) E.1 E.2.1 dX4_canAsk_42 (by decide) ?_
          refine lv_icmp_neN (tgt := 89) E.1 E.2.1 (by omega) (by omega) dX4_canAsk_43 (by decide) (fun c43 => ?_) (fun c43 => ?_)
          · skip
            refine lv_iconst (v := nI 0) E.1 E.2.1 dX4_canAsk_89 (by decide) ?_
            refine lv_istore_n (lv' := [(3, .int (nI (0))), (0, .ref (a 0)), (1, .int (nI (d))), (2, .int (nI (k))), (4, .int (nI (c)))]) E.1 E.2.1 dX4_canAsk_90 rfl hl (by decide) rfl (fun ls hl => ?_)
            refine lv_iincN (k := 4) (lv' := [(4, .int (nI (c + 1))), (3, .int (nI (0))), (0, .ref (a 0)), (1, .int (nI (d))), (2, .int (nI (k)))]) E.1 E.2.1 dX4_canAsk_91 hl rfl (by decide) rfl (fun ls hl => ?_)
            refine lv_goto (tgt := 26) E.1 E.2.1 dX4_canAsk_94 (by decide) ?_
            exact ih (c + 1) (by omega) (by omega) _ _ _ (HB.eq hw (rfl)) (lvh_eq (l := [(0, .ref (a 0)), (1, .int (nI (d))), (2, .int (nI (k))), (3, .int (nI (0))), (4, .int (nI (c + 1)))]) (lv_sub hl [2, 3, 4, 1, 0] rfl) (by rw [zb_f (fun y => (elB_s.mp y).elim c33 (fun z => c43 z.1))]; rfl))
          · skip
            refine lv_iload E.1 E.2.1 dX4_canAsk_46 (lv_at hl 4 rfl) ?_
            refine lv_iload_n E.1 E.2.1 dX4_canAsk_48 rfl (lv_at hl 2 rfl) ?_
            refine lv_icmp_eqN (tgt := 89) E.1 E.2.1 (by omega) (by omega) dX4_canAsk_49 (by decide) (fun c49 => ?_) (fun c49 => ?_)
            · skip
              refine lv_iconst (v := nI 0) E.1 E.2.1 dX4_canAsk_89 (by decide) ?_
              refine lv_istore_n (lv' := [(3, .int (nI (0))), (0, .ref (a 0)), (1, .int (nI (d))), (2, .int (nI (k))), (4, .int (nI (c)))]) E.1 E.2.1 dX4_canAsk_90 rfl hl (by decide) rfl (fun ls hl => ?_)
              refine lv_iincN (k := 4) (lv' := [(4, .int (nI (c + 1))), (3, .int (nI (0))), (0, .ref (a 0)), (1, .int (nI (d))), (2, .int (nI (k)))]) E.1 E.2.1 dX4_canAsk_91 hl rfl (by decide) rfl (fun ls hl => ?_)
              refine lv_goto (tgt := 26) E.1 E.2.1 dX4_canAsk_94 (by decide) ?_
              exact ih (c + 1) (by omega) (by omega) _ _ _ (HB.eq hw (rfl)) (lvh_eq (l := [(0, .ref (a 0)), (1, .int (nI (d))), (2, .int (nI (k))), (3, .int (nI (0))), (4, .int (nI (c + 1)))]) (lv_sub hl [2, 3, 4, 1, 0] rfl) (by rw [zb_f (fun y => (elB_s.mp y).elim c33 (fun z => z.2.1 c49))]; rfl))
            · skip
              refine lv_aload_n E.1 E.2.1 dX4_canAsk_52 rfl (lv_at hl 0 rfl) ?_
              refine lv_iload_n E.1 E.2.1 dX4_canAsk_53 rfl (lv_at hl 1 rfl) ?_
              refine lv_iload E.1 E.2.1 dX4_canAsk_54 (lv_at hl 4 rfl) ?_
              refine callVI E (c_X4_isPart l G a (N) (x) d c (N (30 + 14 * d + 0)) (by omega) (by omega) (rfl) (by omega)) mw_15_7 YX4_isPart ⟨rfl, rfl⟩ ⟨Nat.le_of_ble_eq_true rfl, Nat.le_of_ble_eq_true rfl⟩ ⟨Nat.zero_le _, Nat.zero_le _⟩ hw 0 rfl rfl rfl hl rfl (Nat.le_of_ble_eq_true rfl) dX4_canAsk_56 (fun H locs hw => ?_)
              refine lv_if_eqB (tgt := 89) E.1 E.2.1 dX4_canAsk_59 (by decide) (fun c59 => ?_) (fun c59 => ?_)
              · skip
                refine lv_iconst (v := nI 0) E.1 E.2.1 dX4_canAsk_89 (by decide) ?_
                refine lv_istore_n (lv' := [(3, .int (nI (0))), (0, .ref (a 0)), (1, .int (nI (d))), (2, .int (nI (k))), (4, .int (nI (c)))]) E.1 E.2.1 dX4_canAsk_90 rfl hl (by decide) rfl (fun ls hl => ?_)
                refine lv_iincN (k := 4) (lv' := [(4, .int (nI (c + 1))), (3, .int (nI (0))), (0, .ref (a 0)), (1, .int (nI (d))), (2, .int (nI (k)))]) E.1 E.2.1 dX4_canAsk_91 hl rfl (by decide) rfl (fun ls hl => ?_)
                refine lv_goto (tgt := 26) E.1 E.2.1 dX4_canAsk_94 (by decide) ?_
                exact ih (c + 1) (by omega) (by omega) _ _ _ (HB.eq hw (rfl)) (lvh_eq (l := [(0, .ref (a 0)), (1, .int (nI (d))), (2, .int (nI (k))), (3, .int (nI (0))), (4, .int (nI (c + 1)))]) (lv_sub hl [2, 3, 4, 1, 0] rfl) (by rw [zb_f (fun y => (elB_s.mp y).elim c33 (fun z => c59 z.2.2.1))]; rfl))
              · skip
                refine lv_aload_n E.1 E.2.1 dX4_canAsk_62 rfl (lv_at hl 0 rfl) ?_
                refine lv_iload E.1 E.2.1 dX4_canAsk_63 (lv_at hl 4 rfl) ?_
                refine callVI E (c_X4_isIll l G a (N) (x) c (N (10 + c)) (by omega) (rfl) (by omega)) mw_7_15 YX4_isIll ⟨rfl, rfl⟩ ⟨Nat.le_of_ble_eq_true rfl, Nat.le_of_ble_eq_true rfl⟩ ⟨Nat.zero_le _, Nat.zero_le _⟩ hw 0 rfl rfl rfl hl rfl (Nat.le_of_ble_eq_true rfl) dX4_canAsk_65 (fun H locs hw => ?_)
                refine lv_if_neB (tgt := 89) E.1 E.2.1 dX4_canAsk_68 (by decide) (fun c68 => ?_) (fun c68 => ?_)
                · skip
                  refine lv_iconst (v := nI 0) E.1 E.2.1 dX4_canAsk_89 (by decide) ?_
                  refine lv_istore_n (lv' := [(3, .int (nI (0))), (0, .ref (a 0)), (1, .int (nI (d))), (2, .int (nI (k))), (4, .int (nI (c)))]) E.1 E.2.1 dX4_canAsk_90 rfl hl (by decide) rfl (fun ls hl => ?_)
                  refine lv_iincN (k := 4) (lv' := [(4, .int (nI (c + 1))), (3, .int (nI (0))), (0, .ref (a 0)), (1, .int (nI (d))), (2, .int (nI (k)))]) E.1 E.2.1 dX4_canAsk_91 hl rfl (by decide) rfl (fun ls hl => ?_)
                  refine lv_goto (tgt := 26) E.1 E.2.1 dX4_canAsk_94 (by decide) ?_
                  exact ih (c + 1) (by omega) (by omega) _ _ _ (HB.eq hw (rfl)) (lvh_eq (l := [(0, .ref (a 0)), (1, .int (nI (d))), (2, .int (nI (k))), (3, .int (nI (0))), (4, .int (nI (c + 1)))]) (lv_sub hl [2, 3, 4, 1, 0] rfl) (by rw [zb_f (fun y => (elB_s.mp y).elim c33 (fun z => z.2.2.2.1 c68))]; rfl))
                · skip
                  refine lv_aload_n E.1 E.2.1 dX4_canAsk_71 rfl (lv_at hl 0 rfl) ?_
                  refine lv_iload_n E.1 E.2.1 dX4_canAsk_72 rfl (lv_at hl 1 rfl) ?_
                  refine lv_bipush (v := nI 6) E.1 E.2.1 dX4_canAsk_73 (by decide) ?_
                  refine lv_iload E.1 E.2.1 dX4_canAsk_75 (lv_at hl 4 rfl) ?_
                  refine lv_addN E.1 E.2.1 dX4_canAsk_77 ?_
                  refine callVI E (c_X4_of l G a (N) (x) d (6 + c) (N (30 + 14 * d + (6 + c))) (by omega) (rfl)) mw_12_1 YX4_of ⟨rfl, rfl⟩ ⟨Nat.le_of_ble_eq_true rfl, Nat.le_of_ble_eq_true rfl⟩ ⟨Nat.zero_le _, Nat.zero_le _⟩ hw 0 rfl rfl rfl hl rfl (Nat.le_of_ble_eq_true rfl) dX4_canAsk_78 (fun H locs hw => ?_)
                  refine lv_iconst (v := nI 1) E.1 E.2.1 dX4_canAsk_81 (by decide) ?_
                  refine lv_icmp_eqN (tgt := 89) E.1 E.2.1 (by omega) (by omega) dX4_canAsk_82 (by decide) (fun c82 => ?_) (fun c82 => ?_)
                  · skip
                    refine lv_iconst (v := nI 0) E.1 E.2.1 dX4_canAsk_89 (by decide) ?_
                    refine lv_istore_n (lv' := [(3, .int (nI (0))), (0, .ref (a 0)), (1, .int (nI (d))), (2, .int (nI (k))), (4, .int (nI (c)))]) E.1 E.2.1 dX4_canAsk_90 rfl hl (by decide) rfl (fun ls hl => ?_)
                    refine lv_iincN (k := 4) (lv' := [(4, .int (nI (c + 1))), (3, .int (nI (0))), (0, .ref (a 0)), (1, .int (nI (d))), (2, .int (nI (k)))]) E.1 E.2.1 dX4_canAsk_91 hl rfl (by decide) rfl (fun ls hl => ?_)
                    refine lv_goto (tgt := 26) E.1 E.2.1 dX4_canAsk_94 (by decide) ?_
                    exact ih (c + 1) (by omega) (by omega) _ _ _ (HB.eq hw (rfl)) (lvh_eq (l := [(0, .ref (a 0)), (1, .int (nI (d))), (2, .int (nI (k))), (3, .int (nI (0))), (4, .int (nI (c + 1)))]) (lv_sub hl [2, 3, 4, 1, 0] rfl) (by rw [zb_f (fun y => (elB_s.mp y).elim c33 (fun z => z.2.2.2.2 c82))]; rfl))
                  · skip
                    refine lv_iconst (v := nI 1) E.1 E.2.1 dX4_canAsk_85 (by decide) ?_
                    refine lv_goto (tgt := 90) E.1 E.2.1 dX4_canAsk_86 (by decide) ?_
                    refine lv_istore_n (lv' := [(3, .int (nI (1))), (0, .ref (a 0)), (1, .int (nI (d))), (2, .int (nI (k))), (4, .int (nI (c)))]) E.1 E.2.1 dX4_canAsk_90 rfl hl (by decide) rfl (fun ls hl => ?_)
                    refine lv_iincN (k := 4) (lv' := [(4, .int (nI (c + 1))), (3, .int (nI (1))), (0, .ref (a 0)), (1, .int (nI (d))), (2, .int (nI (k)))]) E.1 E.2.1 dX4_canAsk_91 hl rfl (by decide) rfl (fun ls hl => ?_)
                    refine lv_goto (tgt := 26) E.1 E.2.1 dX4_canAsk_94 (by decide) ?_
                    exact ih (c + 1) (by omega) (by omega) _ _ _ (HB.eq hw (rfl)) (lvh_eq (l := [(0, .ref (a 0)), (1, .int (nI (d))), (2, .int (nI (k))), (3, .int (nI (1))), (4, .int (nI (c + 1)))]) (lv_sub hl [2, 3, 4, 1, 0] rfl) (by rw [zb_t (elB_s.mpr (Or.inr ⟨c43, c49, c59, c68, c82⟩))]; rfl))
theorem YX4_couldAsk : YV yX4_couldAsk RX4 cX4_couldAsk 4 (some .int) 1 := ⟨mw_22_21, mw_22_22, mw_1_5, mw_22_23, by decide +kernel⟩
set_option maxHeartbeats 4000000 in
set_option maxRecDepth 100000 in
theorem c_X4_couldAsk_bad1 (l : Launch) (G : GP) (a : Nat → Nat) (N : NS) (x : MX) (e : Int32) (h5 : N 5 ≤ 8) (h : ¬ (0 ≤ e ∧ e < nI (N 5))) : MI l yX4_couldAsk (.code yX4_couldAsk cX4_couldAsk 4 (some .int) :: GW) ({ frames := 2, cells := 0, slots := 0, locals := 43 }) [.ref (a 0), .int (e)] G ES (mN G a (N) (x)) (mN G a (N) (x)) (-1) := by
  refine MI.of (own := RX4) rfl rfl (Nat.le_of_ble_eq_true rfl) ?_
  intro pP eE sS mM below meth cC ls AA E hw hl hr hlk hE
  replace hl : lv_has ls 4 [(0, .ref (a 0)), (1, .int (e))] := hl
  refine lv_aload_n E.1 E.2.1 dX4_couldAsk_0 rfl (lv_at hl 0 rfl) ?_
  refine lv_iload_n E.1 E.2.1 dX4_couldAsk_1 rfl (lv_at hl 1 rfl) ?_
  refine callVI E (c_X4_isDeal l G a (N) (x) (e) (by omega)) mw_18_14 YX4_isDeal ⟨rfl, rfl⟩ ⟨Nat.le_of_ble_eq_true rfl, Nat.le_of_ble_eq_true rfl⟩ ⟨Nat.zero_le _, Nat.zero_le _⟩ hw 0 rfl rfl rfl hl rfl (Nat.le_of_ble_eq_true rfl) dX4_couldAsk_2 (fun H locs hw => ?_)
  refine lv_if_neB (tgt := 10) E.1 E.2.1 dX4_couldAsk_5 (by decide) (fun c5 => ?_) (fun c5 => ?_)
  · exact absurd c5 h
  · skip
    refine lv_iconst (v := -1) E.1 E.2.1 dX4_couldAsk_8 (by decide) ?_
    exact rI E hr hlk (HB.eq hw (rfl)) (rfl) dX4_couldAsk_9
set_option maxHeartbeats 4000000 in
set_option maxRecDepth 100000 in
theorem c_X4_couldAsk_ok (l : Launch) (G : GP) (a : Nat → Nat) (N : NS) (x : MX) (d : Nat) (hd : d < N 5) (hF : FI N) : MI l yX4_couldAsk (.code yX4_couldAsk cX4_couldAsk 4 (some .int) :: GW) ({ frames := 3, cells := 0, slots := 0, locals := 68 }) [.ref (a 0), .int (nI (d))] G ES (mN G a (N) (x)) (mN G a (N) (x)) (nI (cqI d N 4)) := by
  refine MI.of (own := RX4) rfl rfl (Nat.le_of_ble_eq_true rfl) ?_
  intro pP eE sS mM below meth cC ls AA E hw hl hr hlk hE
  replace hl : lv_has ls 4 [(0, .ref (a 0)), (1, .int (nI (d)))] := hl
  have h5 := hF.2.1
  have h6 := hF.1
  have hd8 : d < 8 := by omega
  refine lv_aload_n E.1 E.2.1 dX4_couldAsk_0 rfl (lv_at hl 0 rfl) ?_
  refine lv_iload_n E.1 E.2.1 dX4_couldAsk_1 rfl (lv_at hl 1 rfl) ?_
  refine callVI E (c_X4_isDeal l G a (N) (x) (nI (d)) (by omega)) mw_18_14 YX4_isDeal ⟨rfl, rfl⟩ ⟨Nat.le_of_ble_eq_true rfl, Nat.le_of_ble_eq_true rfl⟩ ⟨Nat.zero_le _, Nat.zero_le _⟩ hw 0 rfl rfl rfl hl rfl (Nat.le_of_ble_eq_true rfl) dX4_couldAsk_2 (fun H locs hw => ?_)
  refine lv_if_neB (tgt := 10) E.1 E.2.1 dX4_couldAsk_5 (by decide) (fun c5 => ?_) (fun c5 => ?_)
  · skip
    refine lv_iconst (v := nI 0) E.1 E.2.1 dX4_couldAsk_10 (by decide) ?_
    refine lv_istore_n (lv' := [(2, .int (nI (0))), (0, .ref (a 0)), (1, .int (nI (d)))]) E.1 E.2.1 dX4_couldAsk_11 rfl hl (by decide) rfl (fun ls hl => ?_)
    refine lv_iconst (v := nI 0) E.1 E.2.1 dX4_couldAsk_12 (by decide) ?_
    refine lv_istore_n (lv' := [(3, .int (nI (0))), (2, .int (nI (0))), (0, .ref (a 0)), (1, .int (nI (d)))]) E.1 E.2.1 dX4_couldAsk_13 rfl hl (by decide) rfl (fun ls hl => ?_)
    refine W_ind1 (nL := 4) (P := fun c => c ≤ 4) (μ := fun c => 4 - c) (I := fun c => mN G a (N) (x)) (L := fun c => [(0, .ref (a 0)), (1, .int (nI (d))), (2, .int (nI (cqI d N c))), (3, .int (nI (c)))]) ?_ (0) (Nat.zero_le _) (HB.eq hw (rfl)) (lvh_eq (l := [(0, .ref (a 0)), (1, .int (nI (d))), (2, .int (nI (0))), (3, .int (nI (0)))]) (lv_sub hl [2, 3, 1, 0] rfl) (rfl))
    intro c hP ih H locs ls hw hl
    replace hw : HB G AA sS.heap (mN G a (N) (x)) H locs := hw
    replace hl : lv_has ls 4 [(0, .ref (a 0)), (1, .int (nI (d))), (2, .int (nI (cqI d N c))), (3, .int (nI (c)))] := hl
    refine lv_iload_n E.1 E.2.1 dX4_couldAsk_14 rfl (lv_at hl 3 rfl) ?_
    refine lv_iconst (v := nI 4) E.1 E.2.1 dX4_couldAsk_15 (by decide) ?_
    refine lv_icmp_geN (tgt := 44) E.1 E.2.1 (by omega) (by omega) dX4_couldAsk_16 (by decide) (fun c16 => ?_) (fun c16 => ?_)
    · skip
      refine lv_iload_n E.1 E.2.1 dX4_couldAsk_44 rfl (lv_at hl 2 rfl) ?_
      exact rI E hr hlk (HB.eq hw (rfl)) (by rw [show c = 4 by omega]) dX4_couldAsk_45
    · skip
      refine lv_iload_n E.1 E.2.1 dX4_couldAsk_19 rfl (lv_at hl 2 rfl) ?_
      refine lv_aload_n E.1 E.2.1 dX4_couldAsk_20 rfl (lv_at hl 0 rfl) ?_
      refine lv_iload_n E.1 E.2.1 dX4_couldAsk_21 rfl (lv_at hl 1 rfl) ?_
      refine lv_iload_n E.1 E.2.1 dX4_couldAsk_22 rfl (lv_at hl 3 rfl) ?_
      refine callVI E (c_X4_canAsk l G a (N) (x) d c (by omega) (by omega) hF) mw_23_0 YX4_canAsk ⟨rfl, rfl⟩ ⟨Nat.le_of_ble_eq_true rfl, Nat.le_of_ble_eq_true rfl⟩ ⟨Nat.zero_le _, Nat.zero_le _⟩ hw 0 rfl rfl rfl hl rfl (Nat.le_of_ble_eq_true rfl) dX4_couldAsk_23 (fun H locs hw => ?_)
      refine lv_if_eqB (tgt := 35) E.1 E.2.1 dX4_couldAsk_26 (by decide) (fun c26 => ?_) (fun c26 => ?_)
      · skip
        refine lv_iconst (v := nI 0) E.1 E.2.1 dX4_couldAsk_35 (by decide) ?_
        refine lv_ior E.1 E.2.1 dX4_couldAsk_36 (lv_eqi (y := nI (cqI d N c ||| 0)) (or_nI _ _) ?_)
        refine lv_istore_n (lv' := [(2, .int (nI (cqI d N c ||| 0))), (0, .ref (a 0)), (1, .int (nI (d))), (3, .int (nI (c)))]) E.1 E.2.1 dX4_couldAsk_37 rfl hl (by decide) rfl (fun ls hl => ?_)
        refine lv_iincN (k := 3) (lv' := [(3, .int (nI (c + 1))), (2, .int (nI (cqI d N c ||| 0))), (0, .ref (a 0)), (1, .int (nI (d)))]) E.1 E.2.1 dX4_couldAsk_38 hl rfl (by decide) rfl (fun ls hl => ?_)
        refine lv_goto (tgt := 14) E.1 E.2.1 dX4_couldAsk_41 (by decide) ?_
        exact ih (c + 1) (by omega) (by omega) _ _ _ (HB.eq hw (rfl)) (lvh_eq (l := [(0, .ref (a 0)), (1, .int (nI (d))), (2, .int (nI (cqI d N c ||| 0))), (3, .int (nI (c + 1)))]) (lv_sub hl [2, 3, 1, 0] rfl) (by rw [cqI, if_neg c26]))
      · skip
        refine lv_iconst (v := nI 1) E.1 E.2.1 dX4_couldAsk_29 (by decide) ?_
        refine lv_iload_n E.1 E.2.1 dX4_couldAsk_30 rfl (lv_at hl 3 rfl) ?_
        refine lv_ishl E.1 E.2.1 dX4_couldAsk_31 (lv_eqi (y := nI (2 ^ c)) (shl_1 _ (by omega)) ?_)
        refine lv_goto (tgt := 36) E.1 E.2.1 dX4_couldAsk_32 (by decide) ?_
        refine lv_ior E.1 E.2.1 dX4_couldAsk_36 (lv_eqi (y := nI (cqI d N c ||| 2 ^ c)) (or_nI _ _) ?_)
        refine lv_istore_n (lv' := [(2, .int (nI (cqI d N c ||| 2 ^ c))), (0, .ref (a 0)), (1, .int (nI (d))), (3, .int (nI (c)))]) E.1 E.2.1 dX4_couldAsk_37 rfl hl (by decide) rfl (fun ls hl => ?_)
        refine lv_iincN (k := 3) (lv' := [(3, .int (nI (c + 1))), (2, .int (nI (cqI d N c ||| 2 ^ c))), (0, .ref (a 0)), (1, .int (nI (d)))]) E.1 E.2.1 dX4_couldAsk_38 hl rfl (by decide) rfl (fun ls hl => ?_)
        refine lv_goto (tgt := 14) E.1 E.2.1 dX4_couldAsk_41 (by decide) ?_
        exact ih (c + 1) (by omega) (by omega) _ _ _ (HB.eq hw (rfl)) (lvh_eq (l := [(0, .ref (a 0)), (1, .int (nI (d))), (2, .int (nI (cqI d N c ||| 2 ^ c))), (3, .int (nI (c + 1)))]) (lv_sub hl [2, 3, 1, 0] rfl) (by rw [cqI, if_pos c26]))
  · exact absurd (in0 (by omega) (by omega)) c5
theorem YX4_isSettled : YV yX4_isSettled RX4 cX4_isSettled 2 (some .boolean) 1 := ⟨mw_24_11, mw_24_12, mw_1_5, mw_24_13, by decide +kernel⟩
set_option maxHeartbeats 4000000 in
set_option maxRecDepth 100000 in
theorem c_X4_isSettled (l : Launch) (G : GP) (a : Nat → Nat) (N : NS) (x : MX) (d : Nat) (hd : d < 8) (hF : FI N) : MI l yX4_isSettled (.code yX4_isSettled cX4_isSettled 2 (some .boolean) :: GW) ({ frames := 3, cells := 0, slots := 0, locals := 68 }) [.ref (a 0), .int (nI (d))] G ES (mN G a (N) (x)) (mN G a (N) (x)) (zb (cOf d 2 N ||| cOf d 3 N = N (30 + 14 * d + 0))) := by
  refine MI.of (own := RX4) rfl rfl (Nat.le_of_ble_eq_true rfl) ?_
  intro pP eE sS mM below meth cC ls AA E hw hl hr hlk hE
  replace hl : lv_has ls 2 [(0, .ref (a 0)), (1, .int (nI (d)))] := hl
  have h0 := hF.f0 hd
  have hq2 : cOf d 2 N < 2 ^ 4 := cOfI_lt (d := d) (s := 2) (N := N) 4 (by decide)
  have hq3 : cOf d 3 N < 2 ^ 4 := cOfI_lt (d := d) (s := 3) (N := N) 4 (by decide)
  have hqo := Nat.or_lt_two_pow hq2 hq3
  refine lv_aload_n E.1 E.2.1 dX4_isSettled_0 rfl (lv_at hl 0 rfl) ?_
  refine lv_iload_n E.1 E.2.1 dX4_isSettled_1 rfl (lv_at hl 1 rfl) ?_
  refine lv_iconst (v := nI 2) E.1 E.2.1 dX4_isSettled_2 (by decide) ?_
  refine callVI E (c_X4_clerksOf l G a (N) (x) d 2 (by omega) (by omega) (hF)) mw_18_18 YX4_clerksOf ⟨rfl, rfl⟩ ⟨Nat.le_of_ble_eq_true rfl, Nat.le_of_ble_eq_true rfl⟩ ⟨Nat.zero_le _, Nat.zero_le _⟩ hw 0 rfl rfl rfl hl rfl (Nat.le_of_ble_eq_true rfl) dX4_isSettled_3 (fun H locs hw => ?_)
  refine lv_aload_n E.1 E.2.1 dX4_isSettled_6 rfl (lv_at hl 0 rfl) ?_
  refine lv_iload_n E.1 E.2.1 dX4_isSettled_7 rfl (lv_at hl 1 rfl) ?_
  refine lv_iconst (v := nI 3) E.1 E.2.1 dX4_isSettled_8 (by decide) ?_
  refine callVI E (c_X4_clerksOf l G a (N) (x) d 3 (by omega) (by omega) (hF)) mw_18_18 YX4_clerksOf ⟨rfl, rfl⟩ ⟨Nat.le_of_ble_eq_true rfl, Nat.le_of_ble_eq_true rfl⟩ ⟨Nat.zero_le _, Nat.zero_le _⟩ hw 0 rfl rfl rfl hl rfl (Nat.le_of_ble_eq_true rfl) dX4_isSettled_9 (fun H locs hw => ?_)
  refine lv_ior E.1 E.2.1 dX4_isSettled_12 (lv_eqi (y := nI (cOf d 2 N ||| cOf d 3 N)) (or_nI _ _) ?_)
  refine lv_aload_n E.1 E.2.1 dX4_isSettled_13 rfl (lv_at hl 0 rfl) ?_
  refine lv_iload_n E.1 E.2.1 dX4_isSettled_14 rfl (lv_at hl 1 rfl) ?_
  refine lv_iconst (v := nI 0) E.1 E.2.1 dX4_isSettled_15 (by decide) ?_
  refine callVI E (c_X4_of l G a (N) (x) d 0 (N (30 + 14 * d + 0)) (by omega) (rfl)) mw_12_1 YX4_of ⟨rfl, rfl⟩ ⟨Nat.le_of_ble_eq_true rfl, Nat.le_of_ble_eq_true rfl⟩ ⟨Nat.zero_le _, Nat.zero_le _⟩ hw 0 rfl rfl rfl hl rfl (Nat.le_of_ble_eq_true rfl) dX4_isSettled_16 (fun H locs hw => ?_)
  refine lv_icmp_neN (tgt := 26) E.1 E.2.1 (by omega) (by omega) dX4_isSettled_19 (by decide) (fun c19 => ?_) (fun c19 => ?_)
  · skip
    refine lv_iconst (v := nI 0) E.1 E.2.1 dX4_isSettled_26 (by decide) ?_
    exact rZ E hr hlk (HB.eq hw (rfl)) ((zb_f c19).symm) rfl dX4_isSettled_27
  · skip
    refine lv_iconst (v := nI 1) E.1 E.2.1 dX4_isSettled_22 (by decide) ?_
    refine lv_goto (tgt := 27) E.1 E.2.1 dX4_isSettled_23 (by decide) ?_
    exact rZ E hr hlk (HB.eq hw (rfl)) ((zb_t c19).symm) rfl dX4_isSettled_27
theorem YX4_goRound : YV yX4_goRound RX4 cX4_goRound 3 none 0 := ⟨mw_24_15, mw_24_16, mw_1_5, mw_24_17, by decide +kernel⟩
set_option maxHeartbeats 4000000 in
set_option maxRecDepth 100000 in
theorem c_X4_goRound (l : Launch) (G : GP) (a : Nat → Nat) (N : NS) (x : MX) (hI : Inv N) : MV l yX4_goRound (.code yX4_goRound cX4_goRound 3 none :: GW) ({ frames := 5, cells := 0, slots := 0, locals := 123 }) [.ref (a 0)] G ES (mN G a (N) (x)) (mN G a (mRound N) (x)) := by
  refine MV.of (own := RX4) rfl rfl (Nat.le_of_ble_eq_true rfl) ?_
  intro pP eE sS mM below meth cC ls AA E hw hl hr hlk hE
  replace hl : lv_has ls 3 [(0, .ref (a 0))] := hl
  have hF := hI.1
  have h6 := hF.1
  refine lv_aload_n E.1 E.2.1 dX4_goRound_0 rfl (lv_at hl 0 rfl) ?_
  refine gX4_0 E hw mw_3_8 dX4_goRound_1 ?_
  refine lv_bipush (v := nI 6) E.1 E.2.1 dX4_goRound_4 (by decide) ?_
  refine lN4_0 E hw (v := N 6) (by omega) (rfl) dX4_goRound_6 ?_
  refine lv_istore_n (lv' := [(1, .int (nI (N 6))), (0, .ref (a 0))]) E.1 E.2.1 dX4_goRound_7 rfl hl (by decide) rfl (fun ls hl => ?_)
  refine lv_iconst (v := nI 0) E.1 E.2.1 dX4_goRound_8 (by decide) ?_
  refine lv_istore_n (lv' := [(2, .int (nI (0))), (1, .int (nI (N 6))), (0, .ref (a 0))]) E.1 E.2.1 dX4_goRound_9 rfl hl (by decide) rfl (fun ls hl => ?_)
  refine W_ind1 (nL := 3) (P := fun k => k ≤ N 6) (μ := fun k => N 6 - k) (I := fun k => mN G a (dl0s k N) (x)) (L := fun k => [(0, .ref (a 0)), (1, .int (nI (N 6))), (2, .int (nI (k)))]) ?_ (0) (Nat.zero_le _) (HB.eq hw (rfl)) (lvh_eq (l := [(0, .ref (a 0)), (1, .int (nI (N 6))), (2, .int (nI (0)))]) (lv_sub hl [2, 1, 0] rfl) (rfl))
  intro k hP ih H locs ls hw hl
  replace hw : HB G AA sS.heap (mN G a (dl0s k N) (x)) H locs := hw
  replace hl : lv_has ls 3 [(0, .ref (a 0)), (1, .int (nI (N 6))), (2, .int (nI (k)))] := hl
  obtain ⟨i1, i2⟩ := dl0s_I hI k hP
  refine lv_iload_n E.1 E.2.1 dX4_goRound_10 rfl (lv_at hl 2 rfl) ?_
  refine lv_iload_n E.1 E.2.1 dX4_goRound_11 rfl (lv_at hl 1 rfl) ?_
  refine lv_icmp_geN (tgt := 26) E.1 E.2.1 (by omega) (by omega) dX4_goRound_12 (by decide) (fun c12 => ?_) (fun c12 => ?_)
  · skip
    have hk6 : k = N 6 := by omega
    rw [hk6] at i1
    replace hw : HB G AA sS.heap (mN G a (dl0s (N 6) N) x) H locs := HB.eq hw (by rw [hk6])
    refine lv_aload_n E.1 E.2.1 dX4_goRound_26 rfl (lv_at hl 0 rfl) ?_
    refine callVV E (c_X4_pass l G a (dl0s (N 6) N) (x) (i1.1)) mw_17_7 YX4_pass ⟨rfl, rfl⟩ ⟨Nat.le_of_ble_eq_true rfl, Nat.le_of_ble_eq_true rfl⟩ ⟨Nat.zero_le _, Nat.zero_le _⟩ hw 0 rfl rfl rfl hl rfl (Nat.le_of_ble_eq_true rfl) dX4_goRound_27 (fun H locs hw => ?_)
    exact rV E hr hlk (HB.eq hw (rfl)) dX4_goRound_30
  · skip
    refine lv_aload_n E.1 E.2.1 dX4_goRound_15 rfl (lv_at hl 0 rfl) ?_
    refine lv_iconst (v := nI 0) E.1 E.2.1 dX4_goRound_16 (by decide) ?_
    have hM := i1.mk (p := 0) (by omega)
    refine callVV E (c_X4_deliverNow l G a (dl0s k N) x 0 _ _ _ _ (by omega) i1.1 rfl rfl rfl rfl hM.1 hM.2.1 hM.2.2.1 hM.2.2.2.1 hM.2.2.2.2) mw_11_13 YX4_deliverNow ⟨rfl, rfl⟩ ⟨Nat.le_of_ble_eq_true rfl, Nat.le_of_ble_eq_true rfl⟩ ⟨Nat.zero_le _, Nat.zero_le _⟩ hw 0 rfl rfl rfl hl rfl (Nat.le_of_ble_eq_true rfl) dX4_goRound_17 (fun H locs hw => ?_)
    refine lv_iincN (k := 2) (lv' := [(2, .int (nI (k + 1))), (0, .ref (a 0)), (1, .int (nI (N 6)))]) E.1 E.2.1 dX4_goRound_20 hl rfl (by decide) rfl (fun ls hl => ?_)
    refine lv_goto (tgt := 10) E.1 E.2.1 dX4_goRound_23 (by decide) ?_
    exact ih (k + 1) (by omega) (by omega) _ _ _ (HB.eq hw (rfl)) (lvh_eq (l := [(0, .ref (a 0)), (1, .int (nI (N 6))), (2, .int (nI (k + 1)))]) (lv_sub hl [1, 2, 0] rfl) (rfl))
theorem YX4_roundsTo : YV yX4_roundsTo RX4 cX4_roundsTo 3 (some .int) 1 := ⟨mw_24_7, mw_24_8, mw_1_5, mw_24_9, by decide +kernel⟩
set_option maxHeartbeats 4000000 in
set_option maxRecDepth 100000 in
theorem c_X4_roundsTo (l : Launch) (G : GP) (a : Nat → Nat) (N : NS) (x : MX) (d : Nat) (hd : d < 8) (hI : Inv N) : MI l yX4_roundsTo (.code yX4_roundsTo cX4_roundsTo 3 (some .int) :: GW) ({ frames := 6, cells := 0, slots := 0, locals := 145 }) [.ref (a 0), .int (nI (d))] G ES (mN G a (N) (x)) (mN G a (rToN d 201 N) (x)) (nI (rTo d 201 N)) := by
  generalize hR : rTo d 201 N = R0
  generalize hM0 : rToN d 201 N = M0
  refine MI.of (own := RX4) rfl rfl (Nat.le_of_ble_eq_true rfl) ?_
  intro pP eE sS mM below meth cC ls AA E hw hl hr hlk hE
  replace hl : lv_has ls 3 [(0, .ref (a 0)), (1, .int (nI (d)))] := hl
  refine lv_iconst (v := nI 0) E.1 E.2.1 dX4_roundsTo_0 (by decide) ?_
  refine lv_istore_n (lv' := [(2, .int (nI (0))), (0, .ref (a 0)), (1, .int (nI (d)))]) E.1 E.2.1 dX4_roundsTo_1 rfl hl (by decide) rfl (fun ls hl => ?_)
  refine W_ind2 (nL := 3) (P := fun r M => r ≤ 201 ∧ Inv M ∧ rTo d (201 - r) M + r = R0 ∧ rToN d (201 - r) M = M0) (μ := fun r M => (fun (_ : NS) => 201 - r) M) (I := fun r M => mN G a (M) (x)) (L := fun r M => [(0, .ref (a 0)), (1, .int (nI (d))), (2, .int (nI (r)))]) ?_ (0) (N) (⟨Nat.zero_le _, hI, by rw [Nat.sub_zero, hR]; rfl, by rw [Nat.sub_zero, hM0]⟩) (HB.eq hw (rfl)) (lvh_eq (l := [(0, .ref (a 0)), (1, .int (nI (d))), (2, .int (nI (0)))]) (lv_sub hl [1, 2, 0] rfl) (rfl))
  intro r M hP ih H locs ls hw hl
  replace hw : HB G AA sS.heap (mN G a (M) (x)) H locs := hw
  replace hl : lv_has ls 3 [(0, .ref (a 0)), (1, .int (nI (d))), (2, .int (nI (r)))] := hl
  obtain ⟨hr1, hr2, hr3, hr4⟩ := hP
  refine lv_iload_n E.1 E.2.1 dX4_roundsTo_2 rfl (lv_at hl 2 rfl) ?_
  refine lv_sipush (v := nI 201) E.1 E.2.1 dX4_roundsTo_3 (by decide) ?_
  refine lv_icmp_geN (tgt := 27) E.1 E.2.1 (by omega) (by omega) dX4_roundsTo_6 (by decide) (fun c6 => ?_) (fun c6 => ?_)
  · skip
    refine lv_iload_n E.1 E.2.1 dX4_roundsTo_27 rfl (lv_at hl 2 rfl) ?_
    exact rI E hr hlk (HB.eq hw (by rw [← hr4, show 201 - r = 0 by omega, rToN])) (by rw [← hr3, show 201 - r = 0 by omega, rTo, Nat.zero_add]) dX4_roundsTo_28
  · skip
    refine lv_aload_n E.1 E.2.1 dX4_roundsTo_9 rfl (lv_at hl 0 rfl) ?_
    refine lv_iload_n E.1 E.2.1 dX4_roundsTo_10 rfl (lv_at hl 1 rfl) ?_
    refine callVI E (c_X4_isSettled l G a (M) (x) d (by omega) (hr2.1)) mw_24_10 YX4_isSettled ⟨rfl, rfl⟩ ⟨Nat.le_of_ble_eq_true rfl, Nat.le_of_ble_eq_true rfl⟩ ⟨Nat.zero_le _, Nat.zero_le _⟩ hw 0 rfl rfl rfl hl rfl (Nat.le_of_ble_eq_true rfl) dX4_roundsTo_11 (fun H locs hw => ?_)
    refine lv_if_neB (tgt := 27) E.1 E.2.1 dX4_roundsTo_14 (by decide) (fun c14 => ?_) (fun c14 => ?_)
    · skip
      refine lv_iload_n E.1 E.2.1 dX4_roundsTo_27 rfl (lv_at hl 2 rfl) ?_
      exact rI E hr hlk (HB.eq hw (by rw [← hr4, show 201 - r = (201 - (r + 1)) + 1 by omega, rToN, if_pos c14])) (by rw [← hr3, show 201 - r = (201 - (r + 1)) + 1 by omega, rTo, if_pos c14, Nat.zero_add]) dX4_roundsTo_28
    · skip
      refine lv_aload_n E.1 E.2.1 dX4_roundsTo_17 rfl (lv_at hl 0 rfl) ?_
      refine callVV E (c_X4_goRound l G a (M) (x) (hr2)) mw_24_14 YX4_goRound ⟨rfl, rfl⟩ ⟨Nat.le_of_ble_eq_true rfl, Nat.le_of_ble_eq_true rfl⟩ ⟨Nat.zero_le _, Nat.zero_le _⟩ hw 0 rfl rfl rfl hl rfl (Nat.le_of_ble_eq_true rfl) dX4_roundsTo_18 (fun H locs hw => ?_)
      refine lv_iincN (k := 2) (lv' := [(2, .int (nI (r + 1))), (0, .ref (a 0)), (1, .int (nI (d)))]) E.1 E.2.1 dX4_roundsTo_21 hl rfl (by decide) rfl (fun ls hl => ?_)
      refine lv_goto (tgt := 2) E.1 E.2.1 dX4_roundsTo_24 (by decide) ?_
      exact ih (r + 1) (mRound M) (⟨by omega, hr2.rnd, by rw [← hr3, show 201 - r = (201 - (r + 1)) + 1 by omega, rTo, if_neg c14]; omega, by rw [← hr4, show 201 - r = (201 - (r + 1)) + 1 by omega, rToN, if_neg c14]⟩) (by show 201 - (r + 1) < 201 - r; omega) _ _ _ (HB.eq hw (rfl)) (lvh_eq (l := [(0, .ref (a 0)), (1, .int (nI (d))), (2, .int (nI (r + 1)))]) (lv_sub hl [1, 2, 0] rfl) (rfl))
theorem YX4_settledIn : YV yX4_settledIn RX4 cX4_settledIn 3 (some .int) 1 := ⟨mw_23_23, mw_24_0, mw_1_5, mw_24_1, by decide +kernel⟩
set_option maxHeartbeats 4000000 in
set_option maxRecDepth 100000 in
theorem c_X4_settledIn_bad1 (l : Launch) (G : GP) (a : Nat → Nat) (N : NS) (x : MX) (e : Int32) (h5 : N 5 ≤ 8) (h : ¬ (0 ≤ e ∧ e < nI (N 5))) : MI l yX4_settledIn (.code yX4_settledIn cX4_settledIn 3 (some .int) :: GW) ({ frames := 2, cells := 0, slots := 0, locals := 43 }) [.ref (a 0), .int (e)] G ES (mN G a (N) (x)) (mN G a (N) (x)) (-1) := by
  refine MI.of (own := RX4) rfl rfl (Nat.le_of_ble_eq_true rfl) ?_
  intro pP eE sS mM below meth cC ls AA E hw hl hr hlk hE
  replace hl : lv_has ls 3 [(0, .ref (a 0)), (1, .int (e))] := hl
  refine lv_aload_n E.1 E.2.1 dX4_settledIn_0 rfl (lv_at hl 0 rfl) ?_
  refine lv_iload_n E.1 E.2.1 dX4_settledIn_1 rfl (lv_at hl 1 rfl) ?_
  refine callVI E (c_X4_isDeal l G a (N) (x) (e) (by omega)) mw_18_14 YX4_isDeal ⟨rfl, rfl⟩ ⟨Nat.le_of_ble_eq_true rfl, Nat.le_of_ble_eq_true rfl⟩ ⟨Nat.zero_le _, Nat.zero_le _⟩ hw 0 rfl rfl rfl hl rfl (Nat.le_of_ble_eq_true rfl) dX4_settledIn_2 (fun H locs hw => ?_)
  refine lv_if_neB (tgt := 10) E.1 E.2.1 dX4_settledIn_5 (by decide) (fun c5 => ?_) (fun c5 => ?_)
  · exact absurd c5 h
  · skip
    refine lv_iconst (v := -1) E.1 E.2.1 dX4_settledIn_8 (by decide) ?_
    exact rI E hr hlk (HB.eq hw (rfl)) (rfl) dX4_settledIn_9
set_option maxHeartbeats 4000000 in
set_option maxRecDepth 100000 in
theorem c_X4_settledIn_ok (l : Launch) (G : GP) (a : Nat → Nat) (N : NS) (x : MX) (d : Nat) (hd : d < N 5) (hI : Inv N) : MI l yX4_settledIn (.code yX4_settledIn cX4_settledIn 3 (some .int) :: GW) ({ frames := 7, cells := 0, slots := 0, locals := 167 }) [.ref (a 0), .int (nI (d))] G ES (mN G a (N) (x)) (mN G a (N) (ax x 0 (cpA 390 (eN N) (x.2 0)))) ((if 200 < rTo d 201 N then -6 else nI (rTo d 201 N))) := by
  refine MI.of (own := RX4) rfl rfl (Nat.le_of_ble_eq_true rfl) ?_
  intro pP eE sS mM below meth cC ls AA E hw hl hr hlk hE
  replace hl : lv_has ls 3 [(0, .ref (a 0)), (1, .int (nI (d)))] := hl
  have hF := hI.1
  have h5 := hF.2.1
  have h6 := hF.1
  have hd8 : d < 8 := by omega
  have hle := rTo_le (d := d) 201 N
  refine lv_aload_n E.1 E.2.1 dX4_settledIn_0 rfl (lv_at hl 0 rfl) ?_
  refine lv_iload_n E.1 E.2.1 dX4_settledIn_1 rfl (lv_at hl 1 rfl) ?_
  refine callVI E (c_X4_isDeal l G a (N) (x) (nI (d)) (by omega)) mw_18_14 YX4_isDeal ⟨rfl, rfl⟩ ⟨Nat.le_of_ble_eq_true rfl, Nat.le_of_ble_eq_true rfl⟩ ⟨Nat.zero_le _, Nat.zero_le _⟩ hw 0 rfl rfl rfl hl rfl (Nat.le_of_ble_eq_true rfl) dX4_settledIn_2 (fun H locs hw => ?_)
  refine lv_if_neB (tgt := 10) E.1 E.2.1 dX4_settledIn_5 (by decide) (fun c5 => ?_) (fun c5 => ?_)
  · skip
    refine lv_aload_n E.1 E.2.1 dX4_settledIn_10 rfl (lv_at hl 0 rfl) ?_
    refine callVV E (c_X4_keep l G a (N) (x)) mw_24_2 YX4_keep ⟨rfl, rfl⟩ ⟨Nat.le_of_ble_eq_true rfl, Nat.le_of_ble_eq_true rfl⟩ ⟨Nat.zero_le _, Nat.zero_le _⟩ hw 0 rfl rfl rfl hl rfl (Nat.le_of_ble_eq_true rfl) dX4_settledIn_11 (fun H locs hw => ?_)
    refine lv_aload_n E.1 E.2.1 dX4_settledIn_14 rfl (lv_at hl 0 rfl) ?_
    refine lv_iload_n E.1 E.2.1 dX4_settledIn_15 rfl (lv_at hl 1 rfl) ?_
    refine callVI E (c_X4_roundsTo l G a (N) (ax (x) 0 (cpA 390 (eN (N)) (x.2 0))) d (by omega) (hI)) mw_24_6 YX4_roundsTo ⟨rfl, rfl⟩ ⟨Nat.le_of_ble_eq_true rfl, Nat.le_of_ble_eq_true rfl⟩ ⟨Nat.zero_le _, Nat.zero_le _⟩ hw 0 rfl rfl rfl hl rfl (Nat.le_of_ble_eq_true rfl) dX4_settledIn_16 (fun H locs hw => ?_)
    refine lv_istore_n (lv' := [(2, .int (nI (rTo d 201 N))), (0, .ref (a 0)), (1, .int (nI (d)))]) E.1 E.2.1 dX4_settledIn_19 rfl hl (by decide) rfl (fun ls hl => ?_)
    refine lv_aload_n E.1 E.2.1 dX4_settledIn_20 rfl (lv_at hl 1 rfl) ?_
    refine callVV E (c_X4_comeBack l G a (rToN d 201 (N)) (N) (ax (x) 0 (cpA 390 (eN (N)) (x.2 0))) (fun k hk => if_pos hk)) mw_24_18 YX4_comeBack ⟨rfl, rfl⟩ ⟨Nat.le_of_ble_eq_true rfl, Nat.le_of_ble_eq_true rfl⟩ ⟨Nat.zero_le _, Nat.zero_le _⟩ hw 0 rfl rfl rfl hl rfl (Nat.le_of_ble_eq_true rfl) dX4_settledIn_21 (fun H locs hw => ?_)
    refine lv_iload_n E.1 E.2.1 dX4_settledIn_24 rfl (lv_at hl 0 rfl) ?_
    refine lv_sipush (v := nI 200) E.1 E.2.1 dX4_settledIn_25 (by decide) ?_
    refine lv_icmp_leN (tgt := 36) E.1 E.2.1 (by omega) (by omega) dX4_settledIn_28 (by decide) (fun c28 => ?_) (fun c28 => ?_)
    · skip
      refine lv_iload_n E.1 E.2.1 dX4_settledIn_36 rfl (lv_at hl 0 rfl) ?_
      exact rI E hr hlk (HB.eq hw (rfl)) (by rw [if_neg (by omega)]) dX4_settledIn_37
    · skip
      refine lv_bipush (v := -6) E.1 E.2.1 dX4_settledIn_31 (by decide) ?_
      refine lv_goto (tgt := 37) E.1 E.2.1 dX4_settledIn_33 (by decide) ?_
      exact rI E hr hlk (HB.eq hw (rfl)) (by rw [if_pos (by omega)]) dX4_settledIn_37
  · exact absurd (in0 (by omega) (by omega)) c5
theorem YX4_underwayIn : YV yX4_underwayIn RX4 cX4_underwayIn 3 (some .int) 1 := ⟨mw_25_5, mw_25_6, mw_1_5, mw_25_7, by decide +kernel⟩
set_option maxHeartbeats 4000000 in
set_option maxRecDepth 100000 in
theorem c_X4_underwayIn_bad (l : Launch) (G : GP) (a : Nat → Nat) (N : NS) (x : MX) (v : Int32) (h : ¬ (nI 1 ≤ v ∧ v ≤ nI 50)) : MI l yX4_underwayIn (.code yX4_underwayIn cX4_underwayIn 3 (some .int) :: GW) ({ frames := 1, cells := 0, slots := 0, locals := 22 }) [.ref (a 0), .int (v)] G ES (mN G a (N) (x)) (mN G a (N) (x)) (-2) := by
  refine MI.of (own := RX4) rfl rfl (Nat.le_of_ble_eq_true rfl) ?_
  intro pP eE sS mM below meth cC ls AA E hw hl hr hlk hE
  replace hl : lv_has ls 3 [(0, .ref (a 0)), (1, .int (v))] := hl
  refine lv_iload_n E.1 E.2.1 dX4_underwayIn_0 rfl (lv_at hl 1 rfl) ?_
  refine lv_iconst (v := nI 1) E.1 E.2.1 dX4_underwayIn_1 (by decide) ?_
  refine lv_bipush (v := nI 50) E.1 E.2.1 dX4_underwayIn_2 (by decide) ?_
  refine callSI E (c_X4_in l G (v) (nI (1)) (nI (50))) mw_5_13 YX4_in ⟨rfl, rfl⟩ ⟨Nat.le_of_ble_eq_true rfl, Nat.le_of_ble_eq_true rfl⟩ ⟨Nat.zero_le _, Nat.zero_le _⟩ hw (w := []) (w' := []) (rr := mN G a (N) (x)) (big' := mN G a (N) (x)) (List.Perm.refl _) (List.Perm.refl _) rfl hl rfl (Nat.le_of_ble_eq_true rfl) dX4_underwayIn_4 (fun H locs hw => ?_)
  refine lv_if_neB (tgt := 13) E.1 E.2.1 dX4_underwayIn_7 (by decide) (fun c7 => ?_) (fun c7 => ?_)
  · exact absurd c7 h
  · skip
    refine lv_bipush (v := -2) E.1 E.2.1 dX4_underwayIn_10 (by decide) ?_
    exact rI E hr hlk (HB.eq hw (rfl)) (rfl) dX4_underwayIn_12
set_option maxHeartbeats 4000000 in
set_option maxRecDepth 100000 in
theorem c_X4_underwayIn_ok (l : Launch) (G : GP) (a : Nat → Nat) (N : NS) (x : MX) (t : Nat) (ht : 1 ≤ t ∧ t ≤ 50) (hI : Inv N) : MI l yX4_underwayIn (.code yX4_underwayIn cX4_underwayIn 3 (some .int) :: GW) ({ frames := 6, cells := 0, slots := 0, locals := 145 }) [.ref (a 0), .int (nI (t))] G ES (mN G a (N) (x)) (mN G a (N) (ax x 0 (cpA 390 (eN N) (x.2 0)))) (nI (mRnds t N 6)) := by
  refine MI.of (own := RX4) rfl rfl (Nat.le_of_ble_eq_true rfl) ?_
  intro pP eE sS mM below meth cC ls AA E hw hl hr hlk hE
  replace hl : lv_has ls 3 [(0, .ref (a 0)), (1, .int (nI (t)))] := hl
  refine lv_iload_n E.1 E.2.1 dX4_underwayIn_0 rfl (lv_at hl 1 rfl) ?_
  refine lv_iconst (v := nI 1) E.1 E.2.1 dX4_underwayIn_1 (by decide) ?_
  refine lv_bipush (v := nI 50) E.1 E.2.1 dX4_underwayIn_2 (by decide) ?_
  refine callSI E (c_X4_in l G (nI (t)) (nI (1)) (nI (50))) mw_5_13 YX4_in ⟨rfl, rfl⟩ ⟨Nat.le_of_ble_eq_true rfl, Nat.le_of_ble_eq_true rfl⟩ ⟨Nat.zero_le _, Nat.zero_le _⟩ hw (w := []) (w' := []) (rr := mN G a (N) (x)) (big' := mN G a (N) (x)) (List.Perm.refl _) (List.Perm.refl _) rfl hl rfl (Nat.le_of_ble_eq_true rfl) dX4_underwayIn_4 (fun H locs hw => ?_)
  refine lv_if_neB (tgt := 13) E.1 E.2.1 dX4_underwayIn_7 (by decide) (fun c7 => ?_) (fun c7 => ?_)
  · skip
    refine lv_aload_n E.1 E.2.1 dX4_underwayIn_13 rfl (lv_at hl 0 rfl) ?_
    refine callVV E (c_X4_keep l G a (N) (x)) mw_24_2 YX4_keep ⟨rfl, rfl⟩ ⟨Nat.le_of_ble_eq_true rfl, Nat.le_of_ble_eq_true rfl⟩ ⟨Nat.zero_le _, Nat.zero_le _⟩ hw 0 rfl rfl rfl hl rfl (Nat.le_of_ble_eq_true rfl) dX4_underwayIn_14 (fun H locs hw => ?_)
    refine lv_iconst (v := nI 0) E.1 E.2.1 dX4_underwayIn_17 (by decide) ?_
    refine lv_istore_n (lv' := [(2, .int (nI (0))), (0, .ref (a 0)), (1, .int (nI (t)))]) E.1 E.2.1 dX4_underwayIn_18 rfl hl (by decide) rfl (fun ls hl => ?_)
    refine W_ind1 (nL := 3) (P := fun k => k ≤ t) (μ := fun k => t - k) (I := fun k => mN G a (mRnds k N) (ax x 0 (cpA 390 (eN N) (x.2 0)))) (L := fun k => [(0, .ref (a 0)), (1, .int (nI (t))), (2, .int (nI (k)))]) ?_ (0) (Nat.zero_le _) (HB.eq hw (rfl)) (lvh_eq (l := [(0, .ref (a 0)), (1, .int (nI (t))), (2, .int (nI (0)))]) (lv_sub hl [1, 2, 0] rfl) (rfl))
    intro k hP ih H locs ls hw hl
    replace hw : HB G AA sS.heap (mN G a (mRnds k N) (ax x 0 (cpA 390 (eN N) (x.2 0)))) H locs := hw
    replace hl : lv_has ls 3 [(0, .ref (a 0)), (1, .int (nI (t))), (2, .int (nI (k)))] := hl
    refine lv_iload_n E.1 E.2.1 dX4_underwayIn_19 rfl (lv_at hl 2 rfl) ?_
    refine lv_iload_n E.1 E.2.1 dX4_underwayIn_20 rfl (lv_at hl 1 rfl) ?_
    refine lv_icmp_geN (tgt := 34) E.1 E.2.1 (by omega) (by omega) dX4_underwayIn_21 (by decide) (fun c21 => ?_) (fun c21 => ?_)
    · skip
      refine lv_aload_n E.1 E.2.1 dX4_underwayIn_34 rfl (lv_at hl 0 rfl) ?_
      refine gX4_0 E hw mw_3_8 dX4_underwayIn_35 ?_
      refine lv_bipush (v := nI 6) E.1 E.2.1 dX4_underwayIn_38 (by decide) ?_
      refine lN4_0 E hw (v := mRnds k N 6) (by omega) (rfl) dX4_underwayIn_40 ?_
      refine lv_istore_n (lv' := [(2, .int (nI (mRnds k N 6))), (0, .ref (a 0)), (1, .int (nI (t)))]) E.1 E.2.1 dX4_underwayIn_41 rfl hl (by decide) rfl (fun ls hl => ?_)
      refine lv_aload_n E.1 E.2.1 dX4_underwayIn_42 rfl (lv_at hl 1 rfl) ?_
      refine callVV E (c_X4_comeBack l G a (mRnds k N) (N) (ax x 0 (cpA 390 (eN N) (x.2 0))) (fun k hk => if_pos hk)) mw_24_18 YX4_comeBack ⟨rfl, rfl⟩ ⟨Nat.le_of_ble_eq_true rfl, Nat.le_of_ble_eq_true rfl⟩ ⟨Nat.zero_le _, Nat.zero_le _⟩ hw 0 rfl rfl rfl hl rfl (Nat.le_of_ble_eq_true rfl) dX4_underwayIn_43 (fun H locs hw => ?_)
      refine lv_iload_n E.1 E.2.1 dX4_underwayIn_46 rfl (lv_at hl 0 rfl) ?_
      exact rI E hr hlk (HB.eq hw (rfl)) (by rw [show k = t by omega]) dX4_underwayIn_47
    · skip
      refine lv_aload_n E.1 E.2.1 dX4_underwayIn_24 rfl (lv_at hl 0 rfl) ?_
      refine callVV E (c_X4_goRound l G a (mRnds k N) (ax x 0 (cpA 390 (eN N) (x.2 0))) (hI.rnds k)) mw_24_14 YX4_goRound ⟨rfl, rfl⟩ ⟨Nat.le_of_ble_eq_true rfl, Nat.le_of_ble_eq_true rfl⟩ ⟨Nat.zero_le _, Nat.zero_le _⟩ hw 0 rfl rfl rfl hl rfl (Nat.le_of_ble_eq_true rfl) dX4_underwayIn_25 (fun H locs hw => ?_)
      refine lv_iincN (k := 2) (lv' := [(2, .int (nI (k + 1))), (0, .ref (a 0)), (1, .int (nI (t)))]) E.1 E.2.1 dX4_underwayIn_28 hl rfl (by decide) rfl (fun ls hl => ?_)
      refine lv_goto (tgt := 19) E.1 E.2.1 dX4_underwayIn_31 (by decide) ?_
      exact ih (k + 1) (by omega) (by omega) _ _ _ (HB.eq hw (rfl)) (lvh_eq (l := [(0, .ref (a 0)), (1, .int (nI (t))), (2, .int (nI (k + 1)))]) (lv_sub hl [1, 2, 0] rfl) (rfl))
  · exact absurd (inN (by omega) (by omega) (by decide)) c7
theorem YX4_set : YV yX4_set RX4 cX4_set 4 (some .int) 2 := ⟨mw_5_10, mw_5_11, mw_1_5, mw_5_12, by decide +kernel⟩
set_option maxHeartbeats 4000000 in
set_option maxRecDepth 100000 in
theorem c_X4_set_ok (l : Launch) (G : GP) (a : Nat → Nat) (N : NS) (x : MX) (u : Nat) (T : Prop) [Decidable T] (hu : x.1 0 = nI u) (hT : x.1 2 = zb T) (hu6 : u ≤ 6) (k v : Nat) (hk : k < 4) (h3 : k = 3 → v ≤ 1) (hn : ¬ k = 3 → 1 ≤ v ∧ v ≤ 50) : MI l yX4_set (.code yX4_set cX4_set 4 (some .int) :: GW) ({ frames := 1, cells := 0, slots := 0, locals := 22 }) [.ref (a 0), .int (nI (k)), .int (nI (v))] G ES (mN G a (N) (x)) (mN G a (un N k v) (rcd u N x)) (nI (N k)) := by
  refine MI.of (own := RX4) rfl rfl (Nat.le_of_ble_eq_true rfl) ?_
  intro pP eE sS mM below meth cC ls AA E hw hl hr hlk hE
  replace hl : lv_has ls 4 [(0, .ref (a 0)), (1, .int (nI (k))), (2, .int (nI (v)))] := hl
  refine lv_iload_n E.1 E.2.1 dX4_set_0 rfl (lv_at hl 1 rfl) ?_
  refine lv_iconst (v := nI 0) E.1 E.2.1 dX4_set_1 (by decide) ?_
  refine lv_iconst (v := nI 3) E.1 E.2.1 dX4_set_2 (by decide) ?_
  refine callSI E (c_X4_in l G (nI (k)) (nI (0)) (nI (3))) mw_5_13 YX4_in ⟨rfl, rfl⟩ ⟨Nat.le_of_ble_eq_true rfl, Nat.le_of_ble_eq_true rfl⟩ ⟨Nat.zero_le _, Nat.zero_le _⟩ hw (w := []) (w' := []) (rr := mN G a (N) (x)) (big' := mN G a (N) (x)) (List.Perm.refl _) (List.Perm.refl _) rfl hl rfl (Nat.le_of_ble_eq_true rfl) dX4_set_3 (fun H locs hw => ?_)
  refine lv_if_eqB (tgt := 37) E.1 E.2.1 dX4_set_6 (by decide) (fun c6 => ?_) (fun c6 => ?_)
  · exact absurd (inN (by omega) (by omega) (by decide)) c6
  · skip
    refine lv_iload_n E.1 E.2.1 dX4_set_9 rfl (lv_at hl 2 rfl) ?_
    refine lv_iload_n E.1 E.2.1 dX4_set_10 rfl (lv_at hl 1 rfl) ?_
    refine lv_iconst (v := nI 3) E.1 E.2.1 dX4_set_11 (by decide) ?_
    refine lv_icmp_neN (tgt := 19) E.1 E.2.1 (by omega) (by omega) dX4_set_12 (by decide) (fun c12 => ?_) (fun c12 => ?_)
    · skip
      refine lv_iconst (v := nI 1) E.1 E.2.1 dX4_set_19 (by decide) ?_
      refine lv_iload_n E.1 E.2.1 dX4_set_20 rfl (lv_at hl 1 rfl) ?_
      refine lv_iconst (v := nI 3) E.1 E.2.1 dX4_set_21 (by decide) ?_
      refine lv_icmp_neN (tgt := 29) E.1 E.2.1 (by omega) (by omega) dX4_set_22 (by decide) (fun c22 => ?_) (fun c22 => ?_)
      · skip
        refine lv_bipush (v := nI 50) E.1 E.2.1 dX4_set_29 (by decide) ?_
        refine callSI E (c_X4_in l G (nI (v)) (nI (1)) (nI (50))) mw_5_13 YX4_in ⟨rfl, rfl⟩ ⟨Nat.le_of_ble_eq_true rfl, Nat.le_of_ble_eq_true rfl⟩ ⟨Nat.zero_le _, Nat.zero_le _⟩ hw (w := []) (w' := []) (rr := mN G a (N) (x)) (big' := mN G a (N) (x)) (List.Perm.refl _) (List.Perm.refl _) rfl hl rfl (Nat.le_of_ble_eq_true rfl) dX4_set_31 (fun H locs hw => ?_)
        refine lv_if_neB (tgt := 40) E.1 E.2.1 dX4_set_34 (by decide) (fun c34 => ?_) (fun c34 => ?_)
        · skip
          refine lv_aload_n E.1 E.2.1 dX4_set_40 rfl (lv_at hl 0 rfl) ?_
          refine callVV E (c_X4_record l G a (N) (x) u T hu hT hu6) mw_5_16 YX4_record ⟨rfl, rfl⟩ ⟨Nat.le_of_ble_eq_true rfl, Nat.le_of_ble_eq_true rfl⟩ ⟨Nat.zero_le _, Nat.zero_le _⟩ hw 0 rfl rfl rfl hl rfl (Nat.le_of_ble_eq_true rfl) dX4_set_41 (fun H locs hw => ?_)
          refine lv_aload_n E.1 E.2.1 dX4_set_44 rfl (lv_at hl 0 rfl) ?_
          refine gX4_0 E hw mw_3_8 dX4_set_45 ?_
          refine lv_iload_n E.1 E.2.1 dX4_set_48 rfl (lv_at hl 1 rfl) ?_
          refine lN4_0 E hw (v := N k) (by omega) (rfl) dX4_set_49 ?_
          refine lv_istore_n (lv' := [(3, .int (nI (N k))), (0, .ref (a 0)), (1, .int (nI (k))), (2, .int (nI (v)))]) E.1 E.2.1 dX4_set_50 rfl hl (by decide) rfl (fun ls hl => ?_)
          refine lv_aload_n E.1 E.2.1 dX4_set_51 rfl (lv_at hl 1 rfl) ?_
          refine gX4_0 E hw mw_3_8 dX4_set_52 ?_
          refine lv_iload_n E.1 E.2.1 dX4_set_55 rfl (lv_at hl 2 rfl) ?_
          refine lv_iload_n E.1 E.2.1 dX4_set_56 rfl (lv_at hl 3 rfl) ?_
          refine sN4_0 E hw (by omega) dX4_set_57 (fun H locs hw => ?_)
          refine lv_iload_n E.1 E.2.1 dX4_set_58 rfl (lv_at hl 0 rfl) ?_
          exact rI E hr hlk (HB.eq hw (rfl)) (rfl) dX4_set_59
        · exact absurd (inN (by omega) (by omega) (by decide)) c34
      · exact absurd c22 c12
    · skip
      refine lv_iconst (v := nI 0) E.1 E.2.1 dX4_set_15 (by decide) ?_
      refine lv_goto (tgt := 20) E.1 E.2.1 dX4_set_16 (by decide) ?_
      refine lv_iload_n E.1 E.2.1 dX4_set_20 rfl (lv_at hl 1 rfl) ?_
      refine lv_iconst (v := nI 3) E.1 E.2.1 dX4_set_21 (by decide) ?_
      refine lv_icmp_neN (tgt := 29) E.1 E.2.1 (by omega) (by omega) dX4_set_22 (by decide) (fun c22 => ?_) (fun c22 => ?_)
      · exact absurd c12 c22
      · skip
        refine lv_iconst (v := nI 1) E.1 E.2.1 dX4_set_25 (by decide) ?_
        refine lv_goto (tgt := 31) E.1 E.2.1 dX4_set_26 (by decide) ?_
        refine callSI E (c_X4_in l G (nI (v)) (nI (0)) (nI (1))) mw_5_13 YX4_in ⟨rfl, rfl⟩ ⟨Nat.le_of_ble_eq_true rfl, Nat.le_of_ble_eq_true rfl⟩ ⟨Nat.zero_le _, Nat.zero_le _⟩ hw (w := []) (w' := []) (rr := mN G a (N) (x)) (big' := mN G a (N) (x)) (List.Perm.refl _) (List.Perm.refl _) rfl hl rfl (Nat.le_of_ble_eq_true rfl) dX4_set_31 (fun H locs hw => ?_)
        refine lv_if_neB (tgt := 40) E.1 E.2.1 dX4_set_34 (by decide) (fun c34 => ?_) (fun c34 => ?_)
        · skip
          refine lv_aload_n E.1 E.2.1 dX4_set_40 rfl (lv_at hl 0 rfl) ?_
          refine callVV E (c_X4_record l G a (N) (x) u T hu hT hu6) mw_5_16 YX4_record ⟨rfl, rfl⟩ ⟨Nat.le_of_ble_eq_true rfl, Nat.le_of_ble_eq_true rfl⟩ ⟨Nat.zero_le _, Nat.zero_le _⟩ hw 0 rfl rfl rfl hl rfl (Nat.le_of_ble_eq_true rfl) dX4_set_41 (fun H locs hw => ?_)
          refine lv_aload_n E.1 E.2.1 dX4_set_44 rfl (lv_at hl 0 rfl) ?_
          refine gX4_0 E hw mw_3_8 dX4_set_45 ?_
          refine lv_iload_n E.1 E.2.1 dX4_set_48 rfl (lv_at hl 1 rfl) ?_
          refine lN4_0 E hw (v := N k) (by omega) (rfl) dX4_set_49 ?_
          refine lv_istore_n (lv' := [(3, .int (nI (N k))), (0, .ref (a 0)), (1, .int (nI (k))), (2, .int (nI (v)))]) E.1 E.2.1 dX4_set_50 rfl hl (by decide) rfl (fun ls hl => ?_)
          refine lv_aload_n E.1 E.2.1 dX4_set_51 rfl (lv_at hl 1 rfl) ?_
          refine gX4_0 E hw mw_3_8 dX4_set_52 ?_
          refine lv_iload_n E.1 E.2.1 dX4_set_55 rfl (lv_at hl 2 rfl) ?_
          refine lv_iload_n E.1 E.2.1 dX4_set_56 rfl (lv_at hl 3 rfl) ?_
          refine sN4_0 E hw (by omega) dX4_set_57 (fun H locs hw => ?_)
          refine lv_iload_n E.1 E.2.1 dX4_set_58 rfl (lv_at hl 0 rfl) ?_
          exact rI E hr hlk (HB.eq hw (rfl)) (rfl) dX4_set_59
        · exact absurd (inN (by omega) (by omega) (by decide)) c34
set_option maxHeartbeats 4000000 in
set_option maxRecDepth 100000 in
theorem c_X4_set_bad (l : Launch) (G : GP) (a : Nat → Nat) (N : NS) (x : MX) (v w : Int32) (h : ¬ vSet v w) : MI l yX4_set (.code yX4_set cX4_set 4 (some .int) :: GW) ({ frames := 1, cells := 0, slots := 0, locals := 22 }) [.ref (a 0), .int (v), .int (w)] G ES (mN G a (N) (x)) (mN G a (N) (x)) (-2) := by
  refine MI.of (own := RX4) rfl rfl (Nat.le_of_ble_eq_true rfl) ?_
  intro pP eE sS mM below meth cC ls AA E hw hl hr hlk hE
  replace hl : lv_has ls 4 [(0, .ref (a 0)), (1, .int (v)), (2, .int (w))] := hl
  refine lv_iload_n E.1 E.2.1 dX4_set_0 rfl (lv_at hl 1 rfl) ?_
  refine lv_iconst (v := nI 0) E.1 E.2.1 dX4_set_1 (by decide) ?_
  refine lv_iconst (v := nI 3) E.1 E.2.1 dX4_set_2 (by decide) ?_
  refine callSI E (c_X4_in l G (v) (nI (0)) (nI (3))) mw_5_13 YX4_in ⟨rfl, rfl⟩ ⟨Nat.le_of_ble_eq_true rfl, Nat.le_of_ble_eq_true rfl⟩ ⟨Nat.zero_le _, Nat.zero_le _⟩ hw (w := []) (w' := []) (rr := mN G a (N) (x)) (big' := mN G a (N) (x)) (List.Perm.refl _) (List.Perm.refl _) rfl hl rfl (Nat.le_of_ble_eq_true rfl) dX4_set_3 (fun H locs hw => ?_)
  refine lv_if_eqB (tgt := 37) E.1 E.2.1 dX4_set_6 (by decide) (fun c6 => ?_) (fun c6 => ?_)
  · skip
    refine lv_bipush (v := -2) E.1 E.2.1 dX4_set_37 (by decide) ?_
    exact rI E hr hlk (HB.eq hw (rfl)) (rfl) dX4_set_39
  · skip
    refine lv_iload_n E.1 E.2.1 dX4_set_9 rfl (lv_at hl 2 rfl) ?_
    refine lv_iload_n E.1 E.2.1 dX4_set_10 rfl (lv_at hl 1 rfl) ?_
    refine lv_iconst (v := nI 3) E.1 E.2.1 dX4_set_11 (by decide) ?_
    refine lv_icmp_ne (tgt := 19) E.1 E.2.1 dX4_set_12 (by decide) (fun c12 => ?_) (fun c12 => ?_)
    · skip
      refine lv_iconst (v := nI 1) E.1 E.2.1 dX4_set_19 (by decide) ?_
      refine lv_iload_n E.1 E.2.1 dX4_set_20 rfl (lv_at hl 1 rfl) ?_
      refine lv_iconst (v := nI 3) E.1 E.2.1 dX4_set_21 (by decide) ?_
      refine lv_icmp_ne (tgt := 29) E.1 E.2.1 dX4_set_22 (by decide) (fun c22 => ?_) (fun c22 => ?_)
      · skip
        refine lv_bipush (v := nI 50) E.1 E.2.1 dX4_set_29 (by decide) ?_
        refine callSI E (c_X4_in l G (w) (nI (1)) (nI (50))) mw_5_13 YX4_in ⟨rfl, rfl⟩ ⟨Nat.le_of_ble_eq_true rfl, Nat.le_of_ble_eq_true rfl⟩ ⟨Nat.zero_le _, Nat.zero_le _⟩ hw (w := []) (w' := []) (rr := mN G a (N) (x)) (big' := mN G a (N) (x)) (List.Perm.refl _) (List.Perm.refl _) rfl hl rfl (Nat.le_of_ble_eq_true rfl) dX4_set_31 (fun H locs hw => ?_)
        refine lv_if_neB (tgt := 40) E.1 E.2.1 dX4_set_34 (by decide) (fun c34 => ?_) (fun c34 => ?_)
        · exact absurd ⟨c6, fun z => by first | exact c34 | exact absurd z c12, fun z => by first | exact c34 | exact absurd c12 z⟩ h
        · skip
          refine lv_bipush (v := -2) E.1 E.2.1 dX4_set_37 (by decide) ?_
          exact rI E hr hlk (HB.eq hw (rfl)) (rfl) dX4_set_39
      · exact absurd c22 c12
    · skip
      refine lv_iconst (v := nI 0) E.1 E.2.1 dX4_set_15 (by decide) ?_
      refine lv_goto (tgt := 20) E.1 E.2.1 dX4_set_16 (by decide) ?_
      refine lv_iload_n E.1 E.2.1 dX4_set_20 rfl (lv_at hl 1 rfl) ?_
      refine lv_iconst (v := nI 3) E.1 E.2.1 dX4_set_21 (by decide) ?_
      refine lv_icmp_ne (tgt := 29) E.1 E.2.1 dX4_set_22 (by decide) (fun c22 => ?_) (fun c22 => ?_)
      · exact absurd c12 c22
      · skip
        refine lv_iconst (v := nI 1) E.1 E.2.1 dX4_set_25 (by decide) ?_
        refine lv_goto (tgt := 31) E.1 E.2.1 dX4_set_26 (by decide) ?_
        refine callSI E (c_X4_in l G (w) (nI (0)) (nI (1))) mw_5_13 YX4_in ⟨rfl, rfl⟩ ⟨Nat.le_of_ble_eq_true rfl, Nat.le_of_ble_eq_true rfl⟩ ⟨Nat.zero_le _, Nat.zero_le _⟩ hw (w := []) (w' := []) (rr := mN G a (N) (x)) (big' := mN G a (N) (x)) (List.Perm.refl _) (List.Perm.refl _) rfl hl rfl (Nat.le_of_ble_eq_true rfl) dX4_set_31 (fun H locs hw => ?_)
        refine lv_if_neB (tgt := 40) E.1 E.2.1 dX4_set_34 (by decide) (fun c34 => ?_) (fun c34 => ?_)
        · exact absurd ⟨c6, fun z => by first | exact c34 | exact absurd z c12, fun z => by first | exact c34 | exact absurd c12 z⟩ h
        · skip
          refine lv_bipush (v := -2) E.1 E.2.1 dX4_set_37 (by decide) ?_
          exact rI E hr hlk (HB.eq hw (rfl)) (rfl) dX4_set_39
theorem YX4_willing : YV yX4_willing RX4 cX4_willing 4 (some .int) 2 := ⟨mw_6_12, mw_6_13, mw_1_5, mw_6_14, by decide +kernel⟩
set_option maxHeartbeats 4000000 in
set_option maxRecDepth 100000 in
theorem c_X4_willing_bad1 (l : Launch) (G : GP) (a : Nat → Nat) (N : NS) (x : MX) (v w : Int32) (h : ¬ (nI 0 ≤ v ∧ v ≤ nI 3)) : MI l yX4_willing (.code yX4_willing cX4_willing 4 (some .int) :: GW) ({ frames := 1, cells := 0, slots := 0, locals := 22 }) [.ref (a 0), .int (v), .int (w)] G ES (mN G a (N) (x)) (mN G a (N) (x)) (-1) := by
  refine MI.of (own := RX4) rfl rfl (Nat.le_of_ble_eq_true rfl) ?_
  intro pP eE sS mM below meth cC ls AA E hw hl hr hlk hE
  replace hl : lv_has ls 4 [(0, .ref (a 0)), (1, .int (v)), (2, .int (w))] := hl
  refine lv_iload_n E.1 E.2.1 dX4_willing_0 rfl (lv_at hl 1 rfl) ?_
  refine lv_iconst (v := nI 0) E.1 E.2.1 dX4_willing_1 (by decide) ?_
  refine lv_iconst (v := nI 3) E.1 E.2.1 dX4_willing_2 (by decide) ?_
  refine callSI E (c_X4_in l G (v) (nI (0)) (nI (3))) mw_5_13 YX4_in ⟨rfl, rfl⟩ ⟨Nat.le_of_ble_eq_true rfl, Nat.le_of_ble_eq_true rfl⟩ ⟨Nat.zero_le _, Nat.zero_le _⟩ hw (w := []) (w' := []) (rr := mN G a (N) (x)) (big' := mN G a (N) (x)) (List.Perm.refl _) (List.Perm.refl _) rfl hl rfl (Nat.le_of_ble_eq_true rfl) dX4_willing_3 (fun H locs hw => ?_)
  refine lv_if_neB (tgt := 11) E.1 E.2.1 dX4_willing_6 (by decide) (fun c6 => ?_) (fun c6 => ?_)
  · exact absurd c6 h
  · skip
    refine lv_iconst (v := -1) E.1 E.2.1 dX4_willing_9 (by decide) ?_
    exact rI E hr hlk (HB.eq hw (rfl)) (rfl) dX4_willing_10
set_option maxHeartbeats 4000000 in
set_option maxRecDepth 100000 in
theorem c_X4_willing_bad2 (l : Launch) (G : GP) (a : Nat → Nat) (N : NS) (x : MX) (v w : Int32) (h1 : nI 0 ≤ v ∧ v ≤ nI 3) (h : ¬ (nI 0 ≤ w ∧ w ≤ nI 1)) : MI l yX4_willing (.code yX4_willing cX4_willing 4 (some .int) :: GW) ({ frames := 1, cells := 0, slots := 0, locals := 22 }) [.ref (a 0), .int (v), .int (w)] G ES (mN G a (N) (x)) (mN G a (N) (x)) (-2) := by
  refine MI.of (own := RX4) rfl rfl (Nat.le_of_ble_eq_true rfl) ?_
  intro pP eE sS mM below meth cC ls AA E hw hl hr hlk hE
  replace hl : lv_has ls 4 [(0, .ref (a 0)), (1, .int (v)), (2, .int (w))] := hl
  refine lv_iload_n E.1 E.2.1 dX4_willing_0 rfl (lv_at hl 1 rfl) ?_
  refine lv_iconst (v := nI 0) E.1 E.2.1 dX4_willing_1 (by decide) ?_
  refine lv_iconst (v := nI 3) E.1 E.2.1 dX4_willing_2 (by decide) ?_
  refine callSI E (c_X4_in l G (v) (nI (0)) (nI (3))) mw_5_13 YX4_in ⟨rfl, rfl⟩ ⟨Nat.le_of_ble_eq_true rfl, Nat.le_of_ble_eq_true rfl⟩ ⟨Nat.zero_le _, Nat.zero_le _⟩ hw (w := []) (w' := []) (rr := mN G a (N) (x)) (big' := mN G a (N) (x)) (List.Perm.refl _) (List.Perm.refl _) rfl hl rfl (Nat.le_of_ble_eq_true rfl) dX4_willing_3 (fun H locs hw => ?_)
  refine lv_if_neB (tgt := 11) E.1 E.2.1 dX4_willing_6 (by decide) (fun c6 => ?_) (fun c6 => ?_)
  · skip
    refine lv_iload_n E.1 E.2.1 dX4_willing_11 rfl (lv_at hl 2 rfl) ?_
    refine lv_iconst (v := nI 0) E.1 E.2.1 dX4_willing_12 (by decide) ?_
    refine lv_iconst (v := nI 1) E.1 E.2.1 dX4_willing_13 (by decide) ?_
    refine callSI E (c_X4_in l G (w) (nI (0)) (nI (1))) mw_5_13 YX4_in ⟨rfl, rfl⟩ ⟨Nat.le_of_ble_eq_true rfl, Nat.le_of_ble_eq_true rfl⟩ ⟨Nat.zero_le _, Nat.zero_le _⟩ hw (w := []) (w' := []) (rr := mN G a (N) (x)) (big' := mN G a (N) (x)) (List.Perm.refl _) (List.Perm.refl _) rfl hl rfl (Nat.le_of_ble_eq_true rfl) dX4_willing_14 (fun H locs hw => ?_)
    refine lv_if_neB (tgt := 23) E.1 E.2.1 dX4_willing_17 (by decide) (fun c17 => ?_) (fun c17 => ?_)
    · exact absurd c17 h
    · skip
      refine lv_bipush (v := -2) E.1 E.2.1 dX4_willing_20 (by decide) ?_
      exact rI E hr hlk (HB.eq hw (rfl)) (rfl) dX4_willing_22
  · exact absurd h1 c6
set_option maxHeartbeats 4000000 in
set_option maxRecDepth 100000 in
theorem c_X4_willing_ok (l : Launch) (G : GP) (a : Nat → Nat) (N : NS) (x : MX) (u : Nat) (T : Prop) [Decidable T] (hu : x.1 0 = nI u) (hT : x.1 2 = zb T) (hu6 : u ≤ 6) (k v : Nat) (hk : k < 4) (hv : v ≤ 1) : MI l yX4_willing (.code yX4_willing cX4_willing 4 (some .int) :: GW) ({ frames := 1, cells := 0, slots := 0, locals := 22 }) [.ref (a 0), .int (nI (k)), .int (nI (v))] G ES (mN G a (N) (x)) (mN G a (un N (15 + k) v) (rcd u N x)) (nI (N (15 + k))) := by
  refine MI.of (own := RX4) rfl rfl (Nat.le_of_ble_eq_true rfl) ?_
  intro pP eE sS mM below meth cC ls AA E hw hl hr hlk hE
  replace hl : lv_has ls 4 [(0, .ref (a 0)), (1, .int (nI (k))), (2, .int (nI (v)))] := hl
  refine lv_iload_n E.1 E.2.1 dX4_willing_0 rfl (lv_at hl 1 rfl) ?_
  refine lv_iconst (v := nI 0) E.1 E.2.1 dX4_willing_1 (by decide) ?_
  refine lv_iconst (v := nI 3) E.1 E.2.1 dX4_willing_2 (by decide) ?_
  refine callSI E (c_X4_in l G (nI (k)) (nI (0)) (nI (3))) mw_5_13 YX4_in ⟨rfl, rfl⟩ ⟨Nat.le_of_ble_eq_true rfl, Nat.le_of_ble_eq_true rfl⟩ ⟨Nat.zero_le _, Nat.zero_le _⟩ hw (w := []) (w' := []) (rr := mN G a (N) (x)) (big' := mN G a (N) (x)) (List.Perm.refl _) (List.Perm.refl _) rfl hl rfl (Nat.le_of_ble_eq_true rfl) dX4_willing_3 (fun H locs hw => ?_)
  refine lv_if_neB (tgt := 11) E.1 E.2.1 dX4_willing_6 (by decide) (fun c6 => ?_) (fun c6 => ?_)
  · skip
    refine lv_iload_n E.1 E.2.1 dX4_willing_11 rfl (lv_at hl 2 rfl) ?_
    refine lv_iconst (v := nI 0) E.1 E.2.1 dX4_willing_12 (by decide) ?_
    refine lv_iconst (v := nI 1) E.1 E.2.1 dX4_willing_13 (by decide) ?_
    refine callSI E (c_X4_in l G (nI (v)) (nI (0)) (nI (1))) mw_5_13 YX4_in ⟨rfl, rfl⟩ ⟨Nat.le_of_ble_eq_true rfl, Nat.le_of_ble_eq_true rfl⟩ ⟨Nat.zero_le _, Nat.zero_le _⟩ hw (w := []) (w' := []) (rr := mN G a (N) (x)) (big' := mN G a (N) (x)) (List.Perm.refl _) (List.Perm.refl _) rfl hl rfl (Nat.le_of_ble_eq_true rfl) dX4_willing_14 (fun H locs hw => ?_)
    refine lv_if_neB (tgt := 23) E.1 E.2.1 dX4_willing_17 (by decide) (fun c17 => ?_) (fun c17 => ?_)
    · skip
      refine lv_aload_n E.1 E.2.1 dX4_willing_23 rfl (lv_at hl 0 rfl) ?_
      refine callVV E (c_X4_record l G a (N) (x) u T hu hT hu6) mw_5_16 YX4_record ⟨rfl, rfl⟩ ⟨Nat.le_of_ble_eq_true rfl, Nat.le_of_ble_eq_true rfl⟩ ⟨Nat.zero_le _, Nat.zero_le _⟩ hw 0 rfl rfl rfl hl rfl (Nat.le_of_ble_eq_true rfl) dX4_willing_24 (fun H locs hw => ?_)
      refine lv_aload_n E.1 E.2.1 dX4_willing_27 rfl (lv_at hl 0 rfl) ?_
      refine gX4_0 E hw mw_3_8 dX4_willing_28 ?_
      refine lv_bipush (v := nI 15) E.1 E.2.1 dX4_willing_31 (by decide) ?_
      refine lv_iload_n E.1 E.2.1 dX4_willing_33 rfl (lv_at hl 1 rfl) ?_
      refine lv_addN E.1 E.2.1 dX4_willing_34 ?_
      refine lN4_0 E hw (v := N (15 + k)) (by omega) (rfl) dX4_willing_35 ?_
      refine lv_istore_n (lv' := [(3, .int (nI (N (15 + k)))), (0, .ref (a 0)), (1, .int (nI (k))), (2, .int (nI (v)))]) E.1 E.2.1 dX4_willing_36 rfl hl (by decide) rfl (fun ls hl => ?_)
      refine lv_aload_n E.1 E.2.1 dX4_willing_37 rfl (lv_at hl 1 rfl) ?_
      refine gX4_0 E hw mw_3_8 dX4_willing_38 ?_
      refine lv_bipush (v := nI 15) E.1 E.2.1 dX4_willing_41 (by decide) ?_
      refine lv_iload_n E.1 E.2.1 dX4_willing_43 rfl (lv_at hl 2 rfl) ?_
      refine lv_addN E.1 E.2.1 dX4_willing_44 ?_
      refine lv_iload_n E.1 E.2.1 dX4_willing_45 rfl (lv_at hl 3 rfl) ?_
      refine sN4_0 E hw (by omega) dX4_willing_46 (fun H locs hw => ?_)
      refine lv_iload_n E.1 E.2.1 dX4_willing_47 rfl (lv_at hl 0 rfl) ?_
      exact rI E hr hlk (HB.eq hw (rfl)) (rfl) dX4_willing_48
    · exact absurd (inN (by omega) (by omega) (by decide)) c17
  · exact absurd (inN (by omega) (by omega) (by decide)) c6
theorem YX4_open : YV yX4_open RX4 cX4_open 3 (some .int) 1 := ⟨mw_7_12, mw_7_13, mw_1_5, mw_7_14, by decide +kernel⟩
set_option maxHeartbeats 4000000 in
set_option maxRecDepth 100000 in
theorem c_X4_open_bad (l : Launch) (G : GP) (a : Nat → Nat) (N : NS) (x : MX) (v : Int32) (h : ¬ (nI 1 ≤ v ∧ v ≤ nI 15)) : MI l yX4_open (.code yX4_open cX4_open 3 (some .int) :: GW) ({ frames := 1, cells := 0, slots := 0, locals := 22 }) [.ref (a 0), .int (v)] G ES (mN G a (N) (x)) (mN G a (N) (x)) (-2) := by
  refine MI.of (own := RX4) rfl rfl (Nat.le_of_ble_eq_true rfl) ?_
  intro pP eE sS mM below meth cC ls AA E hw hl hr hlk hE
  replace hl : lv_has ls 3 [(0, .ref (a 0)), (1, .int (v))] := hl
  refine lv_iload_n E.1 E.2.1 dX4_open_0 rfl (lv_at hl 1 rfl) ?_
  refine lv_iconst (v := nI 1) E.1 E.2.1 dX4_open_1 (by decide) ?_
  refine lv_bipush (v := nI 15) E.1 E.2.1 dX4_open_2 (by decide) ?_
  refine callSI E (c_X4_in l G (v) (nI (1)) (nI (15))) mw_5_13 YX4_in ⟨rfl, rfl⟩ ⟨Nat.le_of_ble_eq_true rfl, Nat.le_of_ble_eq_true rfl⟩ ⟨Nat.zero_le _, Nat.zero_le _⟩ hw (w := []) (w' := []) (rr := mN G a (N) (x)) (big' := mN G a (N) (x)) (List.Perm.refl _) (List.Perm.refl _) rfl hl rfl (Nat.le_of_ble_eq_true rfl) dX4_open_4 (fun H locs hw => ?_)
  refine lv_if_neB (tgt := 13) E.1 E.2.1 dX4_open_7 (by decide) (fun c7 => ?_) (fun c7 => ?_)
  · exact absurd c7 h
  · skip
    refine lv_bipush (v := -2) E.1 E.2.1 dX4_open_10 (by decide) ?_
    exact rI E hr hlk (HB.eq hw (rfl)) (rfl) dX4_open_12
set_option maxHeartbeats 4000000 in
set_option maxRecDepth 100000 in
theorem c_X4_open_ok (l : Launch) (G : GP) (a : Nat → Nat) (N : NS) (x : MX) (u : Nat) (T : Prop) [Decidable T] (hu : x.1 0 = nI u) (hT : x.1 2 = zb T) (hu6 : u ≤ 6) (S : Nat) (hS : 1 ≤ S ∧ S < 16) (hF : FI N) : MI l yX4_open (.code yX4_open cX4_open 3 (some .int) :: GW) ({ frames := 2, cells := 0, slots := 0, locals := 50 }) [.ref (a 0), .int (nI (S))] G ES (mN G a (N) (x)) (mN G a (nOpen S N) (if N 5 = 8 ∨ N 14 = 1 then x else rcd u N x)) (rOpen N) := by
  refine MI.of (own := RX4) rfl rfl (Nat.le_of_ble_eq_true rfl) ?_
  intro pP eE sS mM below meth cC ls AA E hw hl hr hlk hE
  replace hl : lv_has ls 3 [(0, .ref (a 0)), (1, .int (nI (S)))] := hl
  have h5 := hF.2.1
  have h6 := hF.1
  have hi4 : N 14 ≤ 1 := hF.il (w := 4) (by decide)
  refine lv_iload_n E.1 E.2.1 dX4_open_0 rfl (lv_at hl 1 rfl) ?_
  refine lv_iconst (v := nI 1) E.1 E.2.1 dX4_open_1 (by decide) ?_
  refine lv_bipush (v := nI 15) E.1 E.2.1 dX4_open_2 (by decide) ?_
  refine callSI E (c_X4_in l G (nI (S)) (nI (1)) (nI (15))) mw_5_13 YX4_in ⟨rfl, rfl⟩ ⟨Nat.le_of_ble_eq_true rfl, Nat.le_of_ble_eq_true rfl⟩ ⟨Nat.zero_le _, Nat.zero_le _⟩ hw (w := []) (w' := []) (rr := mN G a (N) (x)) (big' := mN G a (N) (x)) (List.Perm.refl _) (List.Perm.refl _) rfl hl rfl (Nat.le_of_ble_eq_true rfl) dX4_open_4 (fun H locs hw => ?_)
  refine lv_if_neB (tgt := 13) E.1 E.2.1 dX4_open_7 (by decide) (fun c7 => ?_) (fun c7 => ?_)
  · skip
    refine lv_aload_n E.1 E.2.1 dX4_open_13 rfl (lv_at hl 0 rfl) ?_
    refine gX4_0 E hw mw_3_8 dX4_open_14 ?_
    refine lv_iconst (v := nI 5) E.1 E.2.1 dX4_open_17 (by decide) ?_
    refine lN4_0 E hw (v := N 5) (by omega) (rfl) dX4_open_18 ?_
    refine lv_bipush (v := nI 8) E.1 E.2.1 dX4_open_19 (by decide) ?_
    refine lv_icmp_neN (tgt := 27) E.1 E.2.1 (by omega) (by omega) dX4_open_21 (by decide) (fun c21 => ?_) (fun c21 => ?_)
    · skip
      refine lv_aload_n E.1 E.2.1 dX4_open_27 rfl (lv_at hl 0 rfl) ?_
      refine lv_iconst (v := nI 4) E.1 E.2.1 dX4_open_28 (by decide) ?_
      refine callVI E (c_X4_isIll l G a (N) (x) 4 (N 14) (by omega) (rfl) (by omega)) mw_7_15 YX4_isIll ⟨rfl, rfl⟩ ⟨Nat.le_of_ble_eq_true rfl, Nat.le_of_ble_eq_true rfl⟩ ⟨Nat.zero_le _, Nat.zero_le _⟩ hw 0 rfl rfl rfl hl rfl (Nat.le_of_ble_eq_true rfl) dX4_open_29 (fun H locs hw => ?_)
      refine lv_if_eqB (tgt := 38) E.1 E.2.1 dX4_open_32 (by decide) (fun c32 => ?_) (fun c32 => ?_)
      · skip
        refine lv_aload_n E.1 E.2.1 dX4_open_38 rfl (lv_at hl 0 rfl) ?_
        refine callVV E (c_X4_record l G a (N) (x) u T hu hT hu6) mw_5_16 YX4_record ⟨rfl, rfl⟩ ⟨Nat.le_of_ble_eq_true rfl, Nat.le_of_ble_eq_true rfl⟩ ⟨Nat.zero_le _, Nat.zero_le _⟩ hw 0 rfl rfl rfl hl rfl (Nat.le_of_ble_eq_true rfl) dX4_open_39 (fun H locs hw => ?_)
        refine lv_aload_n E.1 E.2.1 dX4_open_42 rfl (lv_at hl 0 rfl) ?_
        refine gX4_0 E hw mw_3_8 dX4_open_43 ?_
        refine lv_iconst (v := nI 5) E.1 E.2.1 dX4_open_46 (by decide) ?_
        refine lN4_0 E hw (v := N 5) (by omega) (rfl) dX4_open_47 ?_
        refine lv_istore_n (lv' := [(2, .int (nI (N 5))), (0, .ref (a 0)), (1, .int (nI (S)))]) E.1 E.2.1 dX4_open_48 rfl hl (by decide) rfl (fun ls hl => ?_)
        refine lv_aload_n E.1 E.2.1 dX4_open_49 rfl (lv_at hl 1 rfl) ?_
        refine gX4_0 E hw mw_3_8 dX4_open_50 ?_
        refine lv_iconst (v := nI 5) E.1 E.2.1 dX4_open_53 (by decide) ?_
        refine lv_dup2_11 E.1 E.2.1 dX4_open_54 rfl rfl ?_
        refine lN4_0 E hw (v := N 5) (by omega) (rfl) dX4_open_55 ?_
        refine lv_iconst (v := nI 1) E.1 E.2.1 dX4_open_56 (by decide) ?_
        refine lv_addN E.1 E.2.1 dX4_open_57 ?_
        refine sN4_0 E hw (by omega) dX4_open_58 (fun H locs hw => ?_)
        refine lv_aload_n E.1 E.2.1 dX4_open_59 rfl (lv_at hl 1 rfl) ?_
        refine lv_iload_n E.1 E.2.1 dX4_open_60 rfl (lv_at hl 0 rfl) ?_
        refine lv_iconst (v := nI 0) E.1 E.2.1 dX4_open_61 (by decide) ?_
        refine lv_iload_n E.1 E.2.1 dX4_open_62 rfl (lv_at hl 2 rfl) ?_
        refine callVV E (c_X4_book l G a (un (N) (5) (N 5 + 1)) (rcd u (N) (x)) (N 5) 0 S (by omega)) mw_7_19 YX4_book ⟨rfl, rfl⟩ ⟨Nat.le_of_ble_eq_true rfl, Nat.le_of_ble_eq_true rfl⟩ ⟨Nat.zero_le _, Nat.zero_le _⟩ hw 0 rfl rfl rfl hl rfl (Nat.le_of_ble_eq_true rfl) dX4_open_63 (fun H locs hw => ?_)
        refine lv_aload_n E.1 E.2.1 dX4_open_66 rfl (lv_at hl 1 rfl) ?_
        refine lv_iload_n E.1 E.2.1 dX4_open_67 rfl (lv_at hl 0 rfl) ?_
        refine lv_iconst (v := nI 2) E.1 E.2.1 dX4_open_68 (by decide) ?_
        refine lv_aload_n E.1 E.2.1 dX4_open_69 rfl (lv_at hl 1 rfl) ?_
        refine gX4_0 E hw mw_3_8 dX4_open_70 ?_
        refine lv_iconst (v := nI 4) E.1 E.2.1 dX4_open_73 (by decide) ?_
        refine lN4_0 E hw (v := N 4) (by omega) (by rw [un_n (by omega), un_n (by omega)]) dX4_open_74 ?_
        refine callVV E (c_X4_book l G a (un (un (N) (5) (N 5 + 1)) (30 + 14 * (N 5) + 0) (S)) (rcd u (N) (x)) (N 5) 2 (N 4) (by omega)) mw_7_19 YX4_book ⟨rfl, rfl⟩ ⟨Nat.le_of_ble_eq_true rfl, Nat.le_of_ble_eq_true rfl⟩ ⟨Nat.zero_le _, Nat.zero_le _⟩ hw 0 rfl rfl rfl hl rfl (Nat.le_of_ble_eq_true rfl) dX4_open_75 (fun H locs hw => ?_)
        refine lv_aload_n E.1 E.2.1 dX4_open_78 rfl (lv_at hl 1 rfl) ?_
        refine lv_iconst (v := nI 0) E.1 E.2.1 dX4_open_79 (by decide) ?_
        refine lv_iload_n E.1 E.2.1 dX4_open_80 rfl (lv_at hl 0 rfl) ?_
        refine lv_iconst (v := nI 4) E.1 E.2.1 dX4_open_81 (by decide) ?_
        refine lv_iload_n E.1 E.2.1 dX4_open_82 rfl (lv_at hl 2 rfl) ?_
        refine callVV E (c_X4_sendAll l G a (un (un (un (N) (5) (N 5 + 1)) (30 + 14 * (N 5) + 0) (S)) (30 + 14 * (N 5) + 2) (N 4)) (rcd u (N) (x)) 0 (N 5) 4 S (by omega) (by omega) (by rw [un_n (by omega), un_n (by omega), un_n (by omega)]; exact h6)) mw_7_23 YX4_sendAll ⟨rfl, rfl⟩ ⟨Nat.le_of_ble_eq_true rfl, Nat.le_of_ble_eq_true rfl⟩ ⟨Nat.zero_le _, Nat.zero_le _⟩ hw 0 rfl rfl rfl hl rfl (Nat.le_of_ble_eq_true rfl) dX4_open_83 (fun H locs hw => ?_)
        refine lv_iload_n E.1 E.2.1 dX4_open_86 rfl (lv_at hl 0 rfl) ?_
        exact rI E hr hlk (HB.eq hw (by rw [nOpen, if_neg (by omega), if_neg (by omega)]; rfl)) (by rw [rOpen, if_neg (by omega), if_neg (by omega)]) dX4_open_87
      · skip
        refine lv_bipush (v := -5) E.1 E.2.1 dX4_open_35 (by decide) ?_
        exact rI E hr hlk (HB.eq hw (by rw [nOpen, if_pos (by omega), if_pos (by omega)])) (by rw [rOpen, if_neg (by omega), if_pos (by omega)]) dX4_open_37
    · skip
      refine lv_bipush (v := -4) E.1 E.2.1 dX4_open_24 (by decide) ?_
      exact rI E hr hlk (HB.eq hw (by rw [nOpen, if_pos (by omega), if_pos (by omega)])) (by rw [rOpen, if_pos (by omega)]) dX4_open_26
  · exact absurd (inN (by omega) (by omega) (by decide)) c7
theorem YX4_deliver : YV yX4_deliver RX4 cX4_deliver 2 (some .int) 1 := ⟨mw_11_6, mw_11_7, mw_1_5, mw_11_8, by decide +kernel⟩
set_option maxHeartbeats 4000000 in
set_option maxRecDepth 100000 in
theorem c_X4_deliver_bad (l : Launch) (G : GP) (a : Nat → Nat) (N : NS) (x : MX) (p : Int32) (h6 : N 6 ≤ 60) (h : ¬ (0 ≤ p ∧ p < nI (N 6))) : MI l yX4_deliver (.code yX4_deliver cX4_deliver 2 (some .int) :: GW) ({ frames := 2, cells := 0, slots := 0, locals := 43 }) [.ref (a 0), .int (p)] G ES (mN G a (N) (x)) (mN G a (N) (x)) (-1) := by
  refine MI.of (own := RX4) rfl rfl (Nat.le_of_ble_eq_true rfl) ?_
  intro pP eE sS mM below meth cC ls AA E hw hl hr hlk hE
  replace hl : lv_has ls 2 [(0, .ref (a 0)), (1, .int (p))] := hl
  refine lv_aload_n E.1 E.2.1 dX4_deliver_0 rfl (lv_at hl 0 rfl) ?_
  refine lv_iload_n E.1 E.2.1 dX4_deliver_1 rfl (lv_at hl 1 rfl) ?_
  refine callVI E (c_X4_isMessage l G a (N) (x) (p) (by omega)) mw_11_9 YX4_isMessage ⟨rfl, rfl⟩ ⟨Nat.le_of_ble_eq_true rfl, Nat.le_of_ble_eq_true rfl⟩ ⟨Nat.zero_le _, Nat.zero_le _⟩ hw 0 rfl rfl rfl hl rfl (Nat.le_of_ble_eq_true rfl) dX4_deliver_2 (fun H locs hw => ?_)
  refine lv_if_neB (tgt := 10) E.1 E.2.1 dX4_deliver_5 (by decide) (fun c5 => ?_) (fun c5 => ?_)
  · exact absurd c5 h
  · skip
    refine lv_iconst (v := -1) E.1 E.2.1 dX4_deliver_8 (by decide) ?_
    exact rI E hr hlk (HB.eq hw (rfl)) (rfl) dX4_deliver_9
set_option maxHeartbeats 4000000 in
set_option maxRecDepth 100000 in
theorem c_X4_deliver_ok (l : Launch) (G : GP) (a : Nat → Nat) (N : NS) (x : MX) (u : Nat) (T : Prop) [Decidable T] (hu : x.1 0 = nI u) (hT : x.1 2 = zb T) (hu6 : u ≤ 6) (p : Nat) (hp : p < N 6) (hF : FI N) (hM : MK p N) : MI l yX4_deliver (.code yX4_deliver cX4_deliver 2 (some .int) :: GW) ({ frames := 5, cells := 0, slots := 0, locals := 123 }) [.ref (a 0), .int (nI (p))] G ES (mN G a (N) (x)) (mN G a (mDlv p N) (rcd u N x)) (nI (mDlv p N 6)) := by
  refine MI.of (own := RX4) rfl rfl (Nat.le_of_ble_eq_true rfl) ?_
  intro pP eE sS mM below meth cC ls AA E hw hl hr hlk hE
  replace hl : lv_has ls 2 [(0, .ref (a 0)), (1, .int (nI (p)))] := hl
  have h6 := hF.1
  refine lv_aload_n E.1 E.2.1 dX4_deliver_0 rfl (lv_at hl 0 rfl) ?_
  refine lv_iload_n E.1 E.2.1 dX4_deliver_1 rfl (lv_at hl 1 rfl) ?_
  refine callVI E (c_X4_isMessage l G a (N) (x) (nI (p)) (by omega)) mw_11_9 YX4_isMessage ⟨rfl, rfl⟩ ⟨Nat.le_of_ble_eq_true rfl, Nat.le_of_ble_eq_true rfl⟩ ⟨Nat.zero_le _, Nat.zero_le _⟩ hw 0 rfl rfl rfl hl rfl (Nat.le_of_ble_eq_true rfl) dX4_deliver_2 (fun H locs hw => ?_)
  refine lv_if_neB (tgt := 10) E.1 E.2.1 dX4_deliver_5 (by decide) (fun c5 => ?_) (fun c5 => ?_)
  · skip
    refine lv_aload_n E.1 E.2.1 dX4_deliver_10 rfl (lv_at hl 0 rfl) ?_
    refine callVV E (c_X4_record l G a (N) (x) u T hu hT hu6) mw_5_16 YX4_record ⟨rfl, rfl⟩ ⟨Nat.le_of_ble_eq_true rfl, Nat.le_of_ble_eq_true rfl⟩ ⟨Nat.zero_le _, Nat.zero_le _⟩ hw 0 rfl rfl rfl hl rfl (Nat.le_of_ble_eq_true rfl) dX4_deliver_11 (fun H locs hw => ?_)
    refine lv_aload_n E.1 E.2.1 dX4_deliver_14 rfl (lv_at hl 0 rfl) ?_
    refine lv_iload_n E.1 E.2.1 dX4_deliver_15 rfl (lv_at hl 1 rfl) ?_
    refine callVV E (c_X4_deliverNow l G a N (rcd u N x) p _ _ _ _ hp hF rfl rfl rfl rfl hM.1 hM.2.1 hM.2.2.1 hM.2.2.2.1 hM.2.2.2.2) mw_11_13 YX4_deliverNow ⟨rfl, rfl⟩ ⟨Nat.le_of_ble_eq_true rfl, Nat.le_of_ble_eq_true rfl⟩ ⟨Nat.zero_le _, Nat.zero_le _⟩ hw 0 rfl rfl rfl hl rfl (Nat.le_of_ble_eq_true rfl) dX4_deliver_16 (fun H locs hw => ?_)
    refine lv_aload_n E.1 E.2.1 dX4_deliver_19 rfl (lv_at hl 0 rfl) ?_
    refine gX4_0 E hw mw_3_8 dX4_deliver_20 ?_
    refine lv_bipush (v := nI 6) E.1 E.2.1 dX4_deliver_23 (by decide) ?_
    refine lN4_0 E hw (v := (mDlv p (N)) 6) (by omega) (rfl) dX4_deliver_25 ?_
    exact rI E hr hlk (HB.eq hw (rfl)) (rfl) dX4_deliver_26
  · exact absurd (in0 (by omega) (by omega)) c5
theorem YX4_loseNow : YV yX4_loseNow RX4 cX4_loseNow 2 none 1 := ⟨mw_13_10, mw_13_11, mw_1_5, mw_13_12, by decide +kernel⟩
set_option maxHeartbeats 4000000 in
set_option maxRecDepth 100000 in
theorem c_X4_loseNow (l : Launch) (G : GP) (a : Nat → Nat) (N : NS) (x : MX) (p : Nat) (hp : p < N 6) (h6 : N 6 ≤ 60) : MV l yX4_loseNow (.code yX4_loseNow cX4_loseNow 2 none :: GW) ({ frames := 1, cells := 0, slots := 0, locals := 22 }) [.ref (a 0), .int (nI (p))] G ES (mN G a (N) (x)) (mN G a (mLose p N) (x)) := by
  refine MV.of (own := RX4) rfl rfl (Nat.le_of_ble_eq_true rfl) ?_
  intro pP eE sS mM below meth cC ls AA E hw hl hr hlk hE
  replace hl : lv_has ls 2 [(0, .ref (a 0)), (1, .int (nI (p)))] := hl
  refine lv_aload_n E.1 E.2.1 dX4_loseNow_0 rfl (lv_at hl 0 rfl) ?_
  refine lv_iload_n E.1 E.2.1 dX4_loseNow_1 rfl (lv_at hl 1 rfl) ?_
  refine callVV E (c_X4_drop l G a (N) (x) p (by omega) (by omega)) mw_11_17 YX4_drop ⟨rfl, rfl⟩ ⟨Nat.le_of_ble_eq_true rfl, Nat.le_of_ble_eq_true rfl⟩ ⟨Nat.zero_le _, Nat.zero_le _⟩ hw 0 rfl rfl rfl hl rfl (Nat.le_of_ble_eq_true rfl) dX4_loseNow_2 (fun H locs hw => ?_)
  refine lv_aload_n E.1 E.2.1 dX4_loseNow_5 rfl (lv_at hl 0 rfl) ?_
  refine gX4_0 E hw mw_3_8 dX4_loseNow_6 ?_
  refine lv_bipush (v := nI 8) E.1 E.2.1 dX4_loseNow_9 (by decide) ?_
  refine lv_dup2_11 E.1 E.2.1 dX4_loseNow_11 rfl rfl ?_
  refine lN4_0 E hw (v := mDrop p N 8) (by omega) (rfl) dX4_loseNow_12 ?_
  refine lv_iconst (v := nI 1) E.1 E.2.1 dX4_loseNow_13 (by decide) ?_
  refine lv_addN E.1 E.2.1 dX4_loseNow_14 ?_
  refine sN4_0 E hw (by omega) dX4_loseNow_15 (fun H locs hw => ?_)
  exact rV E hr hlk (HB.eq hw (rfl)) dX4_loseNow_16
theorem YX4_lose : YV yX4_lose RX4 cX4_lose 2 (some .int) 1 := ⟨mw_13_6, mw_13_7, mw_1_5, mw_13_8, by decide +kernel⟩
set_option maxHeartbeats 4000000 in
set_option maxRecDepth 100000 in
theorem c_X4_lose_bad (l : Launch) (G : GP) (a : Nat → Nat) (N : NS) (x : MX) (p : Int32) (h6 : N 6 ≤ 60) (h : ¬ (0 ≤ p ∧ p < nI (N 6))) : MI l yX4_lose (.code yX4_lose cX4_lose 2 (some .int) :: GW) ({ frames := 2, cells := 0, slots := 0, locals := 43 }) [.ref (a 0), .int (p)] G ES (mN G a (N) (x)) (mN G a (N) (x)) (-1) := by
  refine MI.of (own := RX4) rfl rfl (Nat.le_of_ble_eq_true rfl) ?_
  intro pP eE sS mM below meth cC ls AA E hw hl hr hlk hE
  replace hl : lv_has ls 2 [(0, .ref (a 0)), (1, .int (p))] := hl
  refine lv_aload_n E.1 E.2.1 dX4_lose_0 rfl (lv_at hl 0 rfl) ?_
  refine lv_iload_n E.1 E.2.1 dX4_lose_1 rfl (lv_at hl 1 rfl) ?_
  refine callVI E (c_X4_isMessage l G a (N) (x) (p) (by omega)) mw_11_9 YX4_isMessage ⟨rfl, rfl⟩ ⟨Nat.le_of_ble_eq_true rfl, Nat.le_of_ble_eq_true rfl⟩ ⟨Nat.zero_le _, Nat.zero_le _⟩ hw 0 rfl rfl rfl hl rfl (Nat.le_of_ble_eq_true rfl) dX4_lose_2 (fun H locs hw => ?_)
  refine lv_if_neB (tgt := 10) E.1 E.2.1 dX4_lose_5 (by decide) (fun c5 => ?_) (fun c5 => ?_)
  · exact absurd c5 h
  · skip
    refine lv_iconst (v := -1) E.1 E.2.1 dX4_lose_8 (by decide) ?_
    exact rI E hr hlk (HB.eq hw (rfl)) (rfl) dX4_lose_9
set_option maxHeartbeats 4000000 in
set_option maxRecDepth 100000 in
theorem c_X4_lose_ok (l : Launch) (G : GP) (a : Nat → Nat) (N : NS) (x : MX) (u : Nat) (T : Prop) [Decidable T] (hu : x.1 0 = nI u) (hT : x.1 2 = zb T) (hu6 : u ≤ 6) (p : Nat) (hp : p < N 6) (hF : FI N) : MI l yX4_lose (.code yX4_lose cX4_lose 2 (some .int) :: GW) ({ frames := 2, cells := 0, slots := 0, locals := 43 }) [.ref (a 0), .int (nI (p))] G ES (mN G a (N) (x)) (mN G a (mLose p N) (rcd u N x)) (nI (mLose p N 6)) := by
  refine MI.of (own := RX4) rfl rfl (Nat.le_of_ble_eq_true rfl) ?_
  intro pP eE sS mM below meth cC ls AA E hw hl hr hlk hE
  replace hl : lv_has ls 2 [(0, .ref (a 0)), (1, .int (nI (p)))] := hl
  have h6 := hF.1
  refine lv_aload_n E.1 E.2.1 dX4_lose_0 rfl (lv_at hl 0 rfl) ?_
  refine lv_iload_n E.1 E.2.1 dX4_lose_1 rfl (lv_at hl 1 rfl) ?_
  refine callVI E (c_X4_isMessage l G a (N) (x) (nI (p)) (by omega)) mw_11_9 YX4_isMessage ⟨rfl, rfl⟩ ⟨Nat.le_of_ble_eq_true rfl, Nat.le_of_ble_eq_true rfl⟩ ⟨Nat.zero_le _, Nat.zero_le _⟩ hw 0 rfl rfl rfl hl rfl (Nat.le_of_ble_eq_true rfl) dX4_lose_2 (fun H locs hw => ?_)
  refine lv_if_neB (tgt := 10) E.1 E.2.1 dX4_lose_5 (by decide) (fun c5 => ?_) (fun c5 => ?_)
  · skip
    refine lv_aload_n E.1 E.2.1 dX4_lose_10 rfl (lv_at hl 0 rfl) ?_
    refine callVV E (c_X4_record l G a (N) (x) u T hu hT hu6) mw_5_16 YX4_record ⟨rfl, rfl⟩ ⟨Nat.le_of_ble_eq_true rfl, Nat.le_of_ble_eq_true rfl⟩ ⟨Nat.zero_le _, Nat.zero_le _⟩ hw 0 rfl rfl rfl hl rfl (Nat.le_of_ble_eq_true rfl) dX4_lose_11 (fun H locs hw => ?_)
    refine lv_aload_n E.1 E.2.1 dX4_lose_14 rfl (lv_at hl 0 rfl) ?_
    refine lv_iload_n E.1 E.2.1 dX4_lose_15 rfl (lv_at hl 1 rfl) ?_
    refine callVV E (c_X4_loseNow l G a (N) (rcd u (N) (x)) p (by omega) (by omega)) mw_13_9 YX4_loseNow ⟨rfl, rfl⟩ ⟨Nat.le_of_ble_eq_true rfl, Nat.le_of_ble_eq_true rfl⟩ ⟨Nat.zero_le _, Nat.zero_le _⟩ hw 0 rfl rfl rfl hl rfl (Nat.le_of_ble_eq_true rfl) dX4_lose_16 (fun H locs hw => ?_)
    refine lv_aload_n E.1 E.2.1 dX4_lose_19 rfl (lv_at hl 0 rfl) ?_
    refine gX4_0 E hw mw_3_8 dX4_lose_20 ?_
    refine lv_bipush (v := nI 6) E.1 E.2.1 dX4_lose_23 (by decide) ?_
    refine lN4_0 E hw (v := (mLose p (N)) 6) (by omega) (rfl) dX4_lose_25 ?_
    exact rI E hr hlk (HB.eq hw (rfl)) (rfl) dX4_lose_26
  · exact absurd (in0 (by omega) (by omega)) c5
theorem YX4_twice : YV yX4_twice RX4 cX4_twice 3 (some .int) 1 := ⟨mw_14_2, mw_14_3, mw_1_5, mw_14_4, by decide +kernel⟩
set_option maxHeartbeats 4000000 in
set_option maxRecDepth 100000 in
theorem c_X4_twice_bad (l : Launch) (G : GP) (a : Nat → Nat) (N : NS) (x : MX) (p : Int32) (h6 : N 6 ≤ 60) (h : ¬ (0 ≤ p ∧ p < nI (N 6))) : MI l yX4_twice (.code yX4_twice cX4_twice 3 (some .int) :: GW) ({ frames := 2, cells := 0, slots := 0, locals := 43 }) [.ref (a 0), .int (p)] G ES (mN G a (N) (x)) (mN G a (N) (x)) (-1) := by
  refine MI.of (own := RX4) rfl rfl (Nat.le_of_ble_eq_true rfl) ?_
  intro pP eE sS mM below meth cC ls AA E hw hl hr hlk hE
  replace hl : lv_has ls 3 [(0, .ref (a 0)), (1, .int (p))] := hl
  refine lv_aload_n E.1 E.2.1 dX4_twice_0 rfl (lv_at hl 0 rfl) ?_
  refine lv_iload_n E.1 E.2.1 dX4_twice_1 rfl (lv_at hl 1 rfl) ?_
  refine callVI E (c_X4_isMessage l G a (N) (x) (p) (by omega)) mw_11_9 YX4_isMessage ⟨rfl, rfl⟩ ⟨Nat.le_of_ble_eq_true rfl, Nat.le_of_ble_eq_true rfl⟩ ⟨Nat.zero_le _, Nat.zero_le _⟩ hw 0 rfl rfl rfl hl rfl (Nat.le_of_ble_eq_true rfl) dX4_twice_2 (fun H locs hw => ?_)
  refine lv_if_neB (tgt := 10) E.1 E.2.1 dX4_twice_5 (by decide) (fun c5 => ?_) (fun c5 => ?_)
  · exact absurd c5 h
  · skip
    refine lv_iconst (v := -1) E.1 E.2.1 dX4_twice_8 (by decide) ?_
    exact rI E hr hlk (HB.eq hw (rfl)) (rfl) dX4_twice_9
set_option maxHeartbeats 4000000 in
set_option maxRecDepth 100000 in
theorem c_X4_twice_full (l : Launch) (G : GP) (a : Nat → Nat) (N : NS) (x : MX) (p : Nat) (hp : p < N 6) (hF : FI N) (hL : N 6 = 60) : MI l yX4_twice (.code yX4_twice cX4_twice 3 (some .int) :: GW) ({ frames := 2, cells := 0, slots := 0, locals := 43 }) [.ref (a 0), .int (nI (p))] G ES (mN G a (N) (x)) (mN G a (N) (x)) (-4) := by
  refine MI.of (own := RX4) rfl rfl (Nat.le_of_ble_eq_true rfl) ?_
  intro pP eE sS mM below meth cC ls AA E hw hl hr hlk hE
  replace hl : lv_has ls 3 [(0, .ref (a 0)), (1, .int (nI (p)))] := hl
  have h6 := hF.1
  refine lv_aload_n E.1 E.2.1 dX4_twice_0 rfl (lv_at hl 0 rfl) ?_
  refine lv_iload_n E.1 E.2.1 dX4_twice_1 rfl (lv_at hl 1 rfl) ?_
  refine callVI E (c_X4_isMessage l G a (N) (x) (nI (p)) (by omega)) mw_11_9 YX4_isMessage ⟨rfl, rfl⟩ ⟨Nat.le_of_ble_eq_true rfl, Nat.le_of_ble_eq_true rfl⟩ ⟨Nat.zero_le _, Nat.zero_le _⟩ hw 0 rfl rfl rfl hl rfl (Nat.le_of_ble_eq_true rfl) dX4_twice_2 (fun H locs hw => ?_)
  refine lv_if_neB (tgt := 10) E.1 E.2.1 dX4_twice_5 (by decide) (fun c5 => ?_) (fun c5 => ?_)
  · skip
    refine lv_aload_n E.1 E.2.1 dX4_twice_10 rfl (lv_at hl 0 rfl) ?_
    refine gX4_0 E hw mw_3_8 dX4_twice_11 ?_
    refine lv_bipush (v := nI 6) E.1 E.2.1 dX4_twice_14 (by decide) ?_
    refine lN4_0 E hw (v := N 6) (by omega) (rfl) dX4_twice_16 ?_
    refine lv_bipush (v := nI 60) E.1 E.2.1 dX4_twice_17 (by decide) ?_
    refine lv_icmp_neN (tgt := 25) E.1 E.2.1 (by omega) (by omega) dX4_twice_19 (by decide) (fun c19 => ?_) (fun c19 => ?_)
    · exact absurd hL c19
    · skip
      refine lv_bipush (v := -4) E.1 E.2.1 dX4_twice_22 (by decide) ?_
      exact rI E hr hlk (HB.eq hw (rfl)) (rfl) dX4_twice_24
  · exact absurd (in0 (by omega) (by omega)) c5
set_option maxHeartbeats 4000000 in
set_option maxRecDepth 100000 in
theorem c_X4_twice_ok (l : Launch) (G : GP) (a : Nat → Nat) (N : NS) (x : MX) (u : Nat) (T : Prop) [Decidable T] (hu : x.1 0 = nI u) (hT : x.1 2 = zb T) (hu6 : u ≤ 6) (p : Nat) (hp : p < N 6) (hF : FI N) (hL : ¬ N 6 = 60) : MI l yX4_twice (.code yX4_twice cX4_twice 3 (some .int) :: GW) ({ frames := 2, cells := 0, slots := 0, locals := 43 }) [.ref (a 0), .int (nI (p))] G ES (mN G a (N) (x)) (mN G a (mTwi p N) (rcd u N x)) (nI (mTwi p N 6)) := by
  refine MI.of (own := RX4) rfl rfl (Nat.le_of_ble_eq_true rfl) ?_
  intro pP eE sS mM below meth cC ls AA E hw hl hr hlk hE
  replace hl : lv_has ls 3 [(0, .ref (a 0)), (1, .int (nI (p)))] := hl
  have h6 := hF.1
  refine lv_aload_n E.1 E.2.1 dX4_twice_0 rfl (lv_at hl 0 rfl) ?_
  refine lv_iload_n E.1 E.2.1 dX4_twice_1 rfl (lv_at hl 1 rfl) ?_
  refine callVI E (c_X4_isMessage l G a (N) (x) (nI (p)) (by omega)) mw_11_9 YX4_isMessage ⟨rfl, rfl⟩ ⟨Nat.le_of_ble_eq_true rfl, Nat.le_of_ble_eq_true rfl⟩ ⟨Nat.zero_le _, Nat.zero_le _⟩ hw 0 rfl rfl rfl hl rfl (Nat.le_of_ble_eq_true rfl) dX4_twice_2 (fun H locs hw => ?_)
  refine lv_if_neB (tgt := 10) E.1 E.2.1 dX4_twice_5 (by decide) (fun c5 => ?_) (fun c5 => ?_)
  · skip
    refine lv_aload_n E.1 E.2.1 dX4_twice_10 rfl (lv_at hl 0 rfl) ?_
    refine gX4_0 E hw mw_3_8 dX4_twice_11 ?_
    refine lv_bipush (v := nI 6) E.1 E.2.1 dX4_twice_14 (by decide) ?_
    refine lN4_0 E hw (v := N 6) (by omega) (rfl) dX4_twice_16 ?_
    refine lv_bipush (v := nI 60) E.1 E.2.1 dX4_twice_17 (by decide) ?_
    refine lv_icmp_neN (tgt := 25) E.1 E.2.1 (by omega) (by omega) dX4_twice_19 (by decide) (fun c19 => ?_) (fun c19 => ?_)
    · skip
      refine lv_aload_n E.1 E.2.1 dX4_twice_25 rfl (lv_at hl 0 rfl) ?_
      refine callVV E (c_X4_record l G a (N) (x) u T hu hT hu6) mw_5_16 YX4_record ⟨rfl, rfl⟩ ⟨Nat.le_of_ble_eq_true rfl, Nat.le_of_ble_eq_true rfl⟩ ⟨Nat.zero_le _, Nat.zero_le _⟩ hw 0 rfl rfl rfl hl rfl (Nat.le_of_ble_eq_true rfl) dX4_twice_26 (fun H locs hw => ?_)
      refine lv_iconst (v := nI 0) E.1 E.2.1 dX4_twice_29 (by decide) ?_
      refine lv_istore_n (lv' := [(2, .int (nI (0))), (0, .ref (a 0)), (1, .int (nI (p)))]) E.1 E.2.1 dX4_twice_30 rfl hl (by decide) rfl (fun ls hl => ?_)
      refine W_ind1 (nL := 3) (P := fun k => k ≤ 4) (μ := fun k => 4 - k) (I := fun k => mN G a (mTw p N k) (rcd u N x)) (L := fun k => [(0, .ref (a 0)), (1, .int (nI (p))), (2, .int (nI (k)))]) ?_ (0) (Nat.zero_le _) (HB.eq hw (by rw [mTw_0])) (lvh_eq (l := [(0, .ref (a 0)), (1, .int (nI (p))), (2, .int (nI (0)))]) (lv_sub hl [1, 2, 0] rfl) (rfl))
      intro k hP ih H locs ls hw hl
      replace hw : HB G AA sS.heap (mN G a (mTw p N k) (rcd u N x)) H locs := hw
      replace hl : lv_has ls 3 [(0, .ref (a 0)), (1, .int (nI (p))), (2, .int (nI (k)))] := hl
      refine lv_iload_n E.1 E.2.1 dX4_twice_31 rfl (lv_at hl 2 rfl) ?_
      refine lv_iconst (v := nI 4) E.1 E.2.1 dX4_twice_32 (by decide) ?_
      refine lv_icmp_geN (tgt := 76) E.1 E.2.1 (by omega) (by omega) dX4_twice_33 (by decide) (fun c33 => ?_) (fun c33 => ?_)
      · skip
        obtain rfl : k = 4 := by omega
        refine lv_aload_n E.1 E.2.1 dX4_twice_76 rfl (lv_at hl 0 rfl) ?_
        refine gX4_0 E hw mw_3_8 dX4_twice_77 ?_
        refine lv_bipush (v := nI 6) E.1 E.2.1 dX4_twice_80 (by decide) ?_
        refine lv_dup2_11 E.1 E.2.1 dX4_twice_82 rfl rfl ?_
        refine lN4_0 E hw (v := N 6) (by omega) (mTw_n (by omega)) dX4_twice_83 ?_
        refine lv_iconst (v := nI 1) E.1 E.2.1 dX4_twice_84 (by decide) ?_
        refine lv_addN E.1 E.2.1 dX4_twice_85 ?_
        refine sN4_0 E hw (by omega) dX4_twice_86 (fun H locs hw => ?_)
        refine lv_aload_n E.1 E.2.1 dX4_twice_87 rfl (lv_at hl 0 rfl) ?_
        refine gX4_0 E hw mw_3_8 dX4_twice_88 ?_
        refine lv_bipush (v := nI 6) E.1 E.2.1 dX4_twice_91 (by decide) ?_
        refine lN4_0 E hw (v := N 6 + 1) (by omega) (by rw [un_s]) dX4_twice_93 ?_
        exact rI E hr hlk (HB.eq hw (rfl)) (by rw [mTwi, un_s]) dX4_twice_94
      · skip
        refine lv_aload_n E.1 E.2.1 dX4_twice_36 rfl (lv_at hl 0 rfl) ?_
        refine gX4_0 E hw mw_3_8 dX4_twice_37 ?_
        refine lv_sipush (v := nI 150) E.1 E.2.1 dX4_twice_40 (by decide) ?_
        refine lv_iconst (v := nI 4) E.1 E.2.1 dX4_twice_43 (by decide) ?_
        refine lv_aload_n E.1 E.2.1 dX4_twice_44 rfl (lv_at hl 0 rfl) ?_
        refine gX4_0 E hw mw_3_8 dX4_twice_45 ?_
        refine lv_bipush (v := nI 6) E.1 E.2.1 dX4_twice_48 (by decide) ?_
        refine lN4_0 E hw (v := N 6) (by omega) (mTw_n (by omega)) dX4_twice_50 ?_
        refine lv_mulN E.1 E.2.1 dX4_twice_51 ?_
        refine lv_addN E.1 E.2.1 dX4_twice_52 ?_
        refine lv_iload_n E.1 E.2.1 dX4_twice_53 rfl (lv_at hl 2 rfl) ?_
        refine lv_addN E.1 E.2.1 dX4_twice_54 ?_
        refine lv_aload_n E.1 E.2.1 dX4_twice_55 rfl (lv_at hl 0 rfl) ?_
        refine gX4_0 E hw mw_3_8 dX4_twice_56 ?_
        refine lv_sipush (v := nI 150) E.1 E.2.1 dX4_twice_59 (by decide) ?_
        refine lv_iconst (v := nI 4) E.1 E.2.1 dX4_twice_62 (by decide) ?_
        refine lv_iload_n E.1 E.2.1 dX4_twice_63 rfl (lv_at hl 1 rfl) ?_
        refine lv_mulN E.1 E.2.1 dX4_twice_64 ?_
        refine lv_addN E.1 E.2.1 dX4_twice_65 ?_
        refine lv_iload_n E.1 E.2.1 dX4_twice_66 rfl (lv_at hl 2 rfl) ?_
        refine lv_addN E.1 E.2.1 dX4_twice_67 ?_
        refine lN4_0 E hw (v := N (150 + 4 * p + k)) (by omega) (mTw_n (by omega)) dX4_twice_68 ?_
        refine sN4_0 E hw (by omega) dX4_twice_69 (fun H locs hw => ?_)
        refine lv_iincN (k := 2) (lv' := [(2, .int (nI (k + 1))), (0, .ref (a 0)), (1, .int (nI (p)))]) E.1 E.2.1 dX4_twice_70 hl rfl (by decide) rfl (fun ls hl => ?_)
        refine lv_goto (tgt := 31) E.1 E.2.1 dX4_twice_73 (by decide) ?_
        exact ih (k + 1) (by omega) (by omega) _ _ _ (HB.eq hw (by rw [mTw_s])) (lvh_eq (l := [(0, .ref (a 0)), (1, .int (nI (p))), (2, .int (nI (k + 1)))]) (lv_sub hl [1, 2, 0] rfl) (rfl))
    · exact absurd c19 hL
  · exact absurd (in0 (by omega) (by omega)) c5
theorem YX4_ill : YV yX4_ill RX4 cX4_ill 3 (some .int) 0 := ⟨mw_15_12, mw_15_13, mw_1_5, mw_15_14, by decide +kernel⟩
set_option maxHeartbeats 4000000 in
set_option maxRecDepth 100000 in
theorem c_X4_ill (l : Launch) (G : GP) (a : Nat → Nat) (N : NS) (x : MX)  : MI l yX4_ill (.code yX4_ill cX4_ill 3 (some .int) :: GW) ({ frames := 0, cells := 0, slots := 0, locals := 0 }) [.ref (a 0)] G ES (mN G a (N) (x)) (mN G a (N) (x)) (nI (illN N)) := by
  refine MI.of (own := RX4) rfl rfl (Nat.le_of_ble_eq_true rfl) ?_
  intro pP eE sS mM below meth cC ls AA E hw hl hr hlk hE
  replace hl : lv_has ls 3 [(0, .ref (a 0))] := hl
  refine lv_iconst (v := nI 0) E.1 E.2.1 dX4_ill_0 (by decide) ?_
  refine lv_istore_n (lv' := [(1, .int (nI (0))), (0, .ref (a 0))]) E.1 E.2.1 dX4_ill_1 rfl hl (by decide) rfl (fun ls hl => ?_)
  refine lv_iconst (v := nI 0) E.1 E.2.1 dX4_ill_2 (by decide) ?_
  refine lv_istore_n (lv' := [(2, .int (nI (0))), (1, .int (nI (0))), (0, .ref (a 0))]) E.1 E.2.1 dX4_ill_3 rfl hl (by decide) rfl (fun ls hl => ?_)
  refine W_ind1 (nL := 3) (P := fun w => w ≤ 5) (μ := fun w => 5 - w) (I := fun w => mN G a (N) (x)) (L := fun w => [(0, .ref (a 0)), (1, .int (nI (illI N w))), (2, .int (nI (w)))]) ?_ (0) (Nat.zero_le _) (HB.eq hw (rfl)) (lvh_eq (l := [(0, .ref (a 0)), (1, .int (nI (0))), (2, .int (nI (0)))]) (lv_sub hl [2, 1, 0] rfl) (rfl))
  intro w hP ih H locs ls hw hl
  replace hw : HB G AA sS.heap (mN G a (N) (x)) H locs := hw
  replace hl : lv_has ls 3 [(0, .ref (a 0)), (1, .int (nI (illI N w))), (2, .int (nI (w)))] := hl
  refine lv_iload_n E.1 E.2.1 dX4_ill_4 rfl (lv_at hl 2 rfl) ?_
  refine lv_iconst (v := nI 5) E.1 E.2.1 dX4_ill_5 (by decide) ?_
  refine lv_icmp_geN (tgt := 27) E.1 E.2.1 (by omega) (by omega) dX4_ill_6 (by decide) (fun c6 => ?_) (fun c6 => ?_)
  · skip
    refine lv_iload_n E.1 E.2.1 dX4_ill_27 rfl (lv_at hl 1 rfl) ?_
    exact rI E hr hlk (HB.eq hw (rfl)) (by rw [show w = 5 by omega]; rfl) dX4_ill_28
  · skip
    refine lv_iload_n E.1 E.2.1 dX4_ill_9 rfl (lv_at hl 1 rfl) ?_
    refine lv_aload_n E.1 E.2.1 dX4_ill_10 rfl (lv_at hl 0 rfl) ?_
    refine gX4_0 E hw mw_3_8 dX4_ill_11 ?_
    refine lv_bipush (v := nI 10) E.1 E.2.1 dX4_ill_14 (by decide) ?_
    refine lv_iload_n E.1 E.2.1 dX4_ill_16 rfl (lv_at hl 2 rfl) ?_
    refine lv_addN E.1 E.2.1 dX4_ill_17 ?_
    refine lN4_0 E hw (v := N (10 + w)) (by omega) (rfl) dX4_ill_18 ?_
    refine lv_addN E.1 E.2.1 dX4_ill_19 ?_
    refine lv_istore_n (lv' := [(1, .int (nI (illI N w + (N (10 + w))))), (0, .ref (a 0)), (2, .int (nI (w)))]) E.1 E.2.1 dX4_ill_20 rfl hl (by decide) rfl (fun ls hl => ?_)
    refine lv_iincN (k := 2) (lv' := [(2, .int (nI (w + 1))), (1, .int (nI (illI N w + (N (10 + w))))), (0, .ref (a 0))]) E.1 E.2.1 dX4_ill_21 hl rfl (by decide) rfl (fun ls hl => ?_)
    refine lv_goto (tgt := 4) E.1 E.2.1 dX4_ill_24 (by decide) ?_
    exact ih (w + 1) (by omega) (by omega) _ _ _ (HB.eq hw (rfl)) (lvh_eq (l := [(0, .ref (a 0)), (1, .int (nI (illI N w + (N (10 + w))))), (2, .int (nI (w + 1)))]) (lv_sub hl [2, 1, 0] rfl) (rfl))
theorem YX4_fall : YV yX4_fall RX4 cX4_fall 3 (some .int) 1 := ⟨mw_15_4, mw_15_5, mw_1_5, mw_15_6, by decide +kernel⟩
set_option maxHeartbeats 4000000 in
set_option maxRecDepth 100000 in
theorem c_X4_fall_bad (l : Launch) (G : GP) (a : Nat → Nat) (N : NS) (x : MX) (v : Int32) (h : ¬ (nI 0 ≤ v ∧ v ≤ nI 4)) : MI l yX4_fall (.code yX4_fall cX4_fall 3 (some .int) :: GW) ({ frames := 1, cells := 0, slots := 0, locals := 22 }) [.ref (a 0), .int (v)] G ES (mN G a (N) (x)) (mN G a (N) (x)) (-1) := by
  refine MI.of (own := RX4) rfl rfl (Nat.le_of_ble_eq_true rfl) ?_
  intro pP eE sS mM below meth cC ls AA E hw hl hr hlk hE
  replace hl : lv_has ls 3 [(0, .ref (a 0)), (1, .int (v))] := hl
  refine lv_iload_n E.1 E.2.1 dX4_fall_0 rfl (lv_at hl 1 rfl) ?_
  refine lv_iconst (v := nI 0) E.1 E.2.1 dX4_fall_1 (by decide) ?_
  refine lv_iconst (v := nI 4) E.1 E.2.1 dX4_fall_2 (by decide) ?_
  refine callSI E (c_X4_in l G (v) (nI (0)) (nI (4))) mw_5_13 YX4_in ⟨rfl, rfl⟩ ⟨Nat.le_of_ble_eq_true rfl, Nat.le_of_ble_eq_true rfl⟩ ⟨Nat.zero_le _, Nat.zero_le _⟩ hw (w := []) (w' := []) (rr := mN G a (N) (x)) (big' := mN G a (N) (x)) (List.Perm.refl _) (List.Perm.refl _) rfl hl rfl (Nat.le_of_ble_eq_true rfl) dX4_fall_3 (fun H locs hw => ?_)
  refine lv_if_neB (tgt := 11) E.1 E.2.1 dX4_fall_6 (by decide) (fun c6 => ?_) (fun c6 => ?_)
  · exact absurd c6 h
  · skip
    refine lv_iconst (v := -1) E.1 E.2.1 dX4_fall_9 (by decide) ?_
    exact rI E hr hlk (HB.eq hw (rfl)) (rfl) dX4_fall_10
set_option maxHeartbeats 4000000 in
set_option maxRecDepth 100000 in
theorem c_X4_fall_ok (l : Launch) (G : GP) (a : Nat → Nat) (N : NS) (x : MX) (u : Nat) (T : Prop) [Decidable T] (hu : x.1 0 = nI u) (hT : x.1 2 = zb T) (hu6 : u ≤ 6) (w : Nat) (hw : w < 5) (hF : FI N) : MI l yX4_fall (.code yX4_fall cX4_fall 3 (some .int) :: GW) ({ frames := 2, cells := 0, slots := 0, locals := 46 }) [.ref (a 0), .int (nI (w))] G ES (mN G a (N) (x)) (mN G a (nFal w N) (if N (10 + w) = 1 then x else rcd u N x)) (rFal w N) := by
  have hw5 := hw
  refine MI.of (own := RX4) rfl rfl (Nat.le_of_ble_eq_true rfl) ?_
  intro pP eE sS mM below meth cC ls AA E hw hl hr hlk hE
  replace hl : lv_has ls 3 [(0, .ref (a 0)), (1, .int (nI (w)))] := hl
  have h5 := hF.2.1
  have h6 := hF.1
  have hi := hF.il hw5
  have hF1 := hF.uw (j := 10 + w) (v := 1) (by omega) (by decide)
  refine lv_iload_n E.1 E.2.1 dX4_fall_0 rfl (lv_at hl 1 rfl) ?_
  refine lv_iconst (v := nI 0) E.1 E.2.1 dX4_fall_1 (by decide) ?_
  refine lv_iconst (v := nI 4) E.1 E.2.1 dX4_fall_2 (by decide) ?_
  refine callSI E (c_X4_in l G (nI (w)) (nI (0)) (nI (4))) mw_5_13 YX4_in ⟨rfl, rfl⟩ ⟨Nat.le_of_ble_eq_true rfl, Nat.le_of_ble_eq_true rfl⟩ ⟨Nat.zero_le _, Nat.zero_le _⟩ hw (w := []) (w' := []) (rr := mN G a (N) (x)) (big' := mN G a (N) (x)) (List.Perm.refl _) (List.Perm.refl _) rfl hl rfl (Nat.le_of_ble_eq_true rfl) dX4_fall_3 (fun H locs hw => ?_)
  refine lv_if_neB (tgt := 11) E.1 E.2.1 dX4_fall_6 (by decide) (fun c6 => ?_) (fun c6 => ?_)
  · skip
    refine lv_aload_n E.1 E.2.1 dX4_fall_11 rfl (lv_at hl 0 rfl) ?_
    refine lv_iload_n E.1 E.2.1 dX4_fall_12 rfl (lv_at hl 1 rfl) ?_
    refine callVI E (c_X4_isIll l G a (N) (x) w (N (10 + w)) (by omega) (rfl) (by omega)) mw_7_15 YX4_isIll ⟨rfl, rfl⟩ ⟨Nat.le_of_ble_eq_true rfl, Nat.le_of_ble_eq_true rfl⟩ ⟨Nat.zero_le _, Nat.zero_le _⟩ hw 0 rfl rfl rfl hl rfl (Nat.le_of_ble_eq_true rfl) dX4_fall_13 (fun H locs hw => ?_)
    refine lv_if_eqB (tgt := 22) E.1 E.2.1 dX4_fall_16 (by decide) (fun c16 => ?_) (fun c16 => ?_)
    · skip
      refine lv_aload_n E.1 E.2.1 dX4_fall_22 rfl (lv_at hl 0 rfl) ?_
      refine callVV E (c_X4_record l G a (N) (x) u T hu hT hu6) mw_5_16 YX4_record ⟨rfl, rfl⟩ ⟨Nat.le_of_ble_eq_true rfl, Nat.le_of_ble_eq_true rfl⟩ ⟨Nat.zero_le _, Nat.zero_le _⟩ hw 0 rfl rfl rfl hl rfl (Nat.le_of_ble_eq_true rfl) dX4_fall_23 (fun H locs hw => ?_)
      refine lv_aload_n E.1 E.2.1 dX4_fall_26 rfl (lv_at hl 0 rfl) ?_
      refine gX4_0 E hw mw_3_8 dX4_fall_27 ?_
      refine lv_bipush (v := nI 10) E.1 E.2.1 dX4_fall_30 (by decide) ?_
      refine lv_iload_n E.1 E.2.1 dX4_fall_32 rfl (lv_at hl 1 rfl) ?_
      refine lv_addN E.1 E.2.1 dX4_fall_33 ?_
      refine lv_iconst (v := nI 1) E.1 E.2.1 dX4_fall_34 (by decide) ?_
      refine sN4_0 E hw (by omega) dX4_fall_35 (fun H locs hw => ?_)
      refine lv_iconst (v := nI 0) E.1 E.2.1 dX4_fall_36 (by decide) ?_
      refine lv_istore_n (lv' := [(2, .int (nI (0))), (0, .ref (a 0)), (1, .int (nI (w)))]) E.1 E.2.1 dX4_fall_37 rfl hl (by decide) rfl (fun ls hl => ?_)
      refine W_ind1 (nL := 3) (P := fun d => d ≤ N 5) (μ := fun d => N 5 - d) (I := fun d => mN G a (fgs w d (un N (10 + w) 1)) (rcd u N x)) (L := fun d => [(0, .ref (a 0)), (1, .int (nI (w))), (2, .int (nI (d)))]) ?_ (0) (Nat.zero_le _) (HB.eq hw (rfl)) (lvh_eq (l := [(0, .ref (a 0)), (1, .int (nI (w))), (2, .int (nI (0)))]) (lv_sub hl [1, 2, 0] rfl) (rfl))
      intro d hP ih H locs ls hw hl
      replace hw : HB G AA sS.heap (mN G a (fgs w d (un N (10 + w) 1)) (rcd u N x)) H locs := hw
      replace hl : lv_has ls 3 [(0, .ref (a 0)), (1, .int (nI (w))), (2, .int (nI (d)))] := hl
      have hM := hF1.fgs hw5 d (by omega)
      refine lv_iload_n E.1 E.2.1 dX4_fall_38 rfl (lv_at hl 2 rfl) ?_
      refine lv_aload_n E.1 E.2.1 dX4_fall_39 rfl (lv_at hl 0 rfl) ?_
      refine gX4_0 E hw mw_3_8 dX4_fall_40 ?_
      refine lv_iconst (v := nI 5) E.1 E.2.1 dX4_fall_43 (by decide) ?_
      refine lN4_0 E hw (v := N 5) (by omega) ((fgs_n hw5 (by omega) _ (by omega)).trans (un_n (by omega))) dX4_fall_44 ?_
      have hd8 : ¬ N 5 ≤ d → d < 8 := fun z => by omega
      refine lv_icmp_geN (tgt := 145) E.1 E.2.1 (by omega) (by omega) dX4_fall_45 (by decide) (fun c45 => ?_) (fun c45 => ?_)
      · skip
        refine lv_aload_n E.1 E.2.1 dX4_fall_145 rfl (lv_at hl 0 rfl) ?_
        refine callVI E (c_X4_ill l G a (fgs w d (un N (10 + w) 1)) (rcd u N x)) mw_15_11 YX4_ill ⟨rfl, rfl⟩ ⟨Nat.le_of_ble_eq_true rfl, Nat.le_of_ble_eq_true rfl⟩ ⟨Nat.zero_le _, Nat.zero_le _⟩ hw 0 rfl rfl rfl hl rfl (Nat.le_of_ble_eq_true rfl) dX4_fall_146 (fun H locs hw => ?_)
        exact rI E hr hlk (HB.eq hw (by rw [nFal, if_neg c16, if_neg c16, mFall, show d = N 5 by omega])) (by rw [rFal, if_neg c16, mFall, show d = N 5 by omega]) dX4_fall_149
      · skip
        have hd := hd8 c45
        have g1 := hM.f1 hd
        have g5 := hM.f5 hd
        have g0 := hM.f0 hd
        refine lv_iload_n E.1 E.2.1 dX4_fall_48 rfl (lv_at hl 1 rfl) ?_
        refine lv_iconst (v := nI 4) E.1 E.2.1 dX4_fall_49 (by decide) ?_
        refine lv_icmp_neN (tgt := 107) E.1 E.2.1 (by omega) (by omega) dX4_fall_50 (by decide) (fun c50 => ?_) (fun c50 => ?_)
        · skip
          have hwc : w < 4 := by omega
          have g6 := hM.f6 hd hwc
          refine lv_aload_n E.1 E.2.1 dX4_fall_107 rfl (lv_at hl 0 rfl) ?_
          refine lv_iload_n E.1 E.2.1 dX4_fall_108 rfl (lv_at hl 2 rfl) ?_
          refine lv_bipush (v := nI 6) E.1 E.2.1 dX4_fall_109 (by decide) ?_
          refine lv_iload_n E.1 E.2.1 dX4_fall_111 rfl (lv_at hl 1 rfl) ?_
          refine lv_addN E.1 E.2.1 dX4_fall_112 ?_
          refine callVI E (c_X4_of l G a (fgs w d (un N (10 + w) 1)) (rcd u N x) d (6 + w) ((fgs w d (un N (10 + w) 1)) (30 + 14 * d + (6 + w))) (by omega) (rfl)) mw_12_1 YX4_of ⟨rfl, rfl⟩ ⟨Nat.le_of_ble_eq_true rfl, Nat.le_of_ble_eq_true rfl⟩ ⟨Nat.zero_le _, Nat.zero_le _⟩ hw 0 rfl rfl rfl hl rfl (Nat.le_of_ble_eq_true rfl) dX4_fall_113 (fun H locs hw => ?_)
          refine lv_if_neN (tgt := 139) E.1 E.2.1 (by omega) dX4_fall_116 (by decide) (fun c116 => ?_) (fun c116 => ?_)
          · skip
            refine lv_iincN (k := 2) (lv' := [(2, .int (nI (d + 1))), (0, .ref (a 0)), (1, .int (nI (w)))]) E.1 E.2.1 dX4_fall_139 hl rfl (by decide) rfl (fun ls hl => ?_)
            refine lv_goto (tgt := 38) E.1 E.2.1 dX4_fall_142 (by decide) ?_
            exact ih (d + 1) (by omega) (by omega) _ _ _ (HB.eq hw (by rw [fgs, mFgt, if_neg (by omega), if_neg (by omega)])) (lvh_eq (l := [(0, .ref (a 0)), (1, .int (nI (w))), (2, .int (nI (d + 1)))]) (lv_sub hl [1, 2, 0] rfl) (rfl))
          · skip
            refine lv_aload_n E.1 E.2.1 dX4_fall_119 rfl (lv_at hl 0 rfl) ?_
            refine lv_iload_n E.1 E.2.1 dX4_fall_120 rfl (lv_at hl 2 rfl) ?_
            refine lv_iload_n E.1 E.2.1 dX4_fall_121 rfl (lv_at hl 1 rfl) ?_
            refine lv_aload_n E.1 E.2.1 dX4_fall_122 rfl (lv_at hl 0 rfl) ?_
            refine lv_iload_n E.1 E.2.1 dX4_fall_123 rfl (lv_at hl 2 rfl) ?_
            refine lv_iload_n E.1 E.2.1 dX4_fall_124 rfl (lv_at hl 1 rfl) ?_
            refine callVI E (c_X4_isPart l G a (fgs w d (un N (10 + w) 1)) (rcd u N x) d w ((fgs w d (un N (10 + w) 1)) (30 + 14 * d + 0)) (by omega) (by omega) (rfl) (by omega)) mw_15_7 YX4_isPart ⟨rfl, rfl⟩ ⟨Nat.le_of_ble_eq_true rfl, Nat.le_of_ble_eq_true rfl⟩ ⟨Nat.zero_le _, Nat.zero_le _⟩ hw 0 rfl rfl rfl hl rfl (Nat.le_of_ble_eq_true rfl) dX4_fall_125 (fun H locs hw => ?_)
            refine lv_if_eqB (tgt := 135) E.1 E.2.1 dX4_fall_128 (by decide) (fun c128 => ?_) (fun c128 => ?_)
            · skip
              refine lv_iconst (v := nI 0) E.1 E.2.1 dX4_fall_135 (by decide) ?_
              refine callVV E (c_X4_become l G a (fgs w d (un N (10 + w) 1)) (rcd u N x) d w 0 (by omega) (by omega)) mw_12_17 YX4_become ⟨rfl, rfl⟩ ⟨Nat.le_of_ble_eq_true rfl, Nat.le_of_ble_eq_true rfl⟩ ⟨Nat.zero_le _, Nat.zero_le _⟩ hw 0 rfl rfl rfl hl rfl (Nat.le_of_ble_eq_true rfl) dX4_fall_136 (fun H locs hw => ?_)
              refine lv_iincN (k := 2) (lv' := [(2, .int (nI (d + 1))), (0, .ref (a 0)), (1, .int (nI (w)))]) E.1 E.2.1 dX4_fall_139 hl rfl (by decide) rfl (fun ls hl => ?_)
              refine lv_goto (tgt := 38) E.1 E.2.1 dX4_fall_142 (by decide) ?_
              exact ih (d + 1) (by omega) (by omega) _ _ _ (HB.eq hw (by rw [fgs, mFgt, if_neg (by omega), if_pos (by omega), if_neg c128])) (lvh_eq (l := [(0, .ref (a 0)), (1, .int (nI (w))), (2, .int (nI (d + 1)))]) (lv_sub hl [1, 2, 0] rfl) (rfl))
            · skip
              refine lv_iconst (v := nI 3) E.1 E.2.1 dX4_fall_131 (by decide) ?_
              refine lv_goto (tgt := 136) E.1 E.2.1 dX4_fall_132 (by decide) ?_
              refine callVV E (c_X4_become l G a (fgs w d (un N (10 + w) 1)) (rcd u N x) d w 3 (by omega) (by omega)) mw_12_17 YX4_become ⟨rfl, rfl⟩ ⟨Nat.le_of_ble_eq_true rfl, Nat.le_of_ble_eq_true rfl⟩ ⟨Nat.zero_le _, Nat.zero_le _⟩ hw 0 rfl rfl rfl hl rfl (Nat.le_of_ble_eq_true rfl) dX4_fall_136 (fun H locs hw => ?_)
              refine lv_iincN (k := 2) (lv' := [(2, .int (nI (d + 1))), (0, .ref (a 0)), (1, .int (nI (w)))]) E.1 E.2.1 dX4_fall_139 hl rfl (by decide) rfl (fun ls hl => ?_)
              refine lv_goto (tgt := 38) E.1 E.2.1 dX4_fall_142 (by decide) ?_
              exact ih (d + 1) (by omega) (by omega) _ _ _ (HB.eq hw (by rw [fgs, mFgt, if_neg (by omega), if_pos (by omega), if_pos c128])) (lvh_eq (l := [(0, .ref (a 0)), (1, .int (nI (w))), (2, .int (nI (d + 1)))]) (lv_sub hl [1, 2, 0] rfl) (rfl))
        · skip
          refine lv_aload_n E.1 E.2.1 dX4_fall_53 rfl (lv_at hl 0 rfl) ?_
          refine lv_iload_n E.1 E.2.1 dX4_fall_54 rfl (lv_at hl 2 rfl) ?_
          refine lv_iconst (v := nI 5) E.1 E.2.1 dX4_fall_55 (by decide) ?_
          refine lv_aload_n E.1 E.2.1 dX4_fall_56 rfl (lv_at hl 0 rfl) ?_
          refine lv_iload_n E.1 E.2.1 dX4_fall_57 rfl (lv_at hl 2 rfl) ?_
          refine lv_iconst (v := nI 1) E.1 E.2.1 dX4_fall_58 (by decide) ?_
          refine callVI E (c_X4_of l G a (fgs w d (un N (10 + w) 1)) (rcd u N x) d 1 ((fgs w d (un N (10 + w) 1)) (30 + 14 * d + 1)) (by omega) (rfl)) mw_12_1 YX4_of ⟨rfl, rfl⟩ ⟨Nat.le_of_ble_eq_true rfl, Nat.le_of_ble_eq_true rfl⟩ ⟨Nat.zero_le _, Nat.zero_le _⟩ hw 0 rfl rfl rfl hl rfl (Nat.le_of_ble_eq_true rfl) dX4_fall_59 (fun H locs hw => ?_)
          refine lv_iconst (v := nI 1) E.1 E.2.1 dX4_fall_62 (by decide) ?_
          refine lv_icmp_neN (tgt := 70) E.1 E.2.1 (by omega) (by omega) dX4_fall_63 (by decide) (fun c63 => ?_) (fun c63 => ?_)
          · skip
            refine lv_aload_n E.1 E.2.1 dX4_fall_70 rfl (lv_at hl 0 rfl) ?_
            refine lv_iload_n E.1 E.2.1 dX4_fall_71 rfl (lv_at hl 2 rfl) ?_
            refine lv_iconst (v := nI 5) E.1 E.2.1 dX4_fall_72 (by decide) ?_
            refine callVI E (c_X4_of l G a (fgs w d (un N (10 + w) 1)) (rcd u N x) d 5 ((fgs w d (un N (10 + w) 1)) (30 + 14 * d + 5)) (by omega) (rfl)) mw_12_1 YX4_of ⟨rfl, rfl⟩ ⟨Nat.le_of_ble_eq_true rfl, Nat.le_of_ble_eq_true rfl⟩ ⟨Nat.zero_le _, Nat.zero_le _⟩ hw 0 rfl rfl rfl hl rfl (Nat.le_of_ble_eq_true rfl) dX4_fall_73 (fun H locs hw => ?_)
            refine callVV E (c_X4_book l G a (fgs w d (un N (10 + w) 1)) (rcd u N x) d 5 ((fgs w d (un N (10 + w) 1)) (30 + 14 * d + 5)) (by omega)) mw_7_19 YX4_book ⟨rfl, rfl⟩ ⟨Nat.le_of_ble_eq_true rfl, Nat.le_of_ble_eq_true rfl⟩ ⟨Nat.zero_le _, Nat.zero_le _⟩ hw 0 rfl rfl rfl hl rfl (Nat.le_of_ble_eq_true rfl) dX4_fall_76 (fun H locs hw => ?_)
            refine lv_aload_n E.1 E.2.1 dX4_fall_79 rfl (lv_at hl 0 rfl) ?_
            refine lv_iload_n E.1 E.2.1 dX4_fall_80 rfl (lv_at hl 2 rfl) ?_
            refine lv_iconst (v := nI 1) E.1 E.2.1 dX4_fall_81 (by decide) ?_
            refine lv_aload_n E.1 E.2.1 dX4_fall_82 rfl (lv_at hl 0 rfl) ?_
            refine lv_iload_n E.1 E.2.1 dX4_fall_83 rfl (lv_at hl 2 rfl) ?_
            refine lv_iconst (v := nI 1) E.1 E.2.1 dX4_fall_84 (by decide) ?_
            refine callVI E (c_X4_of l G a (un (fgs w d (un N (10 + w) 1)) (30 + 14 * d + 5) ((fgs w d (un N (10 + w) 1)) (30 + 14 * d + 5))) (rcd u N x) d 1 ((fgs w d (un N (10 + w) 1)) (30 + 14 * d + 1)) (by omega) (by rw [un_n (by omega)])) mw_12_1 YX4_of ⟨rfl, rfl⟩ ⟨Nat.le_of_ble_eq_true rfl, Nat.le_of_ble_eq_true rfl⟩ ⟨Nat.zero_le _, Nat.zero_le _⟩ hw 0 rfl rfl rfl hl rfl (Nat.le_of_ble_eq_true rfl) dX4_fall_85 (fun H locs hw => ?_)
            refine lv_if_neN (tgt := 95) E.1 E.2.1 (by omega) dX4_fall_88 (by decide) (fun c88 => ?_) (fun c88 => ?_)
            · skip
              refine lv_aload_n E.1 E.2.1 dX4_fall_95 rfl (lv_at hl 0 rfl) ?_
              refine lv_iload_n E.1 E.2.1 dX4_fall_96 rfl (lv_at hl 2 rfl) ?_
              refine lv_iconst (v := nI 1) E.1 E.2.1 dX4_fall_97 (by decide) ?_
              refine callVI E (c_X4_of l G a (un (fgs w d (un N (10 + w) 1)) (30 + 14 * d + 5) ((fgs w d (un N (10 + w) 1)) (30 + 14 * d + 5))) (rcd u N x) d 1 ((fgs w d (un N (10 + w) 1)) (30 + 14 * d + 1)) (by omega) (by rw [un_n (by omega)])) mw_12_1 YX4_of ⟨rfl, rfl⟩ ⟨Nat.le_of_ble_eq_true rfl, Nat.le_of_ble_eq_true rfl⟩ ⟨Nat.zero_le _, Nat.zero_le _⟩ hw 0 rfl rfl rfl hl rfl (Nat.le_of_ble_eq_true rfl) dX4_fall_98 (fun H locs hw => ?_)
              refine callVV E (c_X4_book l G a (un (fgs w d (un N (10 + w) 1)) (30 + 14 * d + 5) ((fgs w d (un N (10 + w) 1)) (30 + 14 * d + 5))) (rcd u N x) d 1 ((fgs w d (un N (10 + w) 1)) (30 + 14 * d + 1)) (by omega)) mw_7_19 YX4_book ⟨rfl, rfl⟩ ⟨Nat.le_of_ble_eq_true rfl, Nat.le_of_ble_eq_true rfl⟩ ⟨Nat.zero_le _, Nat.zero_le _⟩ hw 0 rfl rfl rfl hl rfl (Nat.le_of_ble_eq_true rfl) dX4_fall_101 (fun H locs hw => ?_)
              refine lv_goto (tgt := 139) E.1 E.2.1 dX4_fall_104 (by decide) ?_
              refine lv_iincN (k := 2) (lv' := [(2, .int (nI (d + 1))), (0, .ref (a 0)), (1, .int (nI (w)))]) E.1 E.2.1 dX4_fall_139 hl rfl (by decide) rfl (fun ls hl => ?_)
              refine lv_goto (tgt := 38) E.1 E.2.1 dX4_fall_142 (by decide) ?_
              exact ih (d + 1) (by omega) (by omega) _ _ _ (HB.eq hw (by rw [fgs, mFgt, if_pos (by omega), if_neg c63, if_neg (by omega)])) (lvh_eq (l := [(0, .ref (a 0)), (1, .int (nI (w))), (2, .int (nI (d + 1)))]) (lv_sub hl [1, 2, 0] rfl) (rfl))
            · skip
              refine lv_iconst (v := nI 2) E.1 E.2.1 dX4_fall_91 (by decide) ?_
              refine lv_goto (tgt := 101) E.1 E.2.1 dX4_fall_92 (by decide) ?_
              refine callVV E (c_X4_book l G a (un (fgs w d (un N (10 + w) 1)) (30 + 14 * d + 5) ((fgs w d (un N (10 + w) 1)) (30 + 14 * d + 5))) (rcd u N x) d 1 2 (by omega)) mw_7_19 YX4_book ⟨rfl, rfl⟩ ⟨Nat.le_of_ble_eq_true rfl, Nat.le_of_ble_eq_true rfl⟩ ⟨Nat.zero_le _, Nat.zero_le _⟩ hw 0 rfl rfl rfl hl rfl (Nat.le_of_ble_eq_true rfl) dX4_fall_101 (fun H locs hw => ?_)
              refine lv_goto (tgt := 139) E.1 E.2.1 dX4_fall_104 (by decide) ?_
              refine lv_iincN (k := 2) (lv' := [(2, .int (nI (d + 1))), (0, .ref (a 0)), (1, .int (nI (w)))]) E.1 E.2.1 dX4_fall_139 hl rfl (by decide) rfl (fun ls hl => ?_)
              refine lv_goto (tgt := 38) E.1 E.2.1 dX4_fall_142 (by decide) ?_
              exact ih (d + 1) (by omega) (by omega) _ _ _ (HB.eq hw (by rw [fgs, mFgt, if_pos (by omega), if_neg c63, if_pos (by omega)])) (lvh_eq (l := [(0, .ref (a 0)), (1, .int (nI (w))), (2, .int (nI (d + 1)))]) (lv_sub hl [1, 2, 0] rfl) (rfl))
          · skip
            refine lv_iconst (v := nI 0) E.1 E.2.1 dX4_fall_66 (by decide) ?_
            refine lv_goto (tgt := 76) E.1 E.2.1 dX4_fall_67 (by decide) ?_
            refine callVV E (c_X4_book l G a (fgs w d (un N (10 + w) 1)) (rcd u N x) d 5 0 (by omega)) mw_7_19 YX4_book ⟨rfl, rfl⟩ ⟨Nat.le_of_ble_eq_true rfl, Nat.le_of_ble_eq_true rfl⟩ ⟨Nat.zero_le _, Nat.zero_le _⟩ hw 0 rfl rfl rfl hl rfl (Nat.le_of_ble_eq_true rfl) dX4_fall_76 (fun H locs hw => ?_)
            refine lv_aload_n E.1 E.2.1 dX4_fall_79 rfl (lv_at hl 0 rfl) ?_
            refine lv_iload_n E.1 E.2.1 dX4_fall_80 rfl (lv_at hl 2 rfl) ?_
            refine lv_iconst (v := nI 1) E.1 E.2.1 dX4_fall_81 (by decide) ?_
            refine lv_aload_n E.1 E.2.1 dX4_fall_82 rfl (lv_at hl 0 rfl) ?_
            refine lv_iload_n E.1 E.2.1 dX4_fall_83 rfl (lv_at hl 2 rfl) ?_
            refine lv_iconst (v := nI 1) E.1 E.2.1 dX4_fall_84 (by decide) ?_
            refine callVI E (c_X4_of l G a (un (fgs w d (un N (10 + w) 1)) (30 + 14 * d + 5) (0)) (rcd u N x) d 1 ((fgs w d (un N (10 + w) 1)) (30 + 14 * d + 1)) (by omega) (by rw [un_n (by omega)])) mw_12_1 YX4_of ⟨rfl, rfl⟩ ⟨Nat.le_of_ble_eq_true rfl, Nat.le_of_ble_eq_true rfl⟩ ⟨Nat.zero_le _, Nat.zero_le _⟩ hw 0 rfl rfl rfl hl rfl (Nat.le_of_ble_eq_true rfl) dX4_fall_85 (fun H locs hw => ?_)
            refine lv_if_neN (tgt := 95) E.1 E.2.1 (by omega) dX4_fall_88 (by decide) (fun c88 => ?_) (fun c88 => ?_)
            · skip
              refine lv_aload_n E.1 E.2.1 dX4_fall_95 rfl (lv_at hl 0 rfl) ?_
              refine lv_iload_n E.1 E.2.1 dX4_fall_96 rfl (lv_at hl 2 rfl) ?_
              refine lv_iconst (v := nI 1) E.1 E.2.1 dX4_fall_97 (by decide) ?_
              refine callVI E (c_X4_of l G a (un (fgs w d (un N (10 + w) 1)) (30 + 14 * d + 5) (0)) (rcd u N x) d 1 ((fgs w d (un N (10 + w) 1)) (30 + 14 * d + 1)) (by omega) (by rw [un_n (by omega)])) mw_12_1 YX4_of ⟨rfl, rfl⟩ ⟨Nat.le_of_ble_eq_true rfl, Nat.le_of_ble_eq_true rfl⟩ ⟨Nat.zero_le _, Nat.zero_le _⟩ hw 0 rfl rfl rfl hl rfl (Nat.le_of_ble_eq_true rfl) dX4_fall_98 (fun H locs hw => ?_)
              refine callVV E (c_X4_book l G a (un (fgs w d (un N (10 + w) 1)) (30 + 14 * d + 5) (0)) (rcd u N x) d 1 ((fgs w d (un N (10 + w) 1)) (30 + 14 * d + 1)) (by omega)) mw_7_19 YX4_book ⟨rfl, rfl⟩ ⟨Nat.le_of_ble_eq_true rfl, Nat.le_of_ble_eq_true rfl⟩ ⟨Nat.zero_le _, Nat.zero_le _⟩ hw 0 rfl rfl rfl hl rfl (Nat.le_of_ble_eq_true rfl) dX4_fall_101 (fun H locs hw => ?_)
              refine lv_goto (tgt := 139) E.1 E.2.1 dX4_fall_104 (by decide) ?_
              refine lv_iincN (k := 2) (lv' := [(2, .int (nI (d + 1))), (0, .ref (a 0)), (1, .int (nI (w)))]) E.1 E.2.1 dX4_fall_139 hl rfl (by decide) rfl (fun ls hl => ?_)
              refine lv_goto (tgt := 38) E.1 E.2.1 dX4_fall_142 (by decide) ?_
              exact ih (d + 1) (by omega) (by omega) _ _ _ (HB.eq hw (by rw [fgs, mFgt, if_pos (by omega), if_pos c63, if_neg (by omega)])) (lvh_eq (l := [(0, .ref (a 0)), (1, .int (nI (w))), (2, .int (nI (d + 1)))]) (lv_sub hl [1, 2, 0] rfl) (rfl))
            · skip
              refine lv_iconst (v := nI 2) E.1 E.2.1 dX4_fall_91 (by decide) ?_
              refine lv_goto (tgt := 101) E.1 E.2.1 dX4_fall_92 (by decide) ?_
              refine callVV E (c_X4_book l G a (un (fgs w d (un N (10 + w) 1)) (30 + 14 * d + 5) (0)) (rcd u N x) d 1 2 (by omega)) mw_7_19 YX4_book ⟨rfl, rfl⟩ ⟨Nat.le_of_ble_eq_true rfl, Nat.le_of_ble_eq_true rfl⟩ ⟨Nat.zero_le _, Nat.zero_le _⟩ hw 0 rfl rfl rfl hl rfl (Nat.le_of_ble_eq_true rfl) dX4_fall_101 (fun H locs hw => ?_)
              refine lv_goto (tgt := 139) E.1 E.2.1 dX4_fall_104 (by decide) ?_
              refine lv_iincN (k := 2) (lv' := [(2, .int (nI (d + 1))), (0, .ref (a 0)), (1, .int (nI (w)))]) E.1 E.2.1 dX4_fall_139 hl rfl (by decide) rfl (fun ls hl => ?_)
              refine lv_goto (tgt := 38) E.1 E.2.1 dX4_fall_142 (by decide) ?_
              exact ih (d + 1) (by omega) (by omega) _ _ _ (HB.eq hw (by rw [fgs, mFgt, if_pos (by omega), if_pos c63, if_pos (by omega)])) (lvh_eq (l := [(0, .ref (a 0)), (1, .int (nI (w))), (2, .int (nI (d + 1)))]) (lv_sub hl [1, 2, 0] rfl) (rfl))
    · skip
      refine lv_bipush (v := -5) E.1 E.2.1 dX4_fall_19 (by decide) ?_
      exact rI E hr hlk (HB.eq hw (by rw [nFal, if_pos c16, if_pos c16])) (by rw [rFal, if_pos c16]) dX4_fall_21
  · exact absurd (inN (by omega) (by omega) (by decide)) c6
theorem YX4_rise : YV yX4_rise RX4 cX4_rise 2 (some .int) 1 := ⟨mw_16_0, mw_16_1, mw_1_5, mw_16_2, by decide +kernel⟩
set_option maxHeartbeats 4000000 in
set_option maxRecDepth 100000 in
theorem c_X4_rise_bad (l : Launch) (G : GP) (a : Nat → Nat) (N : NS) (x : MX) (v : Int32) (h : ¬ (nI 0 ≤ v ∧ v ≤ nI 4)) : MI l yX4_rise (.code yX4_rise cX4_rise 2 (some .int) :: GW) ({ frames := 1, cells := 0, slots := 0, locals := 22 }) [.ref (a 0), .int (v)] G ES (mN G a (N) (x)) (mN G a (N) (x)) (-1) := by
  refine MI.of (own := RX4) rfl rfl (Nat.le_of_ble_eq_true rfl) ?_
  intro pP eE sS mM below meth cC ls AA E hw hl hr hlk hE
  replace hl : lv_has ls 2 [(0, .ref (a 0)), (1, .int (v))] := hl
  refine lv_iload_n E.1 E.2.1 dX4_rise_0 rfl (lv_at hl 1 rfl) ?_
  refine lv_iconst (v := nI 0) E.1 E.2.1 dX4_rise_1 (by decide) ?_
  refine lv_iconst (v := nI 4) E.1 E.2.1 dX4_rise_2 (by decide) ?_
  refine callSI E (c_X4_in l G (v) (nI (0)) (nI (4))) mw_5_13 YX4_in ⟨rfl, rfl⟩ ⟨Nat.le_of_ble_eq_true rfl, Nat.le_of_ble_eq_true rfl⟩ ⟨Nat.zero_le _, Nat.zero_le _⟩ hw (w := []) (w' := []) (rr := mN G a (N) (x)) (big' := mN G a (N) (x)) (List.Perm.refl _) (List.Perm.refl _) rfl hl rfl (Nat.le_of_ble_eq_true rfl) dX4_rise_3 (fun H locs hw => ?_)
  refine lv_if_neB (tgt := 11) E.1 E.2.1 dX4_rise_6 (by decide) (fun c6 => ?_) (fun c6 => ?_)
  · exact absurd c6 h
  · skip
    refine lv_iconst (v := -1) E.1 E.2.1 dX4_rise_9 (by decide) ?_
    exact rI E hr hlk (HB.eq hw (rfl)) (rfl) dX4_rise_10
set_option maxHeartbeats 4000000 in
set_option maxRecDepth 100000 in
theorem c_X4_rise_ok (l : Launch) (G : GP) (a : Nat → Nat) (N : NS) (x : MX) (u : Nat) (T : Prop) [Decidable T] (hu : x.1 0 = nI u) (hT : x.1 2 = zb T) (hu6 : u ≤ 6) (w : Nat) (hw : w < 5) (hF : FI N) : MI l yX4_rise (.code yX4_rise cX4_rise 2 (some .int) :: GW) ({ frames := 1, cells := 0, slots := 0, locals := 22 }) [.ref (a 0), .int (nI (w))] G ES (mN G a (N) (x)) (mN G a (nRis w N) (if N (10 + w) = 1 then rcd u N x else x)) (rRis w N) := by
  have hw5 := hw
  refine MI.of (own := RX4) rfl rfl (Nat.le_of_ble_eq_true rfl) ?_
  intro pP eE sS mM below meth cC ls AA E hw hl hr hlk hE
  replace hl : lv_has ls 2 [(0, .ref (a 0)), (1, .int (nI (w)))] := hl
  have hi := hF.il hw5
  refine lv_iload_n E.1 E.2.1 dX4_rise_0 rfl (lv_at hl 1 rfl) ?_
  refine lv_iconst (v := nI 0) E.1 E.2.1 dX4_rise_1 (by decide) ?_
  refine lv_iconst (v := nI 4) E.1 E.2.1 dX4_rise_2 (by decide) ?_
  refine callSI E (c_X4_in l G (nI (w)) (nI (0)) (nI (4))) mw_5_13 YX4_in ⟨rfl, rfl⟩ ⟨Nat.le_of_ble_eq_true rfl, Nat.le_of_ble_eq_true rfl⟩ ⟨Nat.zero_le _, Nat.zero_le _⟩ hw (w := []) (w' := []) (rr := mN G a (N) (x)) (big' := mN G a (N) (x)) (List.Perm.refl _) (List.Perm.refl _) rfl hl rfl (Nat.le_of_ble_eq_true rfl) dX4_rise_3 (fun H locs hw => ?_)
  refine lv_if_neB (tgt := 11) E.1 E.2.1 dX4_rise_6 (by decide) (fun c6 => ?_) (fun c6 => ?_)
  · skip
    refine lv_aload_n E.1 E.2.1 dX4_rise_11 rfl (lv_at hl 0 rfl) ?_
    refine lv_iload_n E.1 E.2.1 dX4_rise_12 rfl (lv_at hl 1 rfl) ?_
    refine callVI E (c_X4_isIll l G a (N) (x) w (N (10 + w)) (by omega) (rfl) (by omega)) mw_7_15 YX4_isIll ⟨rfl, rfl⟩ ⟨Nat.le_of_ble_eq_true rfl, Nat.le_of_ble_eq_true rfl⟩ ⟨Nat.zero_le _, Nat.zero_le _⟩ hw 0 rfl rfl rfl hl rfl (Nat.le_of_ble_eq_true rfl) dX4_rise_13 (fun H locs hw => ?_)
    refine lv_if_neB (tgt := 22) E.1 E.2.1 dX4_rise_16 (by decide) (fun c16 => ?_) (fun c16 => ?_)
    · skip
      refine lv_aload_n E.1 E.2.1 dX4_rise_22 rfl (lv_at hl 0 rfl) ?_
      refine callVV E (c_X4_record l G a (N) (x) u T hu hT hu6) mw_5_16 YX4_record ⟨rfl, rfl⟩ ⟨Nat.le_of_ble_eq_true rfl, Nat.le_of_ble_eq_true rfl⟩ ⟨Nat.zero_le _, Nat.zero_le _⟩ hw 0 rfl rfl rfl hl rfl (Nat.le_of_ble_eq_true rfl) dX4_rise_23 (fun H locs hw => ?_)
      refine lv_aload_n E.1 E.2.1 dX4_rise_26 rfl (lv_at hl 0 rfl) ?_
      refine gX4_0 E hw mw_3_8 dX4_rise_27 ?_
      refine lv_bipush (v := nI 10) E.1 E.2.1 dX4_rise_30 (by decide) ?_
      refine lv_iload_n E.1 E.2.1 dX4_rise_32 rfl (lv_at hl 1 rfl) ?_
      refine lv_addN E.1 E.2.1 dX4_rise_33 ?_
      refine lv_iconst (v := nI 0) E.1 E.2.1 dX4_rise_34 (by decide) ?_
      refine sN4_0 E hw (by omega) dX4_rise_35 (fun H locs hw => ?_)
      refine lv_aload_n E.1 E.2.1 dX4_rise_36 rfl (lv_at hl 0 rfl) ?_
      refine callVI E (c_X4_ill l G a (un (N) (10 + w) (0)) (rcd u (N) (x))) mw_15_11 YX4_ill ⟨rfl, rfl⟩ ⟨Nat.le_of_ble_eq_true rfl, Nat.le_of_ble_eq_true rfl⟩ ⟨Nat.zero_le _, Nat.zero_le _⟩ hw 0 rfl rfl rfl hl rfl (Nat.le_of_ble_eq_true rfl) dX4_rise_37 (fun H locs hw => ?_)
      exact rI E hr hlk (HB.eq hw (by rw [nRis, if_pos c16, if_pos c16]; rfl)) (by rw [rRis, if_pos c16]; rfl) dX4_rise_40
    · skip
      refine lv_bipush (v := -5) E.1 E.2.1 dX4_rise_19 (by decide) ?_
      exact rI E hr hlk (HB.eq hw (by rw [nRis, if_neg c16, if_neg c16])) (by rw [rRis, if_neg c16]) dX4_rise_21
  · exact absurd (inN (by omega) (by omega) (by decide)) c6
theorem YX4_ticks : YV yX4_ticks RX4 cX4_ticks 3 (some .int) 1 := ⟨mw_17_4, mw_17_5, mw_1_5, mw_17_6, by decide +kernel⟩
set_option maxHeartbeats 4000000 in
set_option maxRecDepth 100000 in
theorem c_X4_ticks_bad (l : Launch) (G : GP) (a : Nat → Nat) (N : NS) (x : MX) (v : Int32) (h : ¬ (nI 1 ≤ v ∧ v ≤ nI 100)) : MI l yX4_ticks (.code yX4_ticks cX4_ticks 3 (some .int) :: GW) ({ frames := 1, cells := 0, slots := 0, locals := 22 }) [.ref (a 0), .int (v)] G ES (mN G a (N) (x)) (mN G a (N) (x)) (-2) := by
  refine MI.of (own := RX4) rfl rfl (Nat.le_of_ble_eq_true rfl) ?_
  intro pP eE sS mM below meth cC ls AA E hw hl hr hlk hE
  replace hl : lv_has ls 3 [(0, .ref (a 0)), (1, .int (v))] := hl
  refine lv_iload_n E.1 E.2.1 dX4_ticks_0 rfl (lv_at hl 1 rfl) ?_
  refine lv_iconst (v := nI 1) E.1 E.2.1 dX4_ticks_1 (by decide) ?_
  refine lv_bipush (v := nI 100) E.1 E.2.1 dX4_ticks_2 (by decide) ?_
  refine callSI E (c_X4_in l G (v) (nI (1)) (nI (100))) mw_5_13 YX4_in ⟨rfl, rfl⟩ ⟨Nat.le_of_ble_eq_true rfl, Nat.le_of_ble_eq_true rfl⟩ ⟨Nat.zero_le _, Nat.zero_le _⟩ hw (w := []) (w' := []) (rr := mN G a (N) (x)) (big' := mN G a (N) (x)) (List.Perm.refl _) (List.Perm.refl _) rfl hl rfl (Nat.le_of_ble_eq_true rfl) dX4_ticks_4 (fun H locs hw => ?_)
  refine lv_if_neB (tgt := 13) E.1 E.2.1 dX4_ticks_7 (by decide) (fun c7 => ?_) (fun c7 => ?_)
  · exact absurd c7 h
  · skip
    refine lv_bipush (v := -2) E.1 E.2.1 dX4_ticks_10 (by decide) ?_
    exact rI E hr hlk (HB.eq hw (rfl)) (rfl) dX4_ticks_12
set_option maxHeartbeats 4000000 in
set_option maxRecDepth 100000 in
theorem c_X4_ticks_ok (l : Launch) (G : GP) (a : Nat → Nat) (N : NS) (x : MX) (u : Nat) (T : Prop) [Decidable T] (hu : x.1 0 = nI u) (hT : x.1 2 = zb T) (hu6 : u ≤ 6) (t : Nat) (ht : 1 ≤ t ∧ t ≤ 100) (hF : FI N) : MI l yX4_ticks (.code yX4_ticks cX4_ticks 3 (some .int) :: GW) ({ frames := 5, cells := 0, slots := 0, locals := 116 }) [.ref (a 0), .int (nI (t))] G ES (mN G a (N) (x)) (mN G a (mTicks t N) (rcd u N x)) (nI (mTicks t N 4)) := by
  refine MI.of (own := RX4) rfl rfl (Nat.le_of_ble_eq_true rfl) ?_
  intro pP eE sS mM below meth cC ls AA E hw hl hr hlk hE
  replace hl : lv_has ls 3 [(0, .ref (a 0)), (1, .int (nI (t)))] := hl
  refine lv_iload_n E.1 E.2.1 dX4_ticks_0 rfl (lv_at hl 1 rfl) ?_
  refine lv_iconst (v := nI 1) E.1 E.2.1 dX4_ticks_1 (by decide) ?_
  refine lv_bipush (v := nI 100) E.1 E.2.1 dX4_ticks_2 (by decide) ?_
  refine callSI E (c_X4_in l G (nI (t)) (nI (1)) (nI (100))) mw_5_13 YX4_in ⟨rfl, rfl⟩ ⟨Nat.le_of_ble_eq_true rfl, Nat.le_of_ble_eq_true rfl⟩ ⟨Nat.zero_le _, Nat.zero_le _⟩ hw (w := []) (w' := []) (rr := mN G a (N) (x)) (big' := mN G a (N) (x)) (List.Perm.refl _) (List.Perm.refl _) rfl hl rfl (Nat.le_of_ble_eq_true rfl) dX4_ticks_4 (fun H locs hw => ?_)
  refine lv_if_neB (tgt := 13) E.1 E.2.1 dX4_ticks_7 (by decide) (fun c7 => ?_) (fun c7 => ?_)
  · skip
    refine lv_aload_n E.1 E.2.1 dX4_ticks_13 rfl (lv_at hl 0 rfl) ?_
    refine callVV E (c_X4_record l G a (N) (x) u T hu hT hu6) mw_5_16 YX4_record ⟨rfl, rfl⟩ ⟨Nat.le_of_ble_eq_true rfl, Nat.le_of_ble_eq_true rfl⟩ ⟨Nat.zero_le _, Nat.zero_le _⟩ hw 0 rfl rfl rfl hl rfl (Nat.le_of_ble_eq_true rfl) dX4_ticks_14 (fun H locs hw => ?_)
    refine lv_iconst (v := nI 0) E.1 E.2.1 dX4_ticks_17 (by decide) ?_
    refine lv_istore_n (lv' := [(2, .int (nI (0))), (0, .ref (a 0)), (1, .int (nI (t)))]) E.1 E.2.1 dX4_ticks_18 rfl hl (by decide) rfl (fun ls hl => ?_)
    refine W_ind1 (nL := 3) (P := fun k => k ≤ t) (μ := fun k => t - k) (I := fun k => mN G a (mTicks k N) (rcd u N x)) (L := fun k => [(0, .ref (a 0)), (1, .int (nI (t))), (2, .int (nI (k)))]) ?_ (0) (Nat.zero_le _) (HB.eq hw (rfl)) (lvh_eq (l := [(0, .ref (a 0)), (1, .int (nI (t))), (2, .int (nI (0)))]) (lv_sub hl [1, 2, 0] rfl) (rfl))
    intro k hP ih H locs ls hw hl
    replace hw : HB G AA sS.heap (mN G a (mTicks k N) (rcd u N x)) H locs := hw
    replace hl : lv_has ls 3 [(0, .ref (a 0)), (1, .int (nI (t))), (2, .int (nI (k)))] := hl
    refine lv_iload_n E.1 E.2.1 dX4_ticks_19 rfl (lv_at hl 2 rfl) ?_
    refine lv_iload_n E.1 E.2.1 dX4_ticks_20 rfl (lv_at hl 1 rfl) ?_
    refine lv_icmp_geN (tgt := 34) E.1 E.2.1 (by omega) (by omega) dX4_ticks_21 (by decide) (fun c21 => ?_) (fun c21 => ?_)
    · skip
      refine lv_aload_n E.1 E.2.1 dX4_ticks_34 rfl (lv_at hl 0 rfl) ?_
      refine gX4_0 E hw mw_3_8 dX4_ticks_35 ?_
      refine lv_iconst (v := nI 4) E.1 E.2.1 dX4_ticks_38 (by decide) ?_
      refine lN4_0 E hw (v := mTicks k N 4) (by omega) (rfl) dX4_ticks_39 ?_
      exact rI E hr hlk (HB.eq hw (by rw [show k = t by omega])) (by rw [show k = t by omega]) dX4_ticks_40
    · skip
      refine lv_aload_n E.1 E.2.1 dX4_ticks_24 rfl (lv_at hl 0 rfl) ?_
      refine callVV E (c_X4_pass l G a (mTicks k N) (rcd u N x) (hF.ticks k)) mw_17_7 YX4_pass ⟨rfl, rfl⟩ ⟨Nat.le_of_ble_eq_true rfl, Nat.le_of_ble_eq_true rfl⟩ ⟨Nat.zero_le _, Nat.zero_le _⟩ hw 0 rfl rfl rfl hl rfl (Nat.le_of_ble_eq_true rfl) dX4_ticks_25 (fun H locs hw => ?_)
      refine lv_iincN (k := 2) (lv' := [(2, .int (nI (k + 1))), (0, .ref (a 0)), (1, .int (nI (t)))]) E.1 E.2.1 dX4_ticks_28 hl rfl (by decide) rfl (fun ls hl => ?_)
      refine lv_goto (tgt := 19) E.1 E.2.1 dX4_ticks_31 (by decide) ?_
      exact ih (k + 1) (by omega) (by omega) _ _ _ (HB.eq hw (rfl)) (lvh_eq (l := [(0, .ref (a 0)), (1, .int (nI (t))), (2, .int (nI (k + 1)))]) (lv_sub hl [1, 2, 0] rfl) (rfl))
  · exact absurd (inN (by omega) (by omega) (by decide)) c7
theorem wlR_l {d w : Nat} {N : NS} (h : ¬ bestV (wlP d N (N 6)) < 0) (hw : ¬ w = 0) (h6 : N 6 ≤ 60) : nI (latV (wlP d N (N 6))) = wlR d w N := by
  unfold wlR
  cases hp : wlP d N (N 6) with
  | none => exact absurd ((wl_neg h6).mpr hp) h
  | some z => exact (if_neg hw).symm
theorem wlR_b {d w : Nat} {N : NS} (h : ¬ bestV (wlP d N (N 6)) < 0) (hw : w = 0) (h6 : N 6 ≤ 60) : bestV (wlP d N (N 6)) = wlR d w N := by
  unfold wlR
  cases hp : wlP d N (N 6) with
  | none => exact absurd ((wl_neg h6).mpr hp) h
  | some z => exact (if_pos hw).symm
theorem YX4_worstLoss : YV yX4_worstLoss RX4 cX4_worstLoss 8 (some .int) 2 := ⟨mw_25_13, mw_25_14, mw_1_5, mw_25_15, by decide +kernel⟩
set_option maxHeartbeats 4000000 in
set_option maxRecDepth 100000 in
theorem c_X4_worstLoss_bad1 (l : Launch) (G : GP) (a : Nat → Nat) (N : NS) (x : MX) (e : Int32) (h5 : N 5 ≤ 8) (h : ¬ (0 ≤ e ∧ e < nI (N 5))) (w : Int32) : MI l yX4_worstLoss (.code yX4_worstLoss cX4_worstLoss 8 (some .int) :: GW) ({ frames := 2, cells := 0, slots := 0, locals := 43 }) [.ref (a 0), .int (e), .int (w)] G ES (mN G a (N) (x)) (mN G a (N) (x)) (-1) := by
  refine MI.of (own := RX4) rfl rfl (Nat.le_of_ble_eq_true rfl) ?_
  intro pP eE sS mM below meth cC ls AA E hw hl hr hlk hE
  replace hl : lv_has ls 8 [(0, .ref (a 0)), (1, .int (e)), (2, .int (w))] := hl
  refine lv_aload_n E.1 E.2.1 dX4_worstLoss_0 rfl (lv_at hl 0 rfl) ?_
  refine lv_iload_n E.1 E.2.1 dX4_worstLoss_1 rfl (lv_at hl 1 rfl) ?_
  refine callVI E (c_X4_isDeal l G a (N) (x) (e) (by omega)) mw_18_14 YX4_isDeal ⟨rfl, rfl⟩ ⟨Nat.le_of_ble_eq_true rfl, Nat.le_of_ble_eq_true rfl⟩ ⟨Nat.zero_le _, Nat.zero_le _⟩ hw 0 rfl rfl rfl hl rfl (Nat.le_of_ble_eq_true rfl) dX4_worstLoss_2 (fun H locs hw => ?_)
  refine lv_if_neB (tgt := 10) E.1 E.2.1 dX4_worstLoss_5 (by decide) (fun c5 => ?_) (fun c5 => ?_)
  · exact absurd c5 h
  · skip
    refine lv_iconst (v := -1) E.1 E.2.1 dX4_worstLoss_8 (by decide) ?_
    exact rI E hr hlk (HB.eq hw (rfl)) (rfl) dX4_worstLoss_9
set_option maxHeartbeats 4000000 in
set_option maxRecDepth 100000 in
theorem c_X4_worstLoss_bad2 (l : Launch) (G : GP) (a : Nat → Nat) (N : NS) (x : MX) (d : Nat) (hd : d < N 5) (hF : FI N) (w : Int32) (h : ¬ (nI 0 ≤ w ∧ w ≤ nI 1)) : MI l yX4_worstLoss (.code yX4_worstLoss cX4_worstLoss 8 (some .int) :: GW) ({ frames := 2, cells := 0, slots := 0, locals := 43 }) [.ref (a 0), .int (nI (d)), .int (w)] G ES (mN G a (N) (x)) (mN G a (N) (x)) (-2) := by
  refine MI.of (own := RX4) rfl rfl (Nat.le_of_ble_eq_true rfl) ?_
  intro pP eE sS mM below meth cC ls AA E hw hl hr hlk hE
  replace hl : lv_has ls 8 [(0, .ref (a 0)), (1, .int (nI (d))), (2, .int (w))] := hl
  have h5 := hF.2.1
  have h6 := hF.1
  have hd8 : d < 8 := by omega
  refine lv_aload_n E.1 E.2.1 dX4_worstLoss_0 rfl (lv_at hl 0 rfl) ?_
  refine lv_iload_n E.1 E.2.1 dX4_worstLoss_1 rfl (lv_at hl 1 rfl) ?_
  refine callVI E (c_X4_isDeal l G a (N) (x) (nI (d)) (by omega)) mw_18_14 YX4_isDeal ⟨rfl, rfl⟩ ⟨Nat.le_of_ble_eq_true rfl, Nat.le_of_ble_eq_true rfl⟩ ⟨Nat.zero_le _, Nat.zero_le _⟩ hw 0 rfl rfl rfl hl rfl (Nat.le_of_ble_eq_true rfl) dX4_worstLoss_2 (fun H locs hw => ?_)
  refine lv_if_neB (tgt := 10) E.1 E.2.1 dX4_worstLoss_5 (by decide) (fun c5 => ?_) (fun c5 => ?_)
  · skip
    refine lv_iload_n E.1 E.2.1 dX4_worstLoss_10 rfl (lv_at hl 2 rfl) ?_
    refine lv_iconst (v := nI 0) E.1 E.2.1 dX4_worstLoss_11 (by decide) ?_
    refine lv_iconst (v := nI 1) E.1 E.2.1 dX4_worstLoss_12 (by decide) ?_
    refine callSI E (c_X4_in l G (w) (nI (0)) (nI (1))) mw_5_13 YX4_in ⟨rfl, rfl⟩ ⟨Nat.le_of_ble_eq_true rfl, Nat.le_of_ble_eq_true rfl⟩ ⟨Nat.zero_le _, Nat.zero_le _⟩ hw (w := []) (w' := []) (rr := mN G a (N) (x)) (big' := mN G a (N) (x)) (List.Perm.refl _) (List.Perm.refl _) rfl hl rfl (Nat.le_of_ble_eq_true rfl) dX4_worstLoss_13 (fun H locs hw => ?_)
    refine lv_if_neB (tgt := 22) E.1 E.2.1 dX4_worstLoss_16 (by decide) (fun c16 => ?_) (fun c16 => ?_)
    · exact absurd c16 h
    · skip
      refine lv_bipush (v := -2) E.1 E.2.1 dX4_worstLoss_19 (by decide) ?_
      exact rI E hr hlk (HB.eq hw (rfl)) (rfl) dX4_worstLoss_21
  · exact absurd (in0 (by omega) (by omega)) c5
set_option maxHeartbeats 4000000 in
set_option maxRecDepth 100000 in
theorem c_X4_worstLoss_ok (l : Launch) (G : GP) (a : Nat → Nat) (N : NS) (x : MX) (d : Nat) (hd : d < N 5) (hI : Inv N) (w : Nat) (hw : w < 2) : MI l yX4_worstLoss (.code yX4_worstLoss cX4_worstLoss 8 (some .int) :: GW) ({ frames := 7, cells := 0, slots := 0, locals := 167 }) [.ref (a 0), .int (nI (d)), .int (nI (w))] G ES (mN G a (N) (x)) (mN G a (N) (ax x 0 (cpA 390 (eN N) (x.2 0)))) (wlR d w N) := by
  have hw2 := hw
  refine MI.of (own := RX4) rfl rfl (Nat.le_of_ble_eq_true rfl) ?_
  intro pP eE sS mM below meth cC ls AA E hw hl hr hlk hE
  replace hl : lv_has ls 8 [(0, .ref (a 0)), (1, .int (nI (d))), (2, .int (nI (w)))] := hl
  have hF := hI.1
  have h5 := hF.2.1
  have h6 := hF.1
  have hd8 : d < 8 := by omega
  refine lv_aload_n E.1 E.2.1 dX4_worstLoss_0 rfl (lv_at hl 0 rfl) ?_
  refine lv_iload_n E.1 E.2.1 dX4_worstLoss_1 rfl (lv_at hl 1 rfl) ?_
  refine callVI E (c_X4_isDeal l G a (N) (x) (nI (d)) (by omega)) mw_18_14 YX4_isDeal ⟨rfl, rfl⟩ ⟨Nat.le_of_ble_eq_true rfl, Nat.le_of_ble_eq_true rfl⟩ ⟨Nat.zero_le _, Nat.zero_le _⟩ hw 0 rfl rfl rfl hl rfl (Nat.le_of_ble_eq_true rfl) dX4_worstLoss_2 (fun H locs hw => ?_)
  refine lv_if_neB (tgt := 10) E.1 E.2.1 dX4_worstLoss_5 (by decide) (fun c5 => ?_) (fun c5 => ?_)
  · skip
    refine lv_iload_n E.1 E.2.1 dX4_worstLoss_10 rfl (lv_at hl 2 rfl) ?_
    refine lv_iconst (v := nI 0) E.1 E.2.1 dX4_worstLoss_11 (by decide) ?_
    refine lv_iconst (v := nI 1) E.1 E.2.1 dX4_worstLoss_12 (by decide) ?_
    refine callSI E (c_X4_in l G (nI (w)) (nI (0)) (nI (1))) mw_5_13 YX4_in ⟨rfl, rfl⟩ ⟨Nat.le_of_ble_eq_true rfl, Nat.le_of_ble_eq_true rfl⟩ ⟨Nat.zero_le _, Nat.zero_le _⟩ hw (w := []) (w' := []) (rr := mN G a (N) (x)) (big' := mN G a (N) (x)) (List.Perm.refl _) (List.Perm.refl _) rfl hl rfl (Nat.le_of_ble_eq_true rfl) dX4_worstLoss_13 (fun H locs hw => ?_)
    refine lv_if_neB (tgt := 22) E.1 E.2.1 dX4_worstLoss_16 (by decide) (fun c16 => ?_) (fun c16 => ?_)
    · skip
      refine lv_bipush (v := -6) E.1 E.2.1 dX4_worstLoss_22 (by decide) ?_
      refine lv_istore_n (lv' := [(3, .int (-6)), (0, .ref (a 0)), (1, .int (nI (d))), (2, .int (nI (w)))]) E.1 E.2.1 dX4_worstLoss_24 rfl hl (by decide) rfl (fun ls hl => ?_)
      refine lv_iconst (v := nI 0) E.1 E.2.1 dX4_worstLoss_25 (by decide) ?_
      refine lv_istore (lv' := [(4, .int (nI (0))), (3, .int (-6)), (0, .ref (a 0)), (1, .int (nI (d))), (2, .int (nI (w)))]) E.1 E.2.1 dX4_worstLoss_26 hl (by decide) rfl (fun ls hl => ?_)
      refine lv_aload_n E.1 E.2.1 dX4_worstLoss_28 rfl (lv_at hl 2 rfl) ?_
      refine callVV E (c_X4_keep l G a (N) (x)) mw_24_2 YX4_keep ⟨rfl, rfl⟩ ⟨Nat.le_of_ble_eq_true rfl, Nat.le_of_ble_eq_true rfl⟩ ⟨Nat.zero_le _, Nat.zero_le _⟩ hw 0 rfl rfl rfl hl rfl (Nat.le_of_ble_eq_true rfl) dX4_worstLoss_29 (fun H locs hw => ?_)
      refine lv_aload_n E.1 E.2.1 dX4_worstLoss_32 rfl (lv_at hl 2 rfl) ?_
      refine gX4_0 E hw mw_3_8 dX4_worstLoss_33 ?_
      refine lv_bipush (v := nI 6) E.1 E.2.1 dX4_worstLoss_36 (by decide) ?_
      refine lN4_0 E hw (v := N 6) (by omega) (rfl) dX4_worstLoss_38 ?_
      refine lv_istore (lv' := [(5, .int (nI (N 6))), (4, .int (nI (0))), (3, .int (-6)), (0, .ref (a 0)), (1, .int (nI (d))), (2, .int (nI (w)))]) E.1 E.2.1 dX4_worstLoss_39 hl (by decide) rfl (fun ls hl => ?_)
      refine lv_iconst (v := nI 0) E.1 E.2.1 dX4_worstLoss_41 (by decide) ?_
      refine lv_istore (lv' := [(6, .int (nI (0))), (5, .int (nI (N 6))), (4, .int (nI (0))), (3, .int (-6)), (0, .ref (a 0)), (1, .int (nI (d))), (2, .int (nI (w)))]) E.1 E.2.1 dX4_worstLoss_42 hl (by decide) rfl (fun ls hl => ?_)
      refine W_ind1 (nL := 8) (P := fun mm => mm ≤ N 6) (μ := fun mm => N 6 - mm) (I := fun mm => mN G a (N) (ax x 0 (cpA 390 (eN N) (x.2 0)))) (L := fun mm => [(0, .ref (a 0)), (1, .int (nI (d))), (2, .int (nI (w))), (3, .int (bestV (wlP d N mm))), (4, .int (nI (latV (wlP d N mm)))), (5, .int (nI (N 6))), (6, .int (nI (mm)))]) ?_ (0) (Nat.zero_le _) (HB.eq hw (rfl)) (lvh_eq (l := [(0, .ref (a 0)), (1, .int (nI (d))), (2, .int (nI (w))), (3, .int (-6)), (4, .int (nI (0))), (5, .int (nI (N 6))), (6, .int (nI (0)))]) (lv_sub hl [4, 5, 6, 3, 2, 1, 0] rfl) (rfl))
      intro mm hP ih H locs ls hw hl
      replace hw : HB G AA sS.heap (mN G a (N) (ax x 0 (cpA 390 (eN N) (x.2 0)))) H locs := hw
      replace hl : lv_has ls 8 [(0, .ref (a 0)), (1, .int (nI (d))), (2, .int (nI (w))), (3, .int (bestV (wlP d N mm))), (4, .int (nI (latV (wlP d N mm)))), (5, .int (nI (N 6))), (6, .int (nI (mm)))] := hl
      have hla := latV_le (d := d) (m := mm) (N := N)
      have hrt := rTo_le (d := d) 201 (mLose mm N)
      refine lv_iload E.1 E.2.1 dX4_worstLoss_44 (lv_at hl 6 rfl) ?_
      refine lv_iload E.1 E.2.1 dX4_worstLoss_46 (lv_at hl 5 rfl) ?_
      refine lv_icmp_geN (tgt := 92) E.1 E.2.1 (by omega) (by omega) dX4_worstLoss_48 (by decide) (fun c48 => ?_) (fun c48 => ?_)
      · skip
        have hmN : mm = N 6 := by omega
        refine lv_iload_n E.1 E.2.1 dX4_worstLoss_92 rfl (lv_at hl 3 rfl) ?_
        refine lv_if_lt (tgt := 100) E.1 E.2.1 dX4_worstLoss_93 (by decide) (fun c93 => ?_) (fun c93 => ?_)
        · skip
          refine lv_iload_n E.1 E.2.1 dX4_worstLoss_100 rfl (lv_at hl 3 rfl) ?_
          refine lv_goto (tgt := 106) E.1 E.2.1 dX4_worstLoss_101 (by decide) ?_
          exact rI E hr hlk (HB.eq hw (rfl)) (by rw [hmN] at c93 ⊢; rw [wlR, (wl_neg h6).mp c93]; rfl) dX4_worstLoss_106
        · skip
          refine lv_iload_n E.1 E.2.1 dX4_worstLoss_96 rfl (lv_at hl 2 rfl) ?_
          refine lv_if_neN (tgt := 104) E.1 E.2.1 (by omega) dX4_worstLoss_97 (by decide) (fun c97 => ?_) (fun c97 => ?_)
          · skip
            refine lv_iload E.1 E.2.1 dX4_worstLoss_104 (lv_at hl 4 rfl) ?_
            exact rI E hr hlk (HB.eq hw (rfl)) (by rw [hmN] at c93 ⊢; exact wlR_l c93 (by omega) h6) dX4_worstLoss_106
          · skip
            refine lv_iload_n E.1 E.2.1 dX4_worstLoss_100 rfl (lv_at hl 3 rfl) ?_
            refine lv_goto (tgt := 106) E.1 E.2.1 dX4_worstLoss_101 (by decide) ?_
            exact rI E hr hlk (HB.eq hw (rfl)) (by rw [hmN] at c93 ⊢; exact wlR_b c93 (by omega) h6) dX4_worstLoss_106
      · skip
        have hmm : mm < N 6 := by omega
        refine lv_aload_n E.1 E.2.1 dX4_worstLoss_51 rfl (lv_at hl 0 rfl) ?_
        refine lv_iload E.1 E.2.1 dX4_worstLoss_52 (lv_at hl 6 rfl) ?_
        refine callVV E (c_X4_loseNow l G a (N) (ax x 0 (cpA 390 (eN N) (x.2 0))) mm (by omega) (by omega)) mw_13_9 YX4_loseNow ⟨rfl, rfl⟩ ⟨Nat.le_of_ble_eq_true rfl, Nat.le_of_ble_eq_true rfl⟩ ⟨Nat.zero_le _, Nat.zero_le _⟩ hw 0 rfl rfl rfl hl rfl (Nat.le_of_ble_eq_true rfl) dX4_worstLoss_54 (fun H locs hw => ?_)
        refine lv_aload_n E.1 E.2.1 dX4_worstLoss_57 rfl (lv_at hl 0 rfl) ?_
        refine lv_iload_n E.1 E.2.1 dX4_worstLoss_58 rfl (lv_at hl 1 rfl) ?_
        refine callVI E (c_X4_roundsTo l G a (mLose mm (N)) (ax x 0 (cpA 390 (eN N) (x.2 0))) d (by omega) (hI.los hmm)) mw_24_6 YX4_roundsTo ⟨rfl, rfl⟩ ⟨Nat.le_of_ble_eq_true rfl, Nat.le_of_ble_eq_true rfl⟩ ⟨Nat.zero_le _, Nat.zero_le _⟩ hw 0 rfl rfl rfl hl rfl (Nat.le_of_ble_eq_true rfl) dX4_worstLoss_59 (fun H locs hw => ?_)
        refine lv_istore (lv' := [(7, .int (nI (rTo d 201 (mLose mm (N))))), (0, .ref (a 0)), (1, .int (nI (d))), (2, .int (nI (w))), (3, .int (bestV (wlP d N mm))), (4, .int (nI (latV (wlP d N mm)))), (5, .int (nI (N 6))), (6, .int (nI (mm)))]) E.1 E.2.1 dX4_worstLoss_62 hl (by decide) rfl (fun ls hl => ?_)
        refine lv_aload_n E.1 E.2.1 dX4_worstLoss_64 rfl (lv_at hl 1 rfl) ?_
        refine callVV E (c_X4_comeBack l G a (rToN d 201 (mLose mm (N))) (N) (ax x 0 (cpA 390 (eN N) (x.2 0))) (fun k hk => if_pos hk)) mw_24_18 YX4_comeBack ⟨rfl, rfl⟩ ⟨Nat.le_of_ble_eq_true rfl, Nat.le_of_ble_eq_true rfl⟩ ⟨Nat.zero_le _, Nat.zero_le _⟩ hw 0 rfl rfl rfl hl rfl (Nat.le_of_ble_eq_true rfl) dX4_worstLoss_65 (fun H locs hw => ?_)
        refine lv_iload_n E.1 E.2.1 dX4_worstLoss_68 rfl (lv_at hl 4 rfl) ?_
        refine lv_if_lt (tgt := 79) E.1 E.2.1 dX4_worstLoss_69 (by decide) (fun c69 => ?_) (fun c69 => ?_)
        · skip
          refine lv_iload E.1 E.2.1 dX4_worstLoss_79 (lv_at hl 7 rfl) ?_
          refine lv_istore_n (lv' := [(3, .int (nI (mm))), (7, .int (nI (rTo d 201 (mLose mm (N))))), (0, .ref (a 0)), (1, .int (nI (d))), (2, .int (nI (w))), (4, .int (nI (latV (wlP d N mm)))), (5, .int (nI (N 6))), (6, .int (nI (mm)))]) E.1 E.2.1 dX4_worstLoss_81 rfl hl (by decide) rfl (fun ls hl => ?_)
          refine lv_iload E.1 E.2.1 dX4_worstLoss_82 (lv_at hl 1 rfl) ?_
          refine lv_istore (lv' := [(4, .int (nI (rTo d 201 (mLose mm (N))))), (3, .int (nI (mm))), (7, .int (nI (rTo d 201 (mLose mm (N))))), (0, .ref (a 0)), (1, .int (nI (d))), (2, .int (nI (w))), (5, .int (nI (N 6))), (6, .int (nI (mm)))]) E.1 E.2.1 dX4_worstLoss_84 hl (by decide) rfl (fun ls hl => ?_)
          refine lv_iincN (k := 7) (lv' := [(6, .int (nI (mm + 1))), (4, .int (nI (rTo d 201 (mLose mm (N))))), (3, .int (nI (mm))), (7, .int (nI (rTo d 201 (mLose mm (N))))), (0, .ref (a 0)), (1, .int (nI (d))), (2, .int (nI (w))), (5, .int (nI (N 6)))]) E.1 E.2.1 dX4_worstLoss_86 hl rfl (by decide) rfl (fun ls hl => ?_)
          refine lv_goto (tgt := 44) E.1 E.2.1 dX4_worstLoss_89 (by decide) ?_
          exact ih (mm + 1) (by omega) (by omega) _ _ _ (HB.eq hw (rfl)) (lvh_eq (l := [(0, .ref (a 0)), (1, .int (nI (d))), (2, .int (nI (w))), (3, .int (nI (mm))), (4, .int (nI (rTo d 201 (mLose mm (N))))), (5, .int (nI (N 6))), (6, .int (nI (mm + 1)))]) (lv_sub hl [4, 5, 6, 2, 1, 7, 0] rfl) (by rw [wl_up1 (by omega) c69]; rfl))
        · skip
          refine lv_iload E.1 E.2.1 dX4_worstLoss_72 (lv_at hl 0 rfl) ?_
          refine lv_iload E.1 E.2.1 dX4_worstLoss_74 (lv_at hl 5 rfl) ?_
          refine lv_icmp_leN (tgt := 86) E.1 E.2.1 (by omega) (by omega) dX4_worstLoss_76 (by decide) (fun c76 => ?_) (fun c76 => ?_)
          · skip
            refine lv_iincN (k := 7) (lv' := [(6, .int (nI (mm + 1))), (7, .int (nI (rTo d 201 (mLose mm (N))))), (0, .ref (a 0)), (1, .int (nI (d))), (2, .int (nI (w))), (3, .int (bestV (wlP d N mm))), (4, .int (nI (latV (wlP d N mm)))), (5, .int (nI (N 6)))]) E.1 E.2.1 dX4_worstLoss_86 hl rfl (by decide) rfl (fun ls hl => ?_)
            refine lv_goto (tgt := 44) E.1 E.2.1 dX4_worstLoss_89 (by decide) ?_
            exact ih (mm + 1) (by omega) (by omega) _ _ _ (HB.eq hw (rfl)) (lvh_eq (l := [(0, .ref (a 0)), (1, .int (nI (d))), (2, .int (nI (w))), (3, .int (bestV (wlP d N mm))), (4, .int (nI (latV (wlP d N mm)))), (5, .int (nI (N 6))), (6, .int (nI (mm + 1)))]) (lv_sub hl [2, 3, 4, 5, 6, 7, 0] rfl) (by rw [wl_no (by omega) c69 c76]))
          · skip
            refine lv_iload E.1 E.2.1 dX4_worstLoss_79 (lv_at hl 7 rfl) ?_
            refine lv_istore_n (lv' := [(3, .int (nI (mm))), (7, .int (nI (rTo d 201 (mLose mm (N))))), (0, .ref (a 0)), (1, .int (nI (d))), (2, .int (nI (w))), (4, .int (nI (latV (wlP d N mm)))), (5, .int (nI (N 6))), (6, .int (nI (mm)))]) E.1 E.2.1 dX4_worstLoss_81 rfl hl (by decide) rfl (fun ls hl => ?_)
            refine lv_iload E.1 E.2.1 dX4_worstLoss_82 (lv_at hl 1 rfl) ?_
            refine lv_istore (lv' := [(4, .int (nI (rTo d 201 (mLose mm (N))))), (3, .int (nI (mm))), (7, .int (nI (rTo d 201 (mLose mm (N))))), (0, .ref (a 0)), (1, .int (nI (d))), (2, .int (nI (w))), (5, .int (nI (N 6))), (6, .int (nI (mm)))]) E.1 E.2.1 dX4_worstLoss_84 hl (by decide) rfl (fun ls hl => ?_)
            refine lv_iincN (k := 7) (lv' := [(6, .int (nI (mm + 1))), (4, .int (nI (rTo d 201 (mLose mm (N))))), (3, .int (nI (mm))), (7, .int (nI (rTo d 201 (mLose mm (N))))), (0, .ref (a 0)), (1, .int (nI (d))), (2, .int (nI (w))), (5, .int (nI (N 6)))]) E.1 E.2.1 dX4_worstLoss_86 hl rfl (by decide) rfl (fun ls hl => ?_)
            refine lv_goto (tgt := 44) E.1 E.2.1 dX4_worstLoss_89 (by decide) ?_
            exact ih (mm + 1) (by omega) (by omega) _ _ _ (HB.eq hw (rfl)) (lvh_eq (l := [(0, .ref (a 0)), (1, .int (nI (d))), (2, .int (nI (w))), (3, .int (nI (mm))), (4, .int (nI (rTo d 201 (mLose mm (N))))), (5, .int (nI (N 6))), (6, .int (nI (mm + 1)))]) (lv_sub hl [4, 5, 6, 2, 1, 7, 0] rfl) (by rw [wl_up2 (by omega) c69 c76]; rfl))
    · exact absurd (inN (by omega) (by omega) (by decide)) c16
  · exact absurd (in0 (by omega) (by omega)) c5
theorem YX4_undo : YV yX4_undo RX4 cX4_undo 2 (some .int) 0 := ⟨mw_31_15, mw_31_16, mw_1_5, mw_31_17, by decide +kernel⟩
set_option maxHeartbeats 4000000 in
set_option maxRecDepth 100000 in
theorem c_X4_undo_bad (l : Launch) (G : GP) (a : Nat → Nat) (N : NS) (x : MX) (hu : x.1 0 = nI 0) : MI l yX4_undo (.code yX4_undo cX4_undo 2 (some .int) :: GW) ({ frames := 0, cells := 0, slots := 0, locals := 0 }) [.ref (a 0)] G ES (mN G a (N) (x)) (mN G a (N) (x)) (-5) := by
  refine MI.of (own := RX4) rfl rfl (Nat.le_of_ble_eq_true rfl) ?_
  intro pP eE sS mM below meth cC ls AA E hw hl hr hlk hE
  replace hl : lv_has ls 2 [(0, .ref (a 0))] := hl
  refine lv_aload_n E.1 E.2.1 dX4_undo_0 rfl (lv_at hl 0 rfl) ?_
  refine gX4_3 E hw mw_5_21 dX4_undo_1 ?_
  refine lv_eqi (y := nI (0)) (hu) ?_
  refine lv_if_neN (tgt := 10) E.1 E.2.1 (by omega) dX4_undo_4 (by decide) (fun c4 => ?_) (fun c4 => ?_)
  · exact absurd c4 (by decide)
  · skip
    refine lv_bipush (v := -5) E.1 E.2.1 dX4_undo_7 (by decide) ?_
    exact rI E hr hlk (HB.eq hw (rfl)) (rfl) dX4_undo_9
set_option maxHeartbeats 4000000 in
set_option maxRecDepth 100000 in
theorem c_X4_undo_ok (l : Launch) (G : GP) (a : Nat → Nat) (N : NS) (x : MX) (K : NS) (u : Nat) (hu : x.1 0 = nI u) (hu0 : 0 < u) (hu6 : u ≤ 6) (hK : ∀ k, k < 390 → x.2 1 ((u - 1) * 390 + k) = nI (K k)) : MI l yX4_undo (.code yX4_undo cX4_undo 2 (some .int) :: GW) ({ frames := 0, cells := 0, slots := 0, locals := 0 }) [.ref (a 0)] G ES (mN G a (N) (x)) (mN G a (K) (sx x 0 (nI (u - 1)))) (nI (u - 1)) := by
  refine MI.of (own := RX4) rfl rfl (Nat.le_of_ble_eq_true rfl) ?_
  intro pP eE sS mM below meth cC ls AA E hw hl hr hlk hE
  replace hl : lv_has ls 2 [(0, .ref (a 0))] := hl
  refine lv_aload_n E.1 E.2.1 dX4_undo_0 rfl (lv_at hl 0 rfl) ?_
  refine gX4_3 E hw mw_5_21 dX4_undo_1 ?_
  refine lv_eqi (y := nI (u)) (hu) ?_
  refine lv_if_neN (tgt := 10) E.1 E.2.1 (by omega) dX4_undo_4 (by decide) (fun c4 => ?_) (fun c4 => ?_)
  · skip
    refine lv_aload_n E.1 E.2.1 dX4_undo_10 rfl (lv_at hl 0 rfl) ?_
    refine lv_dup E.1 E.2.1 dX4_undo_11 rfl ?_
    refine gX4_3 E hw mw_5_21 dX4_undo_12 ?_
    refine lv_eqi (y := nI (u)) (hu) ?_
    refine lv_iconst (v := nI 1) E.1 E.2.1 dX4_undo_15 (by decide) ?_
    refine lv_subN E.1 E.2.1 (by omega) dX4_undo_16 ?_
    refine pX4_3 E hw mw_5_21 dX4_undo_17 (fun H locs hw => ?_)
    refine lv_iconst (v := nI 0) E.1 E.2.1 dX4_undo_20 (by decide) ?_
    refine lv_istore_n (lv' := [(1, .int (nI (0))), (0, .ref (a 0))]) E.1 E.2.1 dX4_undo_21 rfl hl (by decide) rfl (fun ls hl => ?_)
    refine W_ind1 (nL := 2) (P := fun k => k ≤ 390) (μ := fun k => 390 - k) (I := fun k => mN G a (cpN k K N) (sx (x) 0 (nI (u - 1)))) (L := fun k => [(0, .ref (a 0)), (1, .int (nI (k)))]) ?_ (0) (Nat.zero_le _) (HB.eq hw (by rw [cpN_0])) (lvh_eq (l := [(0, .ref (a 0)), (1, .int (nI (0)))]) (lv_sub hl [1, 0] rfl) (rfl))
    intro k hP ih H locs ls hw hl
    replace hw : HB G AA sS.heap (mN G a (cpN k K N) (sx (x) 0 (nI (u - 1)))) H locs := hw
    replace hl : lv_has ls 2 [(0, .ref (a 0)), (1, .int (nI (k)))] := hl
    refine lv_iload_n E.1 E.2.1 dX4_undo_22 rfl (lv_at hl 1 rfl) ?_
    refine lv_sipush (v := nI 390) E.1 E.2.1 dX4_undo_23 (by decide) ?_
    refine lv_icmp_geN (tgt := 56) E.1 E.2.1 (by omega) (by omega) dX4_undo_26 (by decide) (fun c26 => ?_) (fun c26 => ?_)
    · skip
      replace hw := hw.mcongr (M := K) (fun j hj => if_pos (by omega))
      refine lv_aload_n E.1 E.2.1 dX4_undo_56 rfl (lv_at hl 0 rfl) ?_
      refine gX4_3 E hw mw_5_21 dX4_undo_57 ?_
      refine lv_eqi (y := nI (u - 1)) (rfl) ?_
      exact rI E hr hlk (HB.eq hw (rfl)) (rfl) dX4_undo_60
    · skip
      refine lv_aload_n E.1 E.2.1 dX4_undo_29 rfl (lv_at hl 0 rfl) ?_
      refine gX4_0 E hw mw_3_8 dX4_undo_30 ?_
      refine lv_iload_n E.1 E.2.1 dX4_undo_33 rfl (lv_at hl 1 rfl) ?_
      refine lv_aload_n E.1 E.2.1 dX4_undo_34 rfl (lv_at hl 0 rfl) ?_
      refine gX4_2 E hw mw_3_10 dX4_undo_35 ?_
      refine lv_aload_n E.1 E.2.1 dX4_undo_38 rfl (lv_at hl 0 rfl) ?_
      refine gX4_3 E hw mw_5_21 dX4_undo_39 ?_
      refine lv_eqi (y := nI (u - 1)) (rfl) ?_
      refine lv_sipush (v := nI 390) E.1 E.2.1 dX4_undo_42 (by decide) ?_
      refine lv_mulN E.1 E.2.1 dX4_undo_45 ?_
      refine lv_iload_n E.1 E.2.1 dX4_undo_46 rfl (lv_at hl 1 rfl) ?_
      refine lv_addN E.1 E.2.1 dX4_undo_47 ?_
      refine lX4_2 E hw (by omega) dX4_undo_48 ?_
      refine lv_eqi (y := nI (K k)) (hK k (by omega)) ?_
      refine sN4_0 E hw (by omega) dX4_undo_49 (fun H locs hw => ?_)
      refine lv_iincN (k := 1) (lv' := [(1, .int (nI (k + 1))), (0, .ref (a 0))]) E.1 E.2.1 dX4_undo_50 hl rfl (by decide) rfl (fun ls hl => ?_)
      refine lv_goto (tgt := 22) E.1 E.2.1 dX4_undo_53 (by decide) ?_
      exact ih (k + 1) (by omega) (by omega) _ _ _ (HB.eq hw (by rw [cpN_s])) (lvh_eq (l := [(0, .ref (a 0)), (1, .int (nI (k + 1)))]) (lv_sub hl [1, 0] rfl) (rfl))
  · omega
theorem YX4_save : YV yX4_save RX4 cX4_save 3 (some .int) 1 := ⟨mw_32_1, mw_32_2, mw_1_5, mw_32_3, by decide +kernel⟩
set_option maxHeartbeats 4000000 in
set_option maxRecDepth 100000 in
theorem c_X4_save_bad (l : Launch) (G : GP) (a : Nat → Nat) (N : NS) (x : MX) (v : Int32) (h : ¬ (nI 0 ≤ v ∧ v ≤ nI 1)) : MI l yX4_save (.code yX4_save cX4_save 3 (some .int) :: GW) ({ frames := 1, cells := 0, slots := 0, locals := 22 }) [.ref (a 0), .int (v)] G ES (mN G a (N) (x)) (mN G a (N) (x)) (-2) := by
  refine MI.of (own := RX4) rfl rfl (Nat.le_of_ble_eq_true rfl) ?_
  intro pP eE sS mM below meth cC ls AA E hw hl hr hlk hE
  replace hl : lv_has ls 3 [(0, .ref (a 0)), (1, .int (v))] := hl
  refine lv_iload_n E.1 E.2.1 dX4_save_0 rfl (lv_at hl 1 rfl) ?_
  refine lv_iconst (v := nI 0) E.1 E.2.1 dX4_save_1 (by decide) ?_
  refine lv_iconst (v := nI 1) E.1 E.2.1 dX4_save_2 (by decide) ?_
  refine callSI E (c_X4_in l G (v) (nI (0)) (nI (1))) mw_5_13 YX4_in ⟨rfl, rfl⟩ ⟨Nat.le_of_ble_eq_true rfl, Nat.le_of_ble_eq_true rfl⟩ ⟨Nat.zero_le _, Nat.zero_le _⟩ hw (w := []) (w' := []) (rr := mN G a (N) (x)) (big' := mN G a (N) (x)) (List.Perm.refl _) (List.Perm.refl _) rfl hl rfl (Nat.le_of_ble_eq_true rfl) dX4_save_3 (fun H locs hw => ?_)
  refine lv_if_neB (tgt := 12) E.1 E.2.1 dX4_save_6 (by decide) (fun c6 => ?_) (fun c6 => ?_)
  · exact absurd c6 h
  · skip
    refine lv_bipush (v := -2) E.1 E.2.1 dX4_save_9 (by decide) ?_
    exact rI E hr hlk (HB.eq hw (rfl)) (rfl) dX4_save_11
set_option maxHeartbeats 4000000 in
set_option maxRecDepth 100000 in
theorem c_X4_save_ok (l : Launch) (G : GP) (a : Nat → Nat) (N : NS) (x : MX) (s : Nat) (hs : s < 2) : MI l yX4_save (.code yX4_save cX4_save 3 (some .int) :: GW) ({ frames := 1, cells := 0, slots := 0, locals := 22 }) [.ref (a 0), .int (nI (s))] G ES (mN G a (N) (x)) (mN G a (N) (ax (ax x 2 (hcp (s * 390) 390 N (x.2 2))) 3 (upd (x.2 3) s (nI 1)))) (nI (N 4)) := by
  refine MI.of (own := RX4) rfl rfl (Nat.le_of_ble_eq_true rfl) ?_
  intro pP eE sS mM below meth cC ls AA E hw hl hr hlk hE
  replace hl : lv_has ls 3 [(0, .ref (a 0)), (1, .int (nI (s)))] := hl
  refine lv_iload_n E.1 E.2.1 dX4_save_0 rfl (lv_at hl 1 rfl) ?_
  refine lv_iconst (v := nI 0) E.1 E.2.1 dX4_save_1 (by decide) ?_
  refine lv_iconst (v := nI 1) E.1 E.2.1 dX4_save_2 (by decide) ?_
  refine callSI E (c_X4_in l G (nI (s)) (nI (0)) (nI (1))) mw_5_13 YX4_in ⟨rfl, rfl⟩ ⟨Nat.le_of_ble_eq_true rfl, Nat.le_of_ble_eq_true rfl⟩ ⟨Nat.zero_le _, Nat.zero_le _⟩ hw (w := []) (w' := []) (rr := mN G a (N) (x)) (big' := mN G a (N) (x)) (List.Perm.refl _) (List.Perm.refl _) rfl hl rfl (Nat.le_of_ble_eq_true rfl) dX4_save_3 (fun H locs hw => ?_)
  refine lv_if_neB (tgt := 12) E.1 E.2.1 dX4_save_6 (by decide) (fun c6 => ?_) (fun c6 => ?_)
  · skip
    refine lv_iconst (v := nI 0) E.1 E.2.1 dX4_save_12 (by decide) ?_
    refine lv_istore_n (lv' := [(2, .int (nI (0))), (0, .ref (a 0)), (1, .int (nI (s)))]) E.1 E.2.1 dX4_save_13 rfl hl (by decide) rfl (fun ls hl => ?_)
    refine W_ind1 (nL := 3) (P := fun k => k ≤ 390) (μ := fun k => 390 - k) (I := fun k => mN G a (N) (ax (x) 2 (hcp (s * 390) k N (x.2 2)))) (L := fun k => [(0, .ref (a 0)), (1, .int (nI (s))), (2, .int (nI (k)))]) ?_ (0) (Nat.zero_le _) (HB.eq hw (by rw [hcp_0, ax_r])) (lvh_eq (l := [(0, .ref (a 0)), (1, .int (nI (s))), (2, .int (nI (0)))]) (lv_sub hl [1, 2, 0] rfl) (rfl))
    intro k hP ih H locs ls hw hl
    replace hw : HB G AA sS.heap (mN G a (N) (ax (x) 2 (hcp (s * 390) k N (x.2 2)))) H locs := hw
    replace hl : lv_has ls 3 [(0, .ref (a 0)), (1, .int (nI (s))), (2, .int (nI (k)))] := hl
    refine lv_iload_n E.1 E.2.1 dX4_save_14 rfl (lv_at hl 2 rfl) ?_
    refine lv_sipush (v := nI 390) E.1 E.2.1 dX4_save_15 (by decide) ?_
    refine lv_icmp_geN (tgt := 45) E.1 E.2.1 (by omega) (by omega) dX4_save_18 (by decide) (fun c18 => ?_) (fun c18 => ?_)
    · skip
      refine lv_aload_n E.1 E.2.1 dX4_save_45 rfl (lv_at hl 0 rfl) ?_
      refine gX4_5 E hw mw_3_13 dX4_save_46 ?_
      refine lv_iload_n E.1 E.2.1 dX4_save_49 rfl (lv_at hl 1 rfl) ?_
      refine lv_iconst (v := nI 1) E.1 E.2.1 dX4_save_50 (by decide) ?_
      refine sX4_4 E hw (by omega) rfl dX4_save_51 (fun H locs hw => ?_)
      refine lv_aload_n E.1 E.2.1 dX4_save_52 rfl (lv_at hl 0 rfl) ?_
      refine gX4_0 E hw mw_3_8 dX4_save_53 ?_
      refine lv_iconst (v := nI 4) E.1 E.2.1 dX4_save_56 (by decide) ?_
      refine lN4_0 E hw (v := N 4) (by omega) (rfl) dX4_save_57 ?_
      exact rI E hr hlk (HB.eq hw (by rw [show k = 390 by omega]; rfl)) (rfl) dX4_save_58
    · skip
      refine lv_aload_n E.1 E.2.1 dX4_save_21 rfl (lv_at hl 0 rfl) ?_
      refine gX4_4 E hw mw_3_11 dX4_save_22 ?_
      refine lv_iload_n E.1 E.2.1 dX4_save_25 rfl (lv_at hl 1 rfl) ?_
      refine lv_sipush (v := nI 390) E.1 E.2.1 dX4_save_26 (by decide) ?_
      refine lv_mulN E.1 E.2.1 dX4_save_29 ?_
      refine lv_iload_n E.1 E.2.1 dX4_save_30 rfl (lv_at hl 2 rfl) ?_
      refine lv_addN E.1 E.2.1 dX4_save_31 ?_
      refine lv_aload_n E.1 E.2.1 dX4_save_32 rfl (lv_at hl 0 rfl) ?_
      refine gX4_0 E hw mw_3_8 dX4_save_33 ?_
      refine lv_iload_n E.1 E.2.1 dX4_save_36 rfl (lv_at hl 2 rfl) ?_
      refine lN4_0 E hw (v := N k) (by omega) (rfl) dX4_save_37 ?_
      refine sX4_3 E hw (by omega) dX4_save_38 (fun H locs hw => ?_)
      refine lv_iincN (k := 2) (lv' := [(2, .int (nI (k + 1))), (0, .ref (a 0)), (1, .int (nI (s)))]) E.1 E.2.1 dX4_save_39 hl rfl (by decide) rfl (fun ls hl => ?_)
      refine lv_goto (tgt := 14) E.1 E.2.1 dX4_save_42 (by decide) ?_
      exact ih (k + 1) (by omega) (by omega) _ _ _ (HB.eq hw (by rw [ax_ax, ax_s, hcp_s])) (lvh_eq (l := [(0, .ref (a 0)), (1, .int (nI (s))), (2, .int (nI (k + 1)))]) (lv_sub hl [1, 2, 0] rfl) (rfl))
  · exact absurd (inN (by omega) (by omega) (by decide)) c6
theorem YX4_restore : YV yX4_restore RX4 cX4_restore 3 (some .int) 1 := ⟨mw_32_10, mw_32_11, mw_1_5, mw_32_12, by decide +kernel⟩
set_option maxHeartbeats 4000000 in
set_option maxRecDepth 100000 in
theorem c_X4_restore_bad (l : Launch) (G : GP) (a : Nat → Nat) (N : NS) (x : MX) (v : Int32) (h : ¬ (nI 0 ≤ v ∧ v ≤ nI 1)) : MI l yX4_restore (.code yX4_restore cX4_restore 3 (some .int) :: GW) ({ frames := 1, cells := 0, slots := 0, locals := 22 }) [.ref (a 0), .int (v)] G ES (mN G a (N) (x)) (mN G a (N) (x)) (-2) := by
  refine MI.of (own := RX4) rfl rfl (Nat.le_of_ble_eq_true rfl) ?_
  intro pP eE sS mM below meth cC ls AA E hw hl hr hlk hE
  replace hl : lv_has ls 3 [(0, .ref (a 0)), (1, .int (v))] := hl
  refine lv_iload_n E.1 E.2.1 dX4_restore_0 rfl (lv_at hl 1 rfl) ?_
  refine lv_iconst (v := nI 0) E.1 E.2.1 dX4_restore_1 (by decide) ?_
  refine lv_iconst (v := nI 1) E.1 E.2.1 dX4_restore_2 (by decide) ?_
  refine callSI E (c_X4_in l G (v) (nI (0)) (nI (1))) mw_5_13 YX4_in ⟨rfl, rfl⟩ ⟨Nat.le_of_ble_eq_true rfl, Nat.le_of_ble_eq_true rfl⟩ ⟨Nat.zero_le _, Nat.zero_le _⟩ hw (w := []) (w' := []) (rr := mN G a (N) (x)) (big' := mN G a (N) (x)) (List.Perm.refl _) (List.Perm.refl _) rfl hl rfl (Nat.le_of_ble_eq_true rfl) dX4_restore_3 (fun H locs hw => ?_)
  refine lv_if_neB (tgt := 12) E.1 E.2.1 dX4_restore_6 (by decide) (fun c6 => ?_) (fun c6 => ?_)
  · exact absurd c6 h
  · skip
    refine lv_bipush (v := -2) E.1 E.2.1 dX4_restore_9 (by decide) ?_
    exact rI E hr hlk (HB.eq hw (rfl)) (rfl) dX4_restore_11
set_option maxHeartbeats 4000000 in
set_option maxRecDepth 100000 in
theorem c_X4_restore_none (l : Launch) (G : GP) (a : Nat → Nat) (N : NS) (x : MX) (s : Nat) (hs : s < 2) (h : x.2 3 s = nI 0) : MI l yX4_restore (.code yX4_restore cX4_restore 3 (some .int) :: GW) ({ frames := 1, cells := 0, slots := 0, locals := 22 }) [.ref (a 0), .int (nI (s))] G ES (mN G a (N) (x)) (mN G a (N) (x)) (-5) := by
  refine MI.of (own := RX4) rfl rfl (Nat.le_of_ble_eq_true rfl) ?_
  intro pP eE sS mM below meth cC ls AA E hw hl hr hlk hE
  replace hl : lv_has ls 3 [(0, .ref (a 0)), (1, .int (nI (s)))] := hl
  refine lv_iload_n E.1 E.2.1 dX4_restore_0 rfl (lv_at hl 1 rfl) ?_
  refine lv_iconst (v := nI 0) E.1 E.2.1 dX4_restore_1 (by decide) ?_
  refine lv_iconst (v := nI 1) E.1 E.2.1 dX4_restore_2 (by decide) ?_
  refine callSI E (c_X4_in l G (nI (s)) (nI (0)) (nI (1))) mw_5_13 YX4_in ⟨rfl, rfl⟩ ⟨Nat.le_of_ble_eq_true rfl, Nat.le_of_ble_eq_true rfl⟩ ⟨Nat.zero_le _, Nat.zero_le _⟩ hw (w := []) (w' := []) (rr := mN G a (N) (x)) (big' := mN G a (N) (x)) (List.Perm.refl _) (List.Perm.refl _) rfl hl rfl (Nat.le_of_ble_eq_true rfl) dX4_restore_3 (fun H locs hw => ?_)
  refine lv_if_neB (tgt := 12) E.1 E.2.1 dX4_restore_6 (by decide) (fun c6 => ?_) (fun c6 => ?_)
  · skip
    refine lv_aload_n E.1 E.2.1 dX4_restore_12 rfl (lv_at hl 0 rfl) ?_
    refine gX4_5 E hw mw_3_13 dX4_restore_13 ?_
    refine lv_iload_n E.1 E.2.1 dX4_restore_16 rfl (lv_at hl 1 rfl) ?_
    refine lX4_4 E hw (by omega) dX4_restore_17 ?_
    refine lv_eqi (y := nI (0)) (h) ?_
    refine lv_if_neN (tgt := 24) E.1 E.2.1 (by omega) dX4_restore_18 (by decide) (fun c18 => ?_) (fun c18 => ?_)
    · exact absurd c18 (by decide)
    · skip
      refine lv_bipush (v := -5) E.1 E.2.1 dX4_restore_21 (by decide) ?_
      exact rI E hr hlk (HB.eq hw (rfl)) (rfl) dX4_restore_23
  · exact absurd (inN (by omega) (by omega) (by decide)) c6
set_option maxHeartbeats 4000000 in
set_option maxRecDepth 100000 in
theorem c_X4_restore_ok (l : Launch) (G : GP) (a : Nat → Nat) (N : NS) (x : MX) (u : Nat) (T : Prop) [Decidable T] (hu : x.1 0 = nI u) (hT : x.1 2 = zb T) (hu6 : u ≤ 6) (K : NS) (s : Nat) (hs : s < 2) (h : x.2 3 s = nI 1) (hK : ∀ k, k < 390 → x.2 2 (s * 390 + k) = nI (K k)) : MI l yX4_restore (.code yX4_restore cX4_restore 3 (some .int) :: GW) ({ frames := 1, cells := 0, slots := 0, locals := 22 }) [.ref (a 0), .int (nI (s))] G ES (mN G a (N) (x)) (mN G a (K) (rcd u N x)) (nI (K 4)) := by
  refine MI.of (own := RX4) rfl rfl (Nat.le_of_ble_eq_true rfl) ?_
  intro pP eE sS mM below meth cC ls AA E hw hl hr hlk hE
  replace hl : lv_has ls 3 [(0, .ref (a 0)), (1, .int (nI (s)))] := hl
  refine lv_iload_n E.1 E.2.1 dX4_restore_0 rfl (lv_at hl 1 rfl) ?_
  refine lv_iconst (v := nI 0) E.1 E.2.1 dX4_restore_1 (by decide) ?_
  refine lv_iconst (v := nI 1) E.1 E.2.1 dX4_restore_2 (by decide) ?_
  refine callSI E (c_X4_in l G (nI (s)) (nI (0)) (nI (1))) mw_5_13 YX4_in ⟨rfl, rfl⟩ ⟨Nat.le_of_ble_eq_true rfl, Nat.le_of_ble_eq_true rfl⟩ ⟨Nat.zero_le _, Nat.zero_le _⟩ hw (w := []) (w' := []) (rr := mN G a (N) (x)) (big' := mN G a (N) (x)) (List.Perm.refl _) (List.Perm.refl _) rfl hl rfl (Nat.le_of_ble_eq_true rfl) dX4_restore_3 (fun H locs hw => ?_)
  refine lv_if_neB (tgt := 12) E.1 E.2.1 dX4_restore_6 (by decide) (fun c6 => ?_) (fun c6 => ?_)
  · skip
    refine lv_aload_n E.1 E.2.1 dX4_restore_12 rfl (lv_at hl 0 rfl) ?_
    refine gX4_5 E hw mw_3_13 dX4_restore_13 ?_
    refine lv_iload_n E.1 E.2.1 dX4_restore_16 rfl (lv_at hl 1 rfl) ?_
    refine lX4_4 E hw (by omega) dX4_restore_17 ?_
    refine lv_eqi (y := nI (1)) (h) ?_
    refine lv_if_neN (tgt := 24) E.1 E.2.1 (by omega) dX4_restore_18 (by decide) (fun c18 => ?_) (fun c18 => ?_)
    · skip
      refine lv_aload_n E.1 E.2.1 dX4_restore_24 rfl (lv_at hl 0 rfl) ?_
      refine callVV E (c_X4_record l G a (N) (x) u T hu hT hu6) mw_5_16 YX4_record ⟨rfl, rfl⟩ ⟨Nat.le_of_ble_eq_true rfl, Nat.le_of_ble_eq_true rfl⟩ ⟨Nat.zero_le _, Nat.zero_le _⟩ hw 0 rfl rfl rfl hl rfl (Nat.le_of_ble_eq_true rfl) dX4_restore_25 (fun H locs hw => ?_)
      refine lv_iconst (v := nI 0) E.1 E.2.1 dX4_restore_28 (by decide) ?_
      refine lv_istore_n (lv' := [(2, .int (nI (0))), (0, .ref (a 0)), (1, .int (nI (s)))]) E.1 E.2.1 dX4_restore_29 rfl hl (by decide) rfl (fun ls hl => ?_)
      refine W_ind1 (nL := 3) (P := fun k => k ≤ 390) (μ := fun k => 390 - k) (I := fun k => mN G a (cpN k K N) (rcd u N x)) (L := fun k => [(0, .ref (a 0)), (1, .int (nI (s))), (2, .int (nI (k)))]) ?_ (0) (Nat.zero_le _) (HB.eq hw (by rw [cpN_0])) (lvh_eq (l := [(0, .ref (a 0)), (1, .int (nI (s))), (2, .int (nI (0)))]) (lv_sub hl [1, 2, 0] rfl) (rfl))
      intro k hP ih H locs ls hw hl
      replace hw : HB G AA sS.heap (mN G a (cpN k K N) (rcd u N x)) H locs := hw
      replace hl : lv_has ls 3 [(0, .ref (a 0)), (1, .int (nI (s))), (2, .int (nI (k)))] := hl
      refine lv_iload_n E.1 E.2.1 dX4_restore_30 rfl (lv_at hl 2 rfl) ?_
      refine lv_sipush (v := nI 390) E.1 E.2.1 dX4_restore_31 (by decide) ?_
      refine lv_icmp_geN (tgt := 61) E.1 E.2.1 (by omega) (by omega) dX4_restore_34 (by decide) (fun c34 => ?_) (fun c34 => ?_)
      · skip
        replace hw := hw.mcongr (M := K) (fun j hj => if_pos (by omega))
        refine lv_aload_n E.1 E.2.1 dX4_restore_61 rfl (lv_at hl 0 rfl) ?_
        refine gX4_0 E hw mw_3_8 dX4_restore_62 ?_
        refine lv_iconst (v := nI 4) E.1 E.2.1 dX4_restore_65 (by decide) ?_
        refine lN4_0 E hw (v := K 4) (by omega) (rfl) dX4_restore_66 ?_
        exact rI E hr hlk (HB.eq hw (rfl)) (rfl) dX4_restore_67
      · skip
        refine lv_aload_n E.1 E.2.1 dX4_restore_37 rfl (lv_at hl 0 rfl) ?_
        refine gX4_0 E hw mw_3_8 dX4_restore_38 ?_
        refine lv_iload_n E.1 E.2.1 dX4_restore_41 rfl (lv_at hl 2 rfl) ?_
        refine lv_aload_n E.1 E.2.1 dX4_restore_42 rfl (lv_at hl 0 rfl) ?_
        refine gX4_4 E hw mw_3_11 dX4_restore_43 ?_
        refine lv_iload_n E.1 E.2.1 dX4_restore_46 rfl (lv_at hl 1 rfl) ?_
        refine lv_sipush (v := nI 390) E.1 E.2.1 dX4_restore_47 (by decide) ?_
        refine lv_mulN E.1 E.2.1 dX4_restore_50 ?_
        refine lv_iload_n E.1 E.2.1 dX4_restore_51 rfl (lv_at hl 2 rfl) ?_
        refine lv_addN E.1 E.2.1 dX4_restore_52 ?_
        refine lX4_3 E hw (by omega) dX4_restore_53 ?_
        refine lv_eqi (y := nI (K k)) (by rw [rcd_2 (by decide)]; exact hK k (by omega)) ?_
        refine sN4_0 E hw (by omega) dX4_restore_54 (fun H locs hw => ?_)
        refine lv_iincN (k := 2) (lv' := [(2, .int (nI (k + 1))), (0, .ref (a 0)), (1, .int (nI (s)))]) E.1 E.2.1 dX4_restore_55 hl rfl (by decide) rfl (fun ls hl => ?_)
        refine lv_goto (tgt := 30) E.1 E.2.1 dX4_restore_58 (by decide) ?_
        exact ih (k + 1) (by omega) (by omega) _ _ _ (HB.eq hw (by rw [cpN_s])) (lvh_eq (l := [(0, .ref (a 0)), (1, .int (nI (s))), (2, .int (nI (k + 1)))]) (lv_sub hl [1, 2, 0] rfl) (rfl))
    · exact absurd c18 (by decide)
  · exact absurd (inN (by omega) (by omega) (by decide)) c6
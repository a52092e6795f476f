theorem YL_isOpened : YS yL_isOpened RL cL_isOpened 5 (some .boolean) 2 := ⟨mn_3_6, mn_3_2, mn_3_7, by decide +kernel⟩
set_option maxHeartbeats 4000000 in
set_option maxRecDepth 100000 in
theorem c_L_isOpened_no (l : Launch) (G : GP) (b : Nat → Nat) (ad : Nat → Nat → Nat) (v pd rv : Nat → Int32) (Ns : Nat → NS) (hcv : CV v) (hI : Inv (Ns 0)) (hDV : dvI (Ns 0) 5 = Ns 0 7) (hV : VI (Ns 0)) (S : Nat) (hS : 1 ≤ S ∧ S < 16) (hq : Ns 0 5 = 8 ∨ Ns 0 14 = 1) : MU l yL_isOpened (.code yL_isOpened cL_isOpened 5 (some .boolean) :: GW) ({ frames := 6, cells := 0, slots := 0, locals := 160 }) [.ref (b 0), .int (nI (S))] G (ES) (cW G b ad v pd rv Ns) (fun u : (Nat → Int32) × (Nat → NS) => cW G b ad u.1 pd rv u.2) (fun u => CV u.1 ∧ u.2 0 = nOpen S (Ns 0)) := by
  refine MU.of (own := RL) rfl rfl (Nat.le_of_ble_eq_true rfl) ?_
  intro pP eE sS mM below meth cC ls AA E hw hl hr hlk hE
  replace hl : lv_has ls 5 [(0, .ref (b 0)), (1, .int (nI (S)))] := hl
  have hF := hI.1
  have hm := hI.hm
  have h5 := hF.2.1
  have h6 := hF.1
  obtain ⟨nx, u, hx0, hnx, hu0, hu6⟩ := id hcv
  have hN : nOpen S (Ns 0) = Ns 0 := if_pos hq
  have hf : rOpen (Ns 0) < 0 := by
    unfold rOpen
    rcases hq with z | z
    · rw [if_pos z]; decide
    · by_cases q : Ns 0 5 = 8
      · rw [if_pos q]; decide
      · rw [if_neg q, if_pos z]; decide
  refine lv_aload_n E.1 E.2.1 dL_isOpened_0 rfl (lv_at hl 0 rfl) ?_
  refine lv_iconst (v := nI 1) E.1 E.2.1 dL_isOpened_1 (by decide) ?_
  refine callVIp E (c_X3_count_ok l G b ad v pd rv Ns 1 (by decide) (by decide) (by decide) hF hDV) ES.eb (fun _ _ _ => trivial) mn_3_8 YX3_count ⟨rfl, rfl⟩ ⟨Nat.le_of_ble_eq_true rfl, Nat.le_of_ble_eq_true rfl⟩ ⟨Nat.le_of_ble_eq_true rfl, Nat.le_of_ble_eq_true rfl⟩ hw (rr := []) (big' := cW G b ad v pd rv Ns) (by rw [List.append_nil]) (by rw [List.append_nil]) 0 rfl rfl rfl hl rfl (Nat.le_of_ble_eq_true rfl) dL_isOpened_2 (fun H locs hw => ?_)
  refine lv_eqi (y := nI (Ns 0 5)) (rfl) ?_
  refine lv_istore_n (lv' := [(2, .int (nI (Ns 0 5))), (0, .ref (b 0)), (1, .int (nI (S)))]) E.1 E.2.1 dL_isOpened_5 rfl hl (by decide) rfl (fun ls hl => ?_)
  refine lv_aload_n E.1 E.2.1 dL_isOpened_6 rfl (lv_at hl 1 rfl) ?_
  refine lv_iconst (v := nI 2) E.1 E.2.1 dL_isOpened_7 (by decide) ?_
  refine callVIp E (c_X3_count_ok l G b ad v pd rv Ns 2 (by decide) (by decide) (by decide) hF hDV) ES.eb (fun _ _ _ => trivial) mn_3_8 YX3_count ⟨rfl, rfl⟩ ⟨Nat.le_of_ble_eq_true rfl, Nat.le_of_ble_eq_true rfl⟩ ⟨Nat.le_of_ble_eq_true rfl, Nat.le_of_ble_eq_true rfl⟩ hw (rr := []) (big' := cW G b ad v pd rv Ns) (by rw [List.append_nil]) (by rw [List.append_nil]) 0 rfl rfl rfl hl rfl (Nat.le_of_ble_eq_true rfl) dL_isOpened_8 (fun H locs hw => ?_)
  refine lv_eqi (y := nI (Ns 0 6)) (rfl) ?_
  refine lv_istore_n (lv' := [(3, .int (nI (Ns 0 6))), (2, .int (nI (Ns 0 5))), (0, .ref (b 0)), (1, .int (nI (S)))]) E.1 E.2.1 dL_isOpened_11 rfl hl (by decide) rfl (fun ls hl => ?_)
  refine lv_aload_n E.1 E.2.1 dL_isOpened_12 rfl (lv_at hl 2 rfl) ?_
  refine lv_iload_n E.1 E.2.1 dL_isOpened_13 rfl (lv_at hl 3 rfl) ?_
  refine callVIp E (c_X3_open_no l G b ad v pd rv Ns nx u hx0 hnx hu0 hu6 S hS hI hf) ES.eb (fun _ _ _ => trivial) mn_4_10 YX3_open ⟨rfl, rfl⟩ ⟨Nat.le_of_ble_eq_true rfl, Nat.le_of_ble_eq_true rfl⟩ ⟨Nat.le_of_ble_eq_true rfl, Nat.le_of_ble_eq_true rfl⟩ hw (rr := []) (big' := cW G b ad v pd rv (va_up (va_up (Ns) (2 + nx) (Ns 0)) 0 (nOpen S (Ns 0)))) (by rw [List.append_nil]) (by rw [List.append_nil]) 0 rfl rfl rfl hl rfl (Nat.le_of_ble_eq_true rfl) dL_isOpened_14 (fun H locs hw => ?_)
  obtain ⟨Ms, vs, e0, hcv2, hw⟩ : ∃ (Ms : Nat → NS) (vs : Nat → Int32), Ms 0 = nOpen S (Ns 0) ∧ CV vs ∧ HB G AA sS.heap (cW G b ad vs pd rv Ms) H locs := ⟨_, _, va_up_self _ _ _, hcv, hw⟩
  have hI2 : Inv (Ms 0) := by rw [e0]; exact (by rw [hN]; exact hI)
  have hDV2 : dvI (Ms 0) 5 = Ms 0 7 := by rw [e0]; exact (by rw [hN]; exact hDV)
  have hF2 := hI2.1
  have hm2 := hI2.hm
  have e1 : Ms 0 = Ns 0 := e0.trans hN
  refine lv_istore (lv' := [(4, .int (rOpen (Ns 0))), (3, .int (nI (Ns 0 6))), (2, .int (nI (Ns 0 5))), (0, .ref (b 0)), (1, .int (nI (S)))]) E.1 E.2.1 dL_isOpened_17 hl (by decide) rfl (fun ls hl => ?_)
  refine lv_iload_n E.1 E.2.1 dL_isOpened_19 rfl (lv_at hl 2 rfl) ?_
  refine lv_bipush (v := nI 8) E.1 E.2.1 dL_isOpened_20 (by decide) ?_
  refine lv_icmp_eqN (tgt := 35) E.1 E.2.1 (by omega) (by omega) dL_isOpened_22 (by decide) (fun c22 => ?_) (fun c22 => ?_)
  · skip
    refine lv_iload E.1 E.2.1 dL_isOpened_35 (lv_at hl 0 rfl) ?_
    refine W_join0 (G := G) (A := AA) (H0 := sS.heap) (nL := 5) 50 (True) (cW G b ad vs pd rv Ms) ([(4, .int (rOpen (Ns 0))), (3, .int (nI (Ns 0 6))), (2, .int (nI (Ns 0 5))), (0, .ref (b 0)), (1, .int (nI (S)))]) ([.int (rOpen (Ns 0)), .int (rOpen (Ns 0))]) (fun jk37 => ?_) ?_
    · skip
      refine lv_iload_n E.1 E.2.1 dL_isOpened_37 rfl (lv_at hl 2 rfl) ?_
      refine lv_bipush (v := nI 8) E.1 E.2.1 dL_isOpened_38 (by decide) ?_
      refine lv_icmp_neN (tgt := 48) E.1 E.2.1 (by omega) (by omega) dL_isOpened_40 (by decide) (fun c40 => ?_) (fun c40 => ?_)
      · skip
        refine lv_bipush (v := -5) E.1 E.2.1 dL_isOpened_48 (by decide) ?_
        refine lv_eqi (y := rOpen (Ns 0)) (by rw [rOpen, if_neg c40, if_pos (hq.resolve_left c40)]) ?_
        exact jk37  (trivial) _ _ _ (HB.eq hw (rfl)) (lvh_eq (l := [(4, .int (rOpen (Ns 0))), (3, .int (nI (Ns 0 6))), (2, .int (nI (Ns 0 5))), (0, .ref (b 0)), (1, .int (nI (S)))]) (lv_sub hl [0, 1, 2, 3, 4] rfl) (rfl))
      · skip
        refine lv_bipush (v := -4) E.1 E.2.1 dL_isOpened_43 (by decide) ?_
        refine lv_goto (tgt := 50) E.1 E.2.1 dL_isOpened_45 (by decide) ?_
        refine lv_eqi (y := rOpen (Ns 0)) (by rw [rOpen, if_pos c40]) ?_
        exact jk37  (trivial) _ _ _ (HB.eq hw (rfl)) (lvh_eq (l := [(4, .int (rOpen (Ns 0))), (3, .int (nI (Ns 0 6))), (2, .int (nI (Ns 0 5))), (0, .ref (b 0)), (1, .int (nI (S)))]) (lv_sub hl [0, 1, 2, 3, 4] rfl) (rfl))
    · intro  hP37 H locs ls hw hl
      replace hw : HB G AA sS.heap (cW G b ad vs pd rv Ms) H locs := hw
      replace hl : lv_has ls 5 [(4, .int (rOpen (Ns 0))), (3, .int (nI (Ns 0 6))), (2, .int (nI (Ns 0 5))), (0, .ref (b 0)), (1, .int (nI (S)))] := hl
      show W _ _ _ _ _ _ _ _ _ _ _ _ _ _ _ (F0 mM 50 ls [.int (rOpen (Ns 0)), .int (rOpen (Ns 0))])
      refine lv_icmp_ne (tgt := 75) E.1 E.2.1 dL_isOpened_50 (by decide) (fun c50 => ?_) (fun c50 => ?_)
      · exact absurd rfl c50
      · skip
        have e5 : Ms 0 5 = Ns 0 5 := by rw [e1]
        have e6 : Ms 0 6 = Ns 0 6 := by rw [e1]
        refine lv_aload_n E.1 E.2.1 dL_isOpened_53 rfl (lv_at hl 3 rfl) ?_
        refine lv_iconst (v := nI 1) E.1 E.2.1 dL_isOpened_54 (by decide) ?_
        refine callVIp E (c_X3_count_ok l G b ad vs pd rv Ms 1 (by decide) (by decide) (by decide) hF2 hDV2) ES.eb (fun _ _ _ => trivial) mn_3_8 YX3_count ⟨rfl, rfl⟩ ⟨Nat.le_of_ble_eq_true rfl, Nat.le_of_ble_eq_true rfl⟩ ⟨Nat.le_of_ble_eq_true rfl, Nat.le_of_ble_eq_true rfl⟩ hw (rr := []) (big' := cW G b ad vs pd rv Ms) (by rw [List.append_nil]) (by rw [List.append_nil]) 0 rfl rfl rfl hl rfl (Nat.le_of_ble_eq_true rfl) dL_isOpened_55 (fun H locs hw => ?_)
        refine lv_eqi (y := nI (Ms 0 5)) (rfl) ?_
        refine lv_iload_n E.1 E.2.1 dL_isOpened_58 rfl (lv_at hl 2 rfl) ?_
        refine lv_icmp_neN (tgt := 75) E.1 E.2.1 (by omega) (by omega) dL_isOpened_59 (by decide) (fun c59 => ?_) (fun c59 => ?_)
        · exact absurd (by rw [e1]) c59
        · skip
          refine lv_aload_n E.1 E.2.1 dL_isOpened_62 rfl (lv_at hl 3 rfl) ?_
          refine lv_iconst (v := nI 2) E.1 E.2.1 dL_isOpened_63 (by decide) ?_
          refine callVIp E (c_X3_count_ok l G b ad vs pd rv Ms 2 (by decide) (by decide) (by decide) hF2 hDV2) ES.eb (fun _ _ _ => trivial) mn_3_8 YX3_count ⟨rfl, rfl⟩ ⟨Nat.le_of_ble_eq_true rfl, Nat.le_of_ble_eq_true rfl⟩ ⟨Nat.le_of_ble_eq_true rfl, Nat.le_of_ble_eq_true rfl⟩ hw (rr := []) (big' := cW G b ad vs pd rv Ms) (by rw [List.append_nil]) (by rw [List.append_nil]) 0 rfl rfl rfl hl rfl (Nat.le_of_ble_eq_true rfl) dL_isOpened_64 (fun H locs hw => ?_)
          refine lv_eqi (y := nI (Ms 0 6)) (rfl) ?_
          refine lv_iload_n E.1 E.2.1 dL_isOpened_67 rfl (lv_at hl 1 rfl) ?_
          refine lv_icmp_neN (tgt := 75) E.1 E.2.1 (by omega) (by omega) dL_isOpened_68 (by decide) (fun c68 => ?_) (fun c68 => ?_)
          · exact absurd (by rw [e1]) c68
          · skip
            refine lv_iconst (v := nI 1) E.1 E.2.1 dL_isOpened_71 (by decide) ?_
            refine lv_goto (tgt := 76) E.1 E.2.1 dL_isOpened_72 (by decide) ?_
            refine W.widen (k := 0) (n := 0) (Nat.le_of_ble_eq_true rfl) (Nat.le_of_ble_eq_true rfl) ?_
            exact rU E hr hlk (vs, Ms) (⟨hcv2, e0⟩) (HB.eq hw (rfl)) dL_isOpened_76
  · skip
    have e5 : Ms 0 5 = Ns 0 5 := by rw [e1]
    refine lv_aload_n E.1 E.2.1 dL_isOpened_25 rfl (lv_at hl 3 rfl) ?_
    refine lv_iconst (v := nI 4) E.1 E.2.1 dL_isOpened_26 (by decide) ?_
    refine lv_iconst (v := nI 0) E.1 E.2.1 dL_isOpened_27 (by decide) ?_
    have i4 : Ms 0 14 ≤ 1 := hF2.il (w := 4) (by omega)
    refine callVIp E (c_X3_who_ok l G b ad vs pd rv Ms 4 0 (by decide) (by decide) hF2 hm2) ES.eb (fun _ _ _ => trivial) mn_6_14 YX3_who ⟨rfl, rfl⟩ ⟨Nat.le_of_ble_eq_true rfl, Nat.le_of_ble_eq_true rfl⟩ ⟨Nat.le_of_ble_eq_true rfl, Nat.le_of_ble_eq_true rfl⟩ hw (rr := []) (big' := cW G b ad vs pd rv Ms) (by rw [List.append_nil]) (by rw [List.append_nil]) 0 rfl rfl rfl hl rfl (Nat.le_of_ble_eq_true rfl) dL_isOpened_28 (fun H locs hw => ?_)
    refine lv_eqi (y := nI (Ms 0 14)) (rfl) ?_
    refine lv_iconst (v := nI 1) E.1 E.2.1 dL_isOpened_31 (by decide) ?_
    refine lv_icmp_neN (tgt := 77) E.1 E.2.1 (by omega) (by omega) dL_isOpened_32 (by decide) (fun c32 => ?_) (fun c32 => ?_)
    · exact absurd (show Ms 0 14 = 1 by rw [e1]; exact hq.resolve_left c22) c32
    · skip
      refine lv_iload E.1 E.2.1 dL_isOpened_35 (lv_at hl 0 rfl) ?_
      refine W_join0 (G := G) (A := AA) (H0 := sS.heap) (nL := 5) 50 (True) (cW G b ad vs pd rv Ms) ([(4, .int (rOpen (Ns 0))), (3, .int (nI (Ns 0 6))), (2, .int (nI (Ns 0 5))), (0, .ref (b 0)), (1, .int (nI (S)))]) ([.int (rOpen (Ns 0)), .int (rOpen (Ns 0))]) (fun jk37 => ?_) ?_
      · skip
        refine lv_iload_n E.1 E.2.1 dL_isOpened_37 rfl (lv_at hl 2 rfl) ?_
        refine lv_bipush (v := nI 8) E.1 E.2.1 dL_isOpened_38 (by decide) ?_
        refine lv_icmp_neN (tgt := 48) E.1 E.2.1 (by omega) (by omega) dL_isOpened_40 (by decide) (fun c40 => ?_) (fun c40 => ?_)
        · skip
          refine lv_bipush (v := -5) E.1 E.2.1 dL_isOpened_48 (by decide) ?_
          refine lv_eqi (y := rOpen (Ns 0)) (by rw [rOpen, if_neg c40, if_pos (hq.resolve_left c40)]) ?_
          exact jk37  (trivial) _ _ _ (HB.eq hw (rfl)) (lvh_eq (l := [(4, .int (rOpen (Ns 0))), (3, .int (nI (Ns 0 6))), (2, .int (nI (Ns 0 5))), (0, .ref (b 0)), (1, .int (nI (S)))]) (lv_sub hl [0, 1, 2, 3, 4] rfl) (rfl))
        · skip
          refine lv_bipush (v := -4) E.1 E.2.1 dL_isOpened_43 (by decide) ?_
          refine lv_goto (tgt := 50) E.1 E.2.1 dL_isOpened_45 (by decide) ?_
          refine lv_eqi (y := rOpen (Ns 0)) (by rw [rOpen, if_pos c40]) ?_
          exact jk37  (trivial) _ _ _ (HB.eq hw (rfl)) (lvh_eq (l := [(4, .int (rOpen (Ns 0))), (3, .int (nI (Ns 0 6))), (2, .int (nI (Ns 0 5))), (0, .ref (b 0)), (1, .int (nI (S)))]) (lv_sub hl [0, 1, 2, 3, 4] rfl) (rfl))
      · intro  hP37 H locs ls hw hl
        replace hw : HB G AA sS.heap (cW G b ad vs pd rv Ms) H locs := hw
        replace hl : lv_has ls 5 [(4, .int (rOpen (Ns 0))), (3, .int (nI (Ns 0 6))), (2, .int (nI (Ns 0 5))), (0, .ref (b 0)), (1, .int (nI (S)))] := hl
        show W _ _ _ _ _ _ _ _ _ _ _ _ _ _ _ (F0 mM 50 ls [.int (rOpen (Ns 0)), .int (rOpen (Ns 0))])
        refine lv_icmp_ne (tgt := 75) E.1 E.2.1 dL_isOpened_50 (by decide) (fun c50 => ?_) (fun c50 => ?_)
        · exact absurd rfl c50
        · skip
          have e5 : Ms 0 5 = Ns 0 5 := by rw [e1]
          have e6 : Ms 0 6 = Ns 0 6 := by rw [e1]
          refine lv_aload_n E.1 E.2.1 dL_isOpened_53 rfl (lv_at hl 3 rfl) ?_
          refine lv_iconst (v := nI 1) E.1 E.2.1 dL_isOpened_54 (by decide) ?_
          refine callVIp E (c_X3_count_ok l G b ad vs pd rv Ms 1 (by decide) (by decide) (by decide) hF2 hDV2) ES.eb (fun _ _ _ => trivial) mn_3_8 YX3_count ⟨rfl, rfl⟩ ⟨Nat.le_of_ble_eq_true rfl, Nat.le_of_ble_eq_true rfl⟩ ⟨Nat.le_of_ble_eq_true rfl, Nat.le_of_ble_eq_true rfl⟩ hw (rr := []) (big' := cW G b ad vs pd rv Ms) (by rw [List.append_nil]) (by rw [List.append_nil]) 0 rfl rfl rfl hl rfl (Nat.le_of_ble_eq_true rfl) dL_isOpened_55 (fun H locs hw => ?_)
          refine lv_eqi (y := nI (Ms 0 5)) (rfl) ?_
          refine lv_iload_n E.1 E.2.1 dL_isOpened_58 rfl (lv_at hl 2 rfl) ?_
          refine lv_icmp_neN (tgt := 75) E.1 E.2.1 (by omega) (by omega) dL_isOpened_59 (by decide) (fun c59 => ?_) (fun c59 => ?_)
          · exact absurd (by rw [e1]) c59
          · skip
            refine lv_aload_n E.1 E.2.1 dL_isOpened_62 rfl (lv_at hl 3 rfl) ?_
            refine lv_iconst (v := nI 2) E.1 E.2.1 dL_isOpened_63 (by decide) ?_
            refine callVIp E (c_X3_count_ok l G b ad vs pd rv Ms 2 (by decide) (by decide) (by decide) hF2 hDV2) ES.eb (fun _ _ _ => trivial) mn_3_8 YX3_count ⟨rfl, rfl⟩ ⟨Nat.le_of_ble_eq_true rfl, Nat.le_of_ble_eq_true rfl⟩ ⟨Nat.le_of_ble_eq_true rfl, Nat.le_of_ble_eq_true rfl⟩ hw (rr := []) (big' := cW G b ad vs pd rv Ms) (by rw [List.append_nil]) (by rw [List.append_nil]) 0 rfl rfl rfl hl rfl (Nat.le_of_ble_eq_true rfl) dL_isOpened_64 (fun H locs hw => ?_)
            refine lv_eqi (y := nI (Ms 0 6)) (rfl) ?_
            refine lv_iload_n E.1 E.2.1 dL_isOpened_67 rfl (lv_at hl 1 rfl) ?_
            refine lv_icmp_neN (tgt := 75) E.1 E.2.1 (by omega) (by omega) dL_isOpened_68 (by decide) (fun c68 => ?_) (fun c68 => ?_)
            · exact absurd (by rw [e1]) c68
            · skip
              refine lv_iconst (v := nI 1) E.1 E.2.1 dL_isOpened_71 (by decide) ?_
              refine lv_goto (tgt := 76) E.1 E.2.1 dL_isOpened_72 (by decide) ?_
              refine W.widen (k := 0) (n := 0) (Nat.le_of_ble_eq_true rfl) (Nat.le_of_ble_eq_true rfl) ?_
              exact rU E hr hlk (vs, Ms) (⟨hcv2, e0⟩) (HB.eq hw (rfl)) dL_isOpened_76
set_option maxHeartbeats 4000000 in
set_option maxRecDepth 100000 in
theorem c_L_isOpened_ok (l : Launch) (G : GP) (b : Nat → Nat) (ad : Nat → Nat → Nat) (v pd rv : Nat → Int32) (Ns : Nat → NS) (hcv : CV v) (hI : Inv (Ns 0)) (hDV : dvI (Ns 0) 5 = Ns 0 7) (hV : VI (Ns 0)) (S : Nat) (hS : 1 ≤ S ∧ S < 16) (hq : ¬ (Ns 0 5 = 8 ∨ Ns 0 14 = 1)) : MU l yL_isOpened (.code yL_isOpened cL_isOpened 5 (some .boolean) :: GW) ({ frames := 6, cells := 0, slots := 0, locals := 160 }) [.ref (b 0), .int (nI (S))] G (ES) (cW G b ad v pd rv Ns) (fun u : (Nat → Int32) × (Nat → NS) => cW G b ad u.1 pd rv u.2) (fun u => CV u.1 ∧ u.2 0 = nOpen S (Ns 0)) := by
  refine MU.of (own := RL) rfl rfl (Nat.le_of_ble_eq_true rfl) ?_
  intro pP eE sS mM below meth cC ls AA E hw hl hr hlk hE
  replace hl : lv_has ls 5 [(0, .ref (b 0)), (1, .int (nI (S)))] := hl
  have hF := hI.1
  have hm := hI.hm
  have h5 := hF.2.1
  have h6 := hF.1
  obtain ⟨nx, u, hx0, hnx, hu0, hu6⟩ := id hcv
  have hN : nOpen S (Ns 0) = mOpen S (Ns 0) := if_neg hq
  have hr0 : rOpen (Ns 0) = nI (Ns 0 5) := by rw [rOpen, if_neg (fun z => hq (Or.inl z)), if_neg (fun z => hq (Or.inr z))]
  have hf : ¬ rOpen (Ns 0) < 0 := by rw [hr0]; exact nI_pos (by omega)
  obtain ⟨g5, g0, g1, g2, g4, gc, gs⟩ := opn_f hI hV (S := S) (by omega) (fun z => hq (Or.inl z))
  refine lv_aload_n E.1 E.2.1 dL_isOpened_0 rfl (lv_at hl 0 rfl) ?_
  refine lv_iconst (v := nI 1) E.1 E.2.1 dL_isOpened_1 (by decide) ?_
  refine callVIp E (c_X3_count_ok l G b ad v pd rv Ns 1 (by decide) (by decide) (by decide) hF hDV) ES.eb (fun _ _ _ => trivial) mn_3_8 YX3_count ⟨rfl, rfl⟩ ⟨Nat.le_of_ble_eq_true rfl, Nat.le_of_ble_eq_true rfl⟩ ⟨Nat.le_of_ble_eq_true rfl, Nat.le_of_ble_eq_true rfl⟩ hw (rr := []) (big' := cW G b ad v pd rv Ns) (by rw [List.append_nil]) (by rw [List.append_nil]) 0 rfl rfl rfl hl rfl (Nat.le_of_ble_eq_true rfl) dL_isOpened_2 (fun H locs hw => ?_)
  refine lv_eqi (y := nI (Ns 0 5)) (rfl) ?_
  refine lv_istore_n (lv' := [(2, .int (nI (Ns 0 5))), (0, .ref (b 0)), (1, .int (nI (S)))]) E.1 E.2.1 dL_isOpened_5 rfl hl (by decide) rfl (fun ls hl => ?_)
  refine lv_aload_n E.1 E.2.1 dL_isOpened_6 rfl (lv_at hl 1 rfl) ?_
  refine lv_iconst (v := nI 2) E.1 E.2.1 dL_isOpened_7 (by decide) ?_
  refine callVIp E (c_X3_count_ok l G b ad v pd rv Ns 2 (by decide) (by decide) (by decide) hF hDV) ES.eb (fun _ _ _ => trivial) mn_3_8 YX3_count ⟨rfl, rfl⟩ ⟨Nat.le_of_ble_eq_true rfl, Nat.le_of_ble_eq_true rfl⟩ ⟨Nat.le_of_ble_eq_true rfl, Nat.le_of_ble_eq_true rfl⟩ hw (rr := []) (big' := cW G b ad v pd rv Ns) (by rw [List.append_nil]) (by rw [List.append_nil]) 0 rfl rfl rfl hl rfl (Nat.le_of_ble_eq_true rfl) dL_isOpened_8 (fun H locs hw => ?_)
  refine lv_eqi (y := nI (Ns 0 6)) (rfl) ?_
  refine lv_istore_n (lv' := [(3, .int (nI (Ns 0 6))), (2, .int (nI (Ns 0 5))), (0, .ref (b 0)), (1, .int (nI (S)))]) E.1 E.2.1 dL_isOpened_11 rfl hl (by decide) rfl (fun ls hl => ?_)
  refine lv_aload_n E.1 E.2.1 dL_isOpened_12 rfl (lv_at hl 2 rfl) ?_
  refine lv_iload_n E.1 E.2.1 dL_isOpened_13 rfl (lv_at hl 3 rfl) ?_
  refine callVIp E (c_X3_open_ok l G b ad v pd rv Ns nx u hx0 hnx hu0 hu6 S hS hI hf) ES.eb (fun _ _ _ => trivial) mn_4_10 YX3_open ⟨rfl, rfl⟩ ⟨Nat.le_of_ble_eq_true rfl, Nat.le_of_ble_eq_true rfl⟩ ⟨Nat.le_of_ble_eq_true rfl, Nat.le_of_ble_eq_true rfl⟩ hw (rr := []) (big' := cW G b ad (recV nx u v) pd rv (va_up (va_up (Ns) (2 + nx) (Ns 0)) 0 (nOpen S (Ns 0)))) (by rw [List.append_nil]) (by rw [List.append_nil]) 0 rfl rfl rfl hl rfl (Nat.le_of_ble_eq_true rfl) dL_isOpened_14 (fun H locs hw => ?_)
  refine lv_eqi (y := nI (Ns 0 5)) (hr0) ?_
  obtain ⟨Ms, vs, e0, hcv2, hw⟩ : ∃ (Ms : Nat → NS) (vs : Nat → Int32), Ms 0 = nOpen S (Ns 0) ∧ CV vs ∧ HB G AA sS.heap (cW G b ad vs pd rv Ms) H locs := ⟨_, _, va_up_self _ _ _, CV.rec hnx hu6, hw⟩
  have hI2 : Inv (Ms 0) := by rw [e0]; exact (by rw [hN]; exact hI.opn (by omega) (fun z => hq (Or.inl z)))
  have hDV2 : dvI (Ms 0) 5 = Ms 0 7 := by rw [e0]; exact (DV.opn hDV).1
  have hF2 := hI2.1
  have hm2 := hI2.hm
  have e1 : Ms 0 = mOpen S (Ns 0) := e0.trans hN
  have e5 : Ms 0 5 = Ns 0 5 + 1 := by rw [e1]; exact g5
  have e10 : Ms 0 (30 + 14 * Ns 0 5 + 0) = S := by rw [e1]; exact g0
  have e11 : Ms 0 (30 + 14 * Ns 0 5 + 1) = 0 := by rw [e1]; exact g1
  have e12 : Ms 0 (30 + 14 * Ns 0 5 + 2) = Ns 0 4 := by rw [e1]; exact g2
  have e14 : Ms 0 4 = Ns 0 4 := by rw [e1]; exact g4
  have e15 : cOf (Ns 0 5) 0 (Ms 0) = S := by rw [e1]; exact gc
  have e16 : snt2 (Ms 0) (Ns 0 6) 0 (Ns 0 5) 4 S := by rw [e1]; exact gs
  have i4 : Ms 0 14 ≤ 1 := hF2.il (w := 4) (by omega)
  have e17 : Ms 0 14 = Ns 0 14 := by rw [e1]; unfold mOpen; rw [sa_n (by decide) (by rw [un_n (by omega), un_n (by omega), un_n (by omega)]; exact h6) (by decide) (by decide) (by omega) 4, un_n (by omega), un_n (by omega), un_n (by omega)]
  have hpp := pcn_pos (S := S) (by omega) (by omega)
  have hp4 := pcn_le (S := S) 4
  refine lv_istore (lv' := [(4, .int (nI (Ns 0 5))), (3, .int (nI (Ns 0 6))), (2, .int (nI (Ns 0 5))), (0, .ref (b 0)), (1, .int (nI (S)))]) E.1 E.2.1 dL_isOpened_17 hl (by decide) rfl (fun ls hl => ?_)
  refine lv_iload_n E.1 E.2.1 dL_isOpened_19 rfl (lv_at hl 2 rfl) ?_
  refine lv_bipush (v := nI 8) E.1 E.2.1 dL_isOpened_20 (by decide) ?_
  refine lv_icmp_eqN (tgt := 35) E.1 E.2.1 (by omega) (by omega) dL_isOpened_22 (by decide) (fun c22 => ?_) (fun c22 => ?_)
  · exact absurd (Or.inl c22) hq
  · skip
    refine lv_aload_n E.1 E.2.1 dL_isOpened_25 rfl (lv_at hl 3 rfl) ?_
    refine lv_iconst (v := nI 4) E.1 E.2.1 dL_isOpened_26 (by decide) ?_
    refine lv_iconst (v := nI 0) E.1 E.2.1 dL_isOpened_27 (by decide) ?_
    refine callVIp E (c_X3_who_ok l G b ad vs pd rv Ms 4 0 (by decide) (by decide) hF2 hm2) ES.eb (fun _ _ _ => trivial) mn_6_14 YX3_who ⟨rfl, rfl⟩ ⟨Nat.le_of_ble_eq_true rfl, Nat.le_of_ble_eq_true rfl⟩ ⟨Nat.le_of_ble_eq_true rfl, Nat.le_of_ble_eq_true rfl⟩ hw (rr := []) (big' := cW G b ad vs pd rv Ms) (by rw [List.append_nil]) (by rw [List.append_nil]) 0 rfl rfl rfl hl rfl (Nat.le_of_ble_eq_true rfl) dL_isOpened_28 (fun H locs hw => ?_)
    refine lv_eqi (y := nI (Ms 0 14)) (rfl) ?_
    refine lv_iconst (v := nI 1) E.1 E.2.1 dL_isOpened_31 (by decide) ?_
    refine lv_icmp_neN (tgt := 77) E.1 E.2.1 (by omega) (by omega) dL_isOpened_32 (by decide) (fun c32 => ?_) (fun c32 => ?_)
    · skip
      refine lv_iload E.1 E.2.1 dL_isOpened_77 (lv_at hl 0 rfl) ?_
      refine lv_iload_n E.1 E.2.1 dL_isOpened_79 rfl (lv_at hl 2 rfl) ?_
      refine lv_icmp_neN (tgt := 142) E.1 E.2.1 (by omega) (by omega) dL_isOpened_80 (by decide) (fun c80 => ?_) (fun c80 => ?_)
      · exact absurd rfl c80
      · skip
        refine lv_aload_n E.1 E.2.1 dL_isOpened_83 rfl (lv_at hl 3 rfl) ?_
        refine lv_iload_n E.1 E.2.1 dL_isOpened_84 rfl (lv_at hl 2 rfl) ?_
        refine lv_iconst (v := nI 0) E.1 E.2.1 dL_isOpened_85 (by decide) ?_
        refine callVIp E (c_X3_ofDeal_ok l G b ad vs pd rv Ms (Ns 0 5) (by omega) hF2 0 (by decide)) ES.eb (fun _ _ _ => trivial) mn_7_11 YX3_ofDeal ⟨rfl, rfl⟩ ⟨Nat.le_of_ble_eq_true rfl, Nat.le_of_ble_eq_true rfl⟩ ⟨Nat.le_of_ble_eq_true rfl, Nat.le_of_ble_eq_true rfl⟩ hw (rr := []) (big' := cW G b ad vs pd rv Ms) (by rw [List.append_nil]) (by rw [List.append_nil]) 0 rfl rfl rfl hl rfl (Nat.le_of_ble_eq_true rfl) dL_isOpened_86 (fun H locs hw => ?_)
        refine lv_eqi (y := nI (Ms 0 (30 + 14 * (Ns 0 5) + 0))) (rfl) ?_
        refine lv_iload_n E.1 E.2.1 dL_isOpened_89 rfl (lv_at hl 4 rfl) ?_
        refine lv_icmp_neN (tgt := 142) E.1 E.2.1 (by omega) (by omega) dL_isOpened_90 (by decide) (fun c90 => ?_) (fun c90 => ?_)
        · exact absurd e10 c90
        · skip
          refine lv_aload_n E.1 E.2.1 dL_isOpened_93 rfl (lv_at hl 3 rfl) ?_
          refine lv_iload_n E.1 E.2.1 dL_isOpened_94 rfl (lv_at hl 2 rfl) ?_
          refine lv_iconst (v := nI 1) E.1 E.2.1 dL_isOpened_95 (by decide) ?_
          refine callVIp E (c_X3_ofDeal_ok l G b ad vs pd rv Ms (Ns 0 5) (by omega) hF2 1 (by decide)) ES.eb (fun _ _ _ => trivial) mn_7_11 YX3_ofDeal ⟨rfl, rfl⟩ ⟨Nat.le_of_ble_eq_true rfl, Nat.le_of_ble_eq_true rfl⟩ ⟨Nat.le_of_ble_eq_true rfl, Nat.le_of_ble_eq_true rfl⟩ hw (rr := []) (big' := cW G b ad vs pd rv Ms) (by rw [List.append_nil]) (by rw [List.append_nil]) 0 rfl rfl rfl hl rfl (Nat.le_of_ble_eq_true rfl) dL_isOpened_96 (fun H locs hw => ?_)
          refine lv_eqi (y := nI (Ms 0 (30 + 14 * (Ns 0 5) + 1))) (rfl) ?_
          refine lv_if_neN (tgt := 142) E.1 E.2.1 (by omega) dL_isOpened_99 (by decide) (fun c99 => ?_) (fun c99 => ?_)
          · exact absurd e11 c99
          · skip
            refine lv_aload_n E.1 E.2.1 dL_isOpened_102 rfl (lv_at hl 3 rfl) ?_
            refine lv_iload_n E.1 E.2.1 dL_isOpened_103 rfl (lv_at hl 2 rfl) ?_
            refine lv_iconst (v := nI 2) E.1 E.2.1 dL_isOpened_104 (by decide) ?_
            refine callVIp E (c_X3_ofDeal_ok l G b ad vs pd rv Ms (Ns 0 5) (by omega) hF2 2 (by decide)) ES.eb (fun _ _ _ => trivial) mn_7_11 YX3_ofDeal ⟨rfl, rfl⟩ ⟨Nat.le_of_ble_eq_true rfl, Nat.le_of_ble_eq_true rfl⟩ ⟨Nat.le_of_ble_eq_true rfl, Nat.le_of_ble_eq_true rfl⟩ hw (rr := []) (big' := cW G b ad vs pd rv Ms) (by rw [List.append_nil]) (by rw [List.append_nil]) 0 rfl rfl rfl hl rfl (Nat.le_of_ble_eq_true rfl) dL_isOpened_105 (fun H locs hw => ?_)
            refine lv_eqi (y := nI (Ms 0 (30 + 14 * (Ns 0 5) + 2))) (rfl) ?_
            refine lv_aload_n E.1 E.2.1 dL_isOpened_108 rfl (lv_at hl 3 rfl) ?_
            refine lv_iconst (v := nI 0) E.1 E.2.1 dL_isOpened_109 (by decide) ?_
            refine callVIp E (c_X3_count_ok l G b ad vs pd rv Ms 0 (by decide) (by decide) (by decide) hF2 hDV2) ES.eb (fun _ _ _ => trivial) mn_3_8 YX3_count ⟨rfl, rfl⟩ ⟨Nat.le_of_ble_eq_true rfl, Nat.le_of_ble_eq_true rfl⟩ ⟨Nat.le_of_ble_eq_true rfl, Nat.le_of_ble_eq_true rfl⟩ hw (rr := []) (big' := cW G b ad vs pd rv Ms) (by rw [List.append_nil]) (by rw [List.append_nil]) 0 rfl rfl rfl hl rfl (Nat.le_of_ble_eq_true rfl) dL_isOpened_110 (fun H locs hw => ?_)
            refine lv_eqi (y := nI (Ms 0 4)) (rfl) ?_
            refine lv_icmp_ne (tgt := 142) E.1 E.2.1 dL_isOpened_113 (by decide) (fun c113 => ?_) (fun c113 => ?_)
            · exact absurd (congrArg nI (e12.trans e14.symm)) c113
            · skip
              have qq : cOf (Ns 0 5) 0 (Ms 0) < 16 := cOf_lt
              refine lv_aload_n E.1 E.2.1 dL_isOpened_116 rfl (lv_at hl 3 rfl) ?_
              refine lv_iload_n E.1 E.2.1 dL_isOpened_117 rfl (lv_at hl 2 rfl) ?_
              refine lv_iconst (v := nI 5) E.1 E.2.1 dL_isOpened_118 (by decide) ?_
              refine callVIp E (c_X3_ofDeal_ok l G b ad vs pd rv Ms (Ns 0 5) (by omega) hF2 5 (by decide)) ES.eb (fun _ _ _ => trivial) mn_7_11 YX3_ofDeal ⟨rfl, rfl⟩ ⟨Nat.le_of_ble_eq_true rfl, Nat.le_of_ble_eq_true rfl⟩ ⟨Nat.le_of_ble_eq_true rfl, Nat.le_of_ble_eq_true rfl⟩ hw (rr := []) (big' := cW G b ad vs pd rv Ms) (by rw [List.append_nil]) (by rw [List.append_nil]) 0 rfl rfl rfl hl rfl (Nat.le_of_ble_eq_true rfl) dL_isOpened_119 (fun H locs hw => ?_)
              refine lv_eqi (y := nI (cOf (Ns 0 5) 0 (Ms 0))) (rfl) ?_
              refine lv_iload_n E.1 E.2.1 dL_isOpened_122 rfl (lv_at hl 4 rfl) ?_
              refine lv_icmp_neN (tgt := 142) E.1 E.2.1 (by omega) (by omega) dL_isOpened_123 (by decide) (fun c123 => ?_) (fun c123 => ?_)
              · exact absurd e15 c123
              · skip
                refine lv_aload_n E.1 E.2.1 dL_isOpened_126 rfl (lv_at hl 3 rfl) ?_
                refine lv_iload_n E.1 E.2.1 dL_isOpened_127 rfl (lv_at hl 1 rfl) ?_
                refine lv_iconst (v := nI 0) E.1 E.2.1 dL_isOpened_128 (by decide) ?_
                refine lv_iload_n E.1 E.2.1 dL_isOpened_129 rfl (lv_at hl 2 rfl) ?_
                refine lv_iconst (v := nI 4) E.1 E.2.1 dL_isOpened_130 (by decide) ?_
                refine lv_iload_n E.1 E.2.1 dL_isOpened_131 rfl (lv_at hl 4 rfl) ?_
                refine callSX E (c_L_sentTo l G b ad vs pd rv Ms hF2 (Ns 0 6) 0 (Ns 0 5) 4 S h6 e16 (by decide) (by omega) (by decide) (by omega)) ES.eb (fun _ _ _ => trivial) mn_7_23 YL_sentTo ⟨rfl, rfl⟩ ⟨Nat.le_of_ble_eq_true rfl, Nat.le_of_ble_eq_true rfl⟩ ⟨Nat.le_of_ble_eq_true rfl, Nat.le_of_ble_eq_true rfl⟩ hw (rr := []) (big' := cW G b ad vs pd rv Ms) (by rw [List.append_nil]) (by rw [List.append_nil]) rfl hl rfl (Nat.le_of_ble_eq_true rfl) dL_isOpened_132 (fun H locs hw => ?_)
                refine lv_if_leN (tgt := 142) E.1 E.2.1 (by omega) dL_isOpened_135 (by decide) (fun c135 => ?_) (fun c135 => ?_)
                · omega
                · skip
                  refine lv_iconst (v := nI 1) E.1 E.2.1 dL_isOpened_138 (by decide) ?_
                  refine lv_goto (tgt := 143) E.1 E.2.1 dL_isOpened_139 (by decide) ?_
                  refine W.widen (k := 0) (n := 0) (Nat.le_of_ble_eq_true rfl) (Nat.le_of_ble_eq_true rfl) ?_
                  exact rU E hr hlk (vs, Ms) (⟨hcv2, e0⟩) (HB.eq hw (rfl)) dL_isOpened_143
    · exact absurd (Or.inr (by omega)) hq
theorem c_L_isOpened (l : Launch) (G : GP) (b : Nat → Nat) (ad : Nat → Nat → Nat) (v pd rv : Nat → Int32) (Ns : Nat → NS) (hcv : CV v) (hI : Inv (Ns 0)) (hDV : dvI (Ns 0) 5 = Ns 0 7) (hV : VI (Ns 0)) (S : Nat) (hS : 1 ≤ S ∧ S < 16) : MU l yL_isOpened (.code yL_isOpened cL_isOpened 5 (some .boolean) :: GW) ({ frames := 6, cells := 0, slots := 0, locals := 160 }) [.ref (b 0), .int (nI (S))] G ES (cW G b ad v pd rv Ns) (fun u : (Nat → Int32) × (Nat → NS) => cW G b ad u.1 pd rv u.2) (fun u => CV u.1 ∧ u.2 0 = nOpen S (Ns 0)) := by
  by_cases hq : Ns 0 5 = 8 ∨ Ns 0 14 = 1
  · exact c_L_isOpened_no l G b ad v pd rv Ns hcv hI hDV hV S hS hq
  · exact c_L_isOpened_ok l G b ad v pd rv Ns hcv hI hDV hV S hS hq

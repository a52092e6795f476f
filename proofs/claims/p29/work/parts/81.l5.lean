theorem YL_isFallen : YS yL_isFallen RL cL_isFallen 12 (some .boolean) 2 := ⟨mn_11_20, mn_3_2, mn_11_21, by decide +kernel⟩
set_option maxHeartbeats 4000000 in
set_option maxRecDepth 100000 in
theorem c_L_isFallen_no (l : Launch) (G : GP) (b : Nat → Nat) (ad : Nat → Nat → Nat) (v pd rv : Nat → Int32) (Ns : Nat → NS) (hcv : CV v) (hI : Inv (Ns 0)) (hDV : dvI (Ns 0) 5 = Ns 0 7) (hV : VI (Ns 0)) (w : Nat) (hw5 : w < 5) (hq : Ns 0 (10 + w) = 1) : MU l yL_isFallen (.code yL_isFallen cL_isFallen 12 (some .boolean) :: GW) ({ frames := 6, cells := 3, slots := 24, locals := 160 }) [.ref (b 0), .int (nI (w))] G (ES) (cW G b ad v pd rv Ns) (fun u : (Nat → Int32) × (Nat → NS) => cW G b ad u.1 pd rv u.2) (fun u => CV u.1 ∧ u.2 0 = nFal w (Ns 0)) := by
  refine MU.of (own := RL) rfl rfl (Nat.le_of_ble_eq_true rfl) ?_
  intro pP eE sS mM below meth cC ls AA E hw hl hr hlk hE
  replace hl : lv_has ls 12 [(0, .ref (b 0)), (1, .int (nI (w)))] := hl
  have hF := hI.1
  have hm := hI.hm
  have h5 := hF.2.1
  have h6 := hF.1
  obtain ⟨nx, u, hx0, hnx, hu0, hu6⟩ := id hcv
  have hN : nFal w (Ns 0) = Ns 0 := if_pos hq
  have hf : rFal w (Ns 0) < 0 := by rw [rFal, if_pos hq]; decide
  have hr0 : rFal w (Ns 0) = -5 := if_pos hq
  refine W_join0 (G := G) (A := AA) (H0 := sS.heap) (nL := 12) 15 (True) (cW G b ad v pd rv Ns) ([(0, .ref (b 0)), (1, .int (nI (w)))]) ([.int (zb (Ns 0 (10 + w) = 1))]) (fun jk0 => ?_) ?_
  · skip
    refine lv_aload_n E.1 E.2.1 dL_isFallen_0 rfl (lv_at hl 0 rfl) ?_
    refine lv_iload_n E.1 E.2.1 dL_isFallen_1 rfl (lv_at hl 1 rfl) ?_
    refine lv_iconst (v := nI 0) E.1 E.2.1 dL_isFallen_2 (by decide) ?_
    have iw := hF.il (w := w) (by omega)
    refine callVIp E (c_X3_who_ok l G b ad v pd rv Ns w 0 (by omega) (by decide) hF hm) ES.eb (fun _ _ _ => trivial) mn_6_14 YX3_who ⟨rfl, rfl⟩ ⟨Nat.le_of_ble_eq_true rfl, Nat.le_of_ble_eq_true rfl⟩ ⟨Nat.le_of_ble_eq_true rfl, Nat.le_of_ble_eq_true rfl⟩ hw (rr := []) (big' := cW G b ad v pd rv Ns) (by rw [List.append_nil]) (by rw [List.append_nil]) 0 rfl rfl rfl hl rfl (Nat.le_of_ble_eq_true rfl) dL_isFallen_3 (fun H locs hw => ?_)
    refine lv_eqi (y := nI (Ns 0 (10 + w))) (rfl) ?_
    refine lv_iconst (v := nI 1) E.1 E.2.1 dL_isFallen_6 (by decide) ?_
    refine lv_icmp_neN (tgt := 14) E.1 E.2.1 (by omega) (by omega) dL_isFallen_7 (by decide) (fun c7 => ?_) (fun c7 => ?_)
    · skip
      refine lv_iconst (v := nI 0) E.1 E.2.1 dL_isFallen_14 (by decide) ?_
      refine lv_eqi (y := zb (Ns 0 (10 + w) = 1)) ((zb_f (c7)).symm) ?_
      exact jk0  (trivial) _ _ _ (HB.eq hw (rfl)) (lvh_eq (l := [(0, .ref (b 0)), (1, .int (nI (w)))]) (lv_sub hl [0, 1] rfl) (rfl))
    · skip
      refine lv_iconst (v := nI 1) E.1 E.2.1 dL_isFallen_10 (by decide) ?_
      refine lv_goto (tgt := 15) E.1 E.2.1 dL_isFallen_11 (by decide) ?_
      refine lv_eqi (y := zb (Ns 0 (10 + w) = 1)) ((zb_t (c7)).symm) ?_
      exact jk0  (trivial) _ _ _ (HB.eq hw (rfl)) (lvh_eq (l := [(0, .ref (b 0)), (1, .int (nI (w)))]) (lv_sub hl [0, 1] rfl) (rfl))
  · intro  hP0 H locs ls hw hl
    replace hw : HB G AA sS.heap (cW G b ad v pd rv Ns) H locs := hw
    replace hl : lv_has ls 12 [(0, .ref (b 0)), (1, .int (nI (w)))] := hl
    show W _ _ _ _ _ _ _ _ _ _ _ _ _ _ _ (F0 mM 15 ls [.int (zb (Ns 0 (10 + w) = 1))])
    refine lv_istore_n (lv' := [(2, .int (zb (Ns 0 (10 + w) = 1))), (0, .ref (b 0)), (1, .int (nI (w)))]) E.1 E.2.1 dL_isFallen_15 rfl hl (by decide) rfl (fun ls hl => ?_)
    refine lv_bipush (v := nI 8) E.1 E.2.1 dL_isFallen_16 (by decide) ?_
    refine nwA E hw (t := 0) (ty := .int) rfl (atype := .int) rfl mw_2_5 (k := 8) (a0 := (8, .inl (fun _ => 0))) (fun _ => rfl) (by decide) ⟨Nat.le_of_ble_eq_true rfl, Nat.le_of_ble_eq_true rfl⟩ dL_isFallen_18 (fun qa18 H hw => ?_)
    replace hw : HB G AA sS.heap (iA G qa18 (fun _ => 0) :: cW G b ad v pd rv Ns) H locs := hw.perm List.perm_append_comm
    refine lv_astore_n (lv' := [(3, .ref (qa18)), (2, .int (zb (Ns 0 (10 + w) = 1))), (0, .ref (b 0)), (1, .int (nI (w)))]) E.1 E.2.1 dL_isFallen_20 rfl hl (by decide) rfl (fun ls hl => ?_)
    refine lv_bipush (v := nI 8) E.1 E.2.1 dL_isFallen_21 (by decide) ?_
    refine nwA E hw (t := 0) (ty := .int) rfl (atype := .int) rfl mw_2_5 (k := 8) (a0 := (8, .inl (fun _ => 0))) (fun _ => rfl) (by decide) ⟨Nat.le_of_ble_eq_true rfl, Nat.le_of_ble_eq_true rfl⟩ dL_isFallen_23 (fun qa23 H hw => ?_)
    replace hw : HB G AA sS.heap (iA G qa23 (fun _ => 0) :: iA G qa18 (fun _ => 0) :: cW G b ad v pd rv Ns) H locs := hw.perm List.perm_append_comm
    refine lv_astore (lv' := [(4, .ref (qa23)), (3, .ref (qa18)), (2, .int (zb (Ns 0 (10 + w) = 1))), (0, .ref (b 0)), (1, .int (nI (w)))]) E.1 E.2.1 dL_isFallen_25 hl (by decide) rfl (fun ls hl => ?_)
    refine lv_bipush (v := nI 8) E.1 E.2.1 dL_isFallen_27 (by decide) ?_
    refine nwA E hw (t := 0) (ty := .int) rfl (atype := .int) rfl mw_2_5 (k := 8) (a0 := (8, .inl (fun _ => 0))) (fun _ => rfl) (by decide) ⟨Nat.le_of_ble_eq_true rfl, Nat.le_of_ble_eq_true rfl⟩ dL_isFallen_29 (fun qa29 H hw => ?_)
    replace hw : HB G AA sS.heap (iA G qa29 (fun _ => 0) :: iA G qa23 (fun _ => 0) :: iA G qa18 (fun _ => 0) :: cW G b ad v pd rv Ns) H locs := hw.perm List.perm_append_comm
    refine lv_astore (lv' := [(5, .ref (qa29)), (4, .ref (qa23)), (3, .ref (qa18)), (2, .int (zb (Ns 0 (10 + w) = 1))), (0, .ref (b 0)), (1, .int (nI (w)))]) E.1 E.2.1 dL_isFallen_31 hl (by decide) rfl (fun ls hl => ?_)
    refine lv_iconst (v := nI 0) E.1 E.2.1 dL_isFallen_33 (by decide) ?_
    refine lv_istore (lv' := [(6, .int (nI (0))), (5, .ref (qa29)), (4, .ref (qa23)), (3, .ref (qa18)), (2, .int (zb (Ns 0 (10 + w) = 1))), (0, .ref (b 0)), (1, .int (nI (w)))]) E.1 E.2.1 dL_isFallen_34 hl (by decide) rfl (fun ls hl => ?_)
    refine W_ind1 (nL := 12) (P := fun d => d ≤ Ns 0 5) (μ := fun d => Ns 0 5 - d) (I := fun d => iA G qa29 (fill (fun j => cOf j 0 (Ns 0)) (d)) :: iA G qa23 (fill (fun j => Ns 0 (30 + 14 * j + 5)) (d)) :: iA G qa18 (fill (fun j => Ns 0 (30 + 14 * j + 1)) (d)) :: cW G b ad v pd rv Ns) (L := fun d => [(0, .ref (b 0)), (1, .int (nI (w))), (2, .int (zb (Ns 0 (10 + w) = 1))), (3, .ref (qa18)), (4, .ref (qa23)), (5, .ref (qa29)), (6, .int (nI (d)))]) ?_ (0) (Nat.zero_le _) (HB.eq hw (by simp only [fill_00])) (lvh_eq (l := [(0, .ref (b 0)), (1, .int (nI (w))), (2, .int (zb (Ns 0 (10 + w) = 1))), (3, .ref (qa18)), (4, .ref (qa23)), (5, .ref (qa29)), (6, .int (nI (0)))]) (lv_sub hl [5, 6, 4, 3, 2, 1, 0] rfl) (rfl))
    intro d hPd ihd H locs ls hw hl
    replace hw : HB G AA sS.heap (iA G qa29 (fill (fun j => cOf j 0 (Ns 0)) (d)) :: iA G qa23 (fill (fun j => Ns 0 (30 + 14 * j + 5)) (d)) :: iA G qa18 (fill (fun j => Ns 0 (30 + 14 * j + 1)) (d)) :: cW G b ad v pd rv Ns) H locs := hw
    replace hl : lv_has ls 12 [(0, .ref (b 0)), (1, .int (nI (w))), (2, .int (zb (Ns 0 (10 + w) = 1))), (3, .ref (qa18)), (4, .ref (qa23)), (5, .ref (qa29)), (6, .int (nI (d)))] := hl
    refine lv_iload E.1 E.2.1 dL_isFallen_36 (lv_at hl 6 rfl) ?_
    refine lv_aload_n E.1 E.2.1 dL_isFallen_38 rfl (lv_at hl 0 rfl) ?_
    refine lv_iconst (v := nI 1) E.1 E.2.1 dL_isFallen_39 (by decide) ?_
    refine callVIp E (c_X3_count_ok l G b ad v pd rv Ns 1 (by decide) (by decide) (by decide) hF hDV) ES.eb (fun _ _ _ => trivial) mn_3_8 YX3_count ⟨rfl, rfl⟩ ⟨Nat.le_of_ble_eq_true rfl, Nat.le_of_ble_eq_true rfl⟩ ⟨Nat.le_of_ble_eq_true rfl, Nat.le_of_ble_eq_true rfl⟩ hw (rr := [iA G qa29 (fill (fun j => cOf j 0 (Ns 0)) (d)), iA G qa23 (fill (fun j => Ns 0 (30 + 14 * j + 5)) (d)), iA G qa18 (fill (fun j => Ns 0 (30 + 14 * j + 1)) (d))]) (big' := iA G qa29 (fill (fun j => cOf j 0 (Ns 0)) (d)) :: iA G qa23 (fill (fun j => Ns 0 (30 + 14 * j + 5)) (d)) :: iA G qa18 (fill (fun j => Ns 0 (30 + 14 * j + 1)) (d)) :: cW G b ad v pd rv Ns) List.perm_append_comm List.perm_append_comm 0 rfl rfl rfl hl rfl (Nat.le_of_ble_eq_true rfl) dL_isFallen_40 (fun H locs hw => ?_)
    refine lv_eqi (y := nI (Ns 0 5)) (rfl) ?_
    refine lv_icmp_geN (tgt := 87) E.1 E.2.1 (by omega) (by omega) dL_isFallen_43 (by decide) (fun c43 => ?_) (fun c43 => ?_)
    · skip
      refine lv_aload_n E.1 E.2.1 dL_isFallen_87 rfl (lv_at hl 0 rfl) ?_
      refine lv_iconst (v := nI 2) E.1 E.2.1 dL_isFallen_88 (by decide) ?_
      refine callVIp E (c_X3_count_ok l G b ad v pd rv Ns 2 (by decide) (by decide) (by decide) hF hDV) ES.eb (fun _ _ _ => trivial) mn_3_8 YX3_count ⟨rfl, rfl⟩ ⟨Nat.le_of_ble_eq_true rfl, Nat.le_of_ble_eq_true rfl⟩ ⟨Nat.le_of_ble_eq_true rfl, Nat.le_of_ble_eq_true rfl⟩ hw (rr := [iA G qa29 (fill (fun j => cOf j 0 (Ns 0)) (d)), iA G qa23 (fill (fun j => Ns 0 (30 + 14 * j + 5)) (d)), iA G qa18 (fill (fun j => Ns 0 (30 + 14 * j + 1)) (d))]) (big' := iA G qa29 (fill (fun j => cOf j 0 (Ns 0)) (d)) :: iA G qa23 (fill (fun j => Ns 0 (30 + 14 * j + 5)) (d)) :: iA G qa18 (fill (fun j => Ns 0 (30 + 14 * j + 1)) (d)) :: cW G b ad v pd rv Ns) List.perm_append_comm List.perm_append_comm 0 rfl rfl rfl hl rfl (Nat.le_of_ble_eq_true rfl) dL_isFallen_89 (fun H locs hw => ?_)
      refine lv_eqi (y := nI (Ns 0 6)) (rfl) ?_
      refine lv_istore (lv' := [(6, .int (nI (Ns 0 6))), (0, .ref (b 0)), (1, .int (nI (w))), (2, .int (zb (Ns 0 (10 + w) = 1))), (3, .ref (qa18)), (4, .ref (qa23)), (5, .ref (qa29))]) E.1 E.2.1 dL_isFallen_92 hl (by decide) rfl (fun ls hl => ?_)
      refine lv_aload_n E.1 E.2.1 dL_isFallen_94 rfl (lv_at hl 1 rfl) ?_
      refine lv_iload_n E.1 E.2.1 dL_isFallen_95 rfl (lv_at hl 2 rfl) ?_
      refine callVIp E (c_X3_fall_no l G b ad v pd rv Ns nx u hx0 hnx hu0 hu6 w hw5 hF hf) ES.eb (fun _ _ _ => trivial) mn_11_22 YX3_fall ⟨rfl, rfl⟩ ⟨Nat.le_of_ble_eq_true rfl, Nat.le_of_ble_eq_true rfl⟩ ⟨Nat.le_of_ble_eq_true rfl, Nat.le_of_ble_eq_true rfl⟩ hw (rr := [iA G qa29 (fill (fun j => cOf j 0 (Ns 0)) (d)), iA G qa23 (fill (fun j => Ns 0 (30 + 14 * j + 5)) (d)), iA G qa18 (fill (fun j => Ns 0 (30 + 14 * j + 1)) (d))]) (big' := iA G qa29 (fill (fun j => cOf j 0 (Ns 0)) (d)) :: iA G qa23 (fill (fun j => Ns 0 (30 + 14 * j + 5)) (d)) :: iA G qa18 (fill (fun j => Ns 0 (30 + 14 * j + 1)) (d)) :: cW G b ad v pd rv (va_up (va_up (Ns) (2 + nx) (Ns 0)) 0 (nFal w (Ns 0)))) List.perm_append_comm List.perm_append_comm 0 rfl rfl rfl hl rfl (Nat.le_of_ble_eq_true rfl) dL_isFallen_96 (fun H locs hw => ?_)
      refine lv_eqi (y := -5) (hr0) ?_
      obtain ⟨Ms, vs, e0, hcv2, hw⟩ : ∃ (Ms : Nat → NS) (vs : Nat → Int32), Ms 0 = nFal w (Ns 0) ∧ CV vs ∧ HB G AA sS.heap (iA G qa29 (fill (fun j => cOf j 0 (Ns 0)) (d)) :: iA G qa23 (fill (fun j => Ns 0 (30 + 14 * j + 5)) (d)) :: iA G qa18 (fill (fun j => Ns 0 (30 + 14 * j + 1)) (d)) :: cW G b ad vs pd rv Ms) H locs := ⟨_, _, va_up_self _ _ _, hcv, hw⟩
      have hI2 : Inv (Ms 0) := by rw [e0]; exact (by rw [hN]; exact hI)
      have hDV2 : dvI (Ms 0) 5 = Ms 0 7 := by rw [e0]; exact (by rw [hN]; exact hDV)
      have hF2 := hI2.1
      have hm2 := hI2.hm
      refine lv_istore (lv' := [(7, .int (-5)), (6, .int (nI (Ns 0 6))), (0, .ref (b 0)), (1, .int (nI (w))), (2, .int (zb (Ns 0 (10 + w) = 1))), (3, .ref (qa18)), (4, .ref (qa23)), (5, .ref (qa29))]) E.1 E.2.1 dL_isFallen_99 hl (by decide) rfl (fun ls hl => ?_)
      refine lv_iload_n E.1 E.2.1 dL_isFallen_101 rfl (lv_at hl 4 rfl) ?_
      refine lv_if_eqB (tgt := 118) E.1 E.2.1 dL_isFallen_102 (by decide) (fun c102 => ?_) (fun c102 => ?_)
      · exact absurd hq c102
      · skip
        refine lv_iload E.1 E.2.1 dL_isFallen_105 (lv_at hl 0 rfl) ?_
        refine lv_bipush (v := -5) E.1 E.2.1 dL_isFallen_107 (by decide) ?_
        refine lv_icmp_ne (tgt := 116) E.1 E.2.1 dL_isFallen_109 (by decide) (fun c109 => ?_) (fun c109 => ?_)
        · exact absurd c109 (by decide)
        · skip
          refine lv_iconst (v := nI 1) E.1 E.2.1 dL_isFallen_112 (by decide) ?_
          refine lv_goto (tgt := 117) E.1 E.2.1 dL_isFallen_113 (by decide) ?_
          refine W.widen (k := 3) (n := 24) (Nat.le_of_ble_eq_true rfl) (Nat.le_of_ble_eq_true rfl) ?_
          replace hw := hw.tl
          replace hw := hw.tl
          replace hw := hw.tl
          exact rU E hr hlk (vs, Ms) (⟨hcv2, e0⟩) (HB.eq hw (rfl)) dL_isFallen_117
    · skip
      refine lv_aload_n E.1 E.2.1 dL_isFallen_46 rfl (lv_at hl 3 rfl) ?_
      refine lv_iload E.1 E.2.1 dL_isFallen_47 (lv_at hl 6 rfl) ?_
      refine lv_aload_n E.1 E.2.1 dL_isFallen_49 rfl (lv_at hl 0 rfl) ?_
      refine lv_iload E.1 E.2.1 dL_isFallen_50 (lv_at hl 6 rfl) ?_
      refine lv_iconst (v := nI 1) E.1 E.2.1 dL_isFallen_52 (by decide) ?_
      refine callVIp E (c_X3_ofDeal_ok l G b ad v pd rv Ns d (by omega) hF 1 (by decide)) ES.eb (fun _ _ _ => trivial) mn_7_11 YX3_ofDeal ⟨rfl, rfl⟩ ⟨Nat.le_of_ble_eq_true rfl, Nat.le_of_ble_eq_true rfl⟩ ⟨Nat.le_of_ble_eq_true rfl, Nat.le_of_ble_eq_true rfl⟩ hw (rr := [iA G qa29 (fill (fun j => cOf j 0 (Ns 0)) (d)), iA G qa23 (fill (fun j => Ns 0 (30 + 14 * j + 5)) (d)), iA G qa18 (fill (fun j => Ns 0 (30 + 14 * j + 1)) (d))]) (big' := iA G qa29 (fill (fun j => cOf j 0 (Ns 0)) (d)) :: iA G qa23 (fill (fun j => Ns 0 (30 + 14 * j + 5)) (d)) :: iA G qa18 (fill (fun j => Ns 0 (30 + 14 * j + 1)) (d)) :: cW G b ad v pd rv Ns) List.perm_append_comm List.perm_append_comm 0 rfl rfl rfl hl rfl (Nat.le_of_ble_eq_true rfl) dL_isFallen_53 (fun H locs hw => ?_)
      refine lv_eqi (y := nI (Ns 0 (30 + 14 * d + 1))) (rfl) ?_
      refine aSt E hw 2 rfl (j := d) (by omega) (by decide) dL_isFallen_56 (fun H locs hw => ?_)
      replace hw : HB G AA sS.heap (iA G qa29 (fill (fun j => cOf j 0 (Ns 0)) (d)) :: iA G qa23 (fill (fun j => Ns 0 (30 + 14 * j + 5)) (d)) :: iA G qa18 (fill (fun j => Ns 0 (30 + 14 * j + 1)) (d + 1)) :: cW G b ad v pd rv Ns) H locs := HB.eq hw (by show iA G qa29 (fill (fun j => cOf j 0 (Ns 0)) (d)) :: iA G qa23 (fill (fun j => Ns 0 (30 + 14 * j + 5)) (d)) :: iA G qa18 (upd (fill (fun j => Ns 0 (30 + 14 * j + 1)) (d)) d (nI (Ns 0 (30 + 14 * d + 1)))) :: _ = _; rw [fill_s rfl])
      refine lv_aload E.1 E.2.1 dL_isFallen_57 (lv_at hl 4 rfl) ?_
      refine lv_iload E.1 E.2.1 dL_isFallen_59 (lv_at hl 6 rfl) ?_
      refine lv_aload_n E.1 E.2.1 dL_isFallen_61 rfl (lv_at hl 0 rfl) ?_
      refine lv_iload E.1 E.2.1 dL_isFallen_62 (lv_at hl 6 rfl) ?_
      refine lv_iconst (v := nI 4) E.1 E.2.1 dL_isFallen_64 (by decide) ?_
      refine callVIp E (c_X3_ofDeal_ok l G b ad v pd rv Ns d (by omega) hF 4 (by decide)) ES.eb (fun _ _ _ => trivial) mn_7_11 YX3_ofDeal ⟨rfl, rfl⟩ ⟨Nat.le_of_ble_eq_true rfl, Nat.le_of_ble_eq_true rfl⟩ ⟨Nat.le_of_ble_eq_true rfl, Nat.le_of_ble_eq_true rfl⟩ hw (rr := [iA G qa29 (fill (fun j => cOf j 0 (Ns 0)) (d)), iA G qa23 (fill (fun j => Ns 0 (30 + 14 * j + 5)) (d)), iA G qa18 (fill (fun j => Ns 0 (30 + 14 * j + 1)) (d + 1))]) (big' := iA G qa29 (fill (fun j => cOf j 0 (Ns 0)) (d)) :: iA G qa23 (fill (fun j => Ns 0 (30 + 14 * j + 5)) (d)) :: iA G qa18 (fill (fun j => Ns 0 (30 + 14 * j + 1)) (d + 1)) :: cW G b ad v pd rv Ns) List.perm_append_comm List.perm_append_comm 0 rfl rfl rfl hl rfl (Nat.le_of_ble_eq_true rfl) dL_isFallen_65 (fun H locs hw => ?_)
      refine lv_eqi (y := nI (Ns 0 (30 + 14 * d + 5))) (rfl) ?_
      refine aSt E hw 1 rfl (j := d) (by omega) (by decide) dL_isFallen_68 (fun H locs hw => ?_)
      replace hw : HB G AA sS.heap (iA G qa29 (fill (fun j => cOf j 0 (Ns 0)) (d)) :: iA G qa23 (fill (fun j => Ns 0 (30 + 14 * j + 5)) (d + 1)) :: iA G qa18 (fill (fun j => Ns 0 (30 + 14 * j + 1)) (d + 1)) :: cW G b ad v pd rv Ns) H locs := HB.eq hw (by show iA G qa29 (fill (fun j => cOf j 0 (Ns 0)) (d)) :: iA G qa23 (upd (fill (fun j => Ns 0 (30 + 14 * j + 5)) (d)) d (nI (Ns 0 (30 + 14 * d + 5)))) :: _ = _; rw [fill_s rfl])
      refine lv_aload E.1 E.2.1 dL_isFallen_69 (lv_at hl 5 rfl) ?_
      refine lv_iload E.1 E.2.1 dL_isFallen_71 (lv_at hl 6 rfl) ?_
      refine lv_aload_n E.1 E.2.1 dL_isFallen_73 rfl (lv_at hl 0 rfl) ?_
      refine lv_iload E.1 E.2.1 dL_isFallen_74 (lv_at hl 6 rfl) ?_
      refine lv_iconst (v := nI 5) E.1 E.2.1 dL_isFallen_76 (by decide) ?_
      refine callVIp E (c_X3_ofDeal_ok l G b ad v pd rv Ns d (by omega) hF 5 (by decide)) ES.eb (fun _ _ _ => trivial) mn_7_11 YX3_ofDeal ⟨rfl, rfl⟩ ⟨Nat.le_of_ble_eq_true rfl, Nat.le_of_ble_eq_true rfl⟩ ⟨Nat.le_of_ble_eq_true rfl, Nat.le_of_ble_eq_true rfl⟩ hw (rr := [iA G qa29 (fill (fun j => cOf j 0 (Ns 0)) (d)), iA G qa23 (fill (fun j => Ns 0 (30 + 14 * j + 5)) (d + 1)), iA G qa18 (fill (fun j => Ns 0 (30 + 14 * j + 1)) (d + 1))]) (big' := iA G qa29 (fill (fun j => cOf j 0 (Ns 0)) (d)) :: iA G qa23 (fill (fun j => Ns 0 (30 + 14 * j + 5)) (d + 1)) :: iA G qa18 (fill (fun j => Ns 0 (30 + 14 * j + 1)) (d + 1)) :: cW G b ad v pd rv Ns) List.perm_append_comm List.perm_append_comm 0 rfl rfl rfl hl rfl (Nat.le_of_ble_eq_true rfl) dL_isFallen_77 (fun H locs hw => ?_)
      refine lv_eqi (y := nI (cOf d 0 (Ns 0))) (rfl) ?_
      refine aSt E hw 0 rfl (j := d) (by omega) (by decide) dL_isFallen_80 (fun H locs hw => ?_)
      replace hw : HB G AA sS.heap (iA G qa29 (fill (fun j => cOf j 0 (Ns 0)) (d + 1)) :: iA G qa23 (fill (fun j => Ns 0 (30 + 14 * j + 5)) (d + 1)) :: iA G qa18 (fill (fun j => Ns 0 (30 + 14 * j + 1)) (d + 1)) :: cW G b ad v pd rv Ns) H locs := HB.eq hw (by show iA G qa29 (upd (fill (fun j => cOf j 0 (Ns 0)) (d)) d (nI (cOf d 0 (Ns 0)))) :: _ = _; rw [fill_s rfl])
      refine lv_iincN (k := 6) (lv' := [(6, .int (nI (d + 1))), (0, .ref (b 0)), (1, .int (nI (w))), (2, .int (zb (Ns 0 (10 + w) = 1))), (3, .ref (qa18)), (4, .ref (qa23)), (5, .ref (qa29))]) E.1 E.2.1 dL_isFallen_81 hl rfl (by decide) rfl (fun ls hl => ?_)
      refine lv_goto (tgt := 36) E.1 E.2.1 dL_isFallen_84 (by decide) ?_
      exact ihd (d + 1) (by omega) (by omega) _ _ _ (HB.eq hw (rfl)) (lvh_eq (l := [(0, .ref (b 0)), (1, .int (nI (w))), (2, .int (zb (Ns 0 (10 + w) = 1))), (3, .ref (qa18)), (4, .ref (qa23)), (5, .ref (qa29)), (6, .int (nI (d + 1)))]) (lv_sub hl [1, 2, 3, 4, 5, 6, 0] rfl) (rfl))
set_option maxHeartbeats 4000000 in
set_option maxRecDepth 100000 in
theorem c_L_isFallen_ok (l : Launch) (G : GP) (b : Nat → Nat) (ad : Nat → Nat → Nat) (v pd rv : Nat → Int32) (Ns : Nat → NS) (hcv : CV v) (hI : Inv (Ns 0)) (hDV : dvI (Ns 0) 5 = Ns 0 7) (hV : VI (Ns 0)) (w : Nat) (hw5 : w < 5) (hq : ¬ Ns 0 (10 + w) = 1) : MU l yL_isFallen (.code yL_isFallen cL_isFallen 12 (some .boolean) :: GW) ({ frames := 6, cells := 3, slots := 24, locals := 160 }) [.ref (b 0), .int (nI (w))] G (ES) (cW G b ad v pd rv Ns) (fun u : (Nat → Int32) × (Nat → NS) => cW G b ad u.1 pd rv u.2) (fun u => CV u.1 ∧ u.2 0 = nFal w (Ns 0)) := by
  refine MU.of (own := RL) rfl rfl (Nat.le_of_ble_eq_true rfl) ?_
  intro pP eE sS mM below meth cC ls AA E hw hl hr hlk hE
  replace hl : lv_has ls 12 [(0, .ref (b 0)), (1, .int (nI (w)))] := hl
  have hF := hI.1
  have hm := hI.hm
  have h5 := hF.2.1
  have h6 := hF.1
  obtain ⟨nx, u, hx0, hnx, hu0, hu6⟩ := id hcv
  have hN : nFal w (Ns 0) = mFall w (Ns 0) := if_neg hq
  have hr0 : rFal w (Ns 0) = nI (illN (mFall w (Ns 0))) := if_neg hq
  have hil : illN (mFall w (Ns 0)) ≤ 5 := illI_le (hI.fall hw5).1 5 (Nat.le_refl 5)
  have hip := illN_pos hw5 (fall_w hI hw5)
  have hf : ¬ rFal w (Ns 0) < 0 := by rw [hr0]; exact nI_pos (by omega)
  refine W_join0 (G := G) (A := AA) (H0 := sS.heap) (nL := 12) 15 (True) (cW G b ad v pd rv Ns) ([(0, .ref (b 0)), (1, .int (nI (w)))]) ([.int (zb (Ns 0 (10 + w) = 1))]) (fun jk0 => ?_) ?_
  · skip
    refine lv_aload_n E.1 E.2.1 dL_isFallen_0 rfl (lv_at hl 0 rfl) ?_
    refine lv_iload_n E.1 E.2.1 dL_isFallen_1 rfl (lv_at hl 1 rfl) ?_
    refine lv_iconst (v := nI 0) E.1 E.2.1 dL_isFallen_2 (by decide) ?_
    have iw := hF.il (w := w) (by omega)
    refine callVIp E (c_X3_who_ok l G b ad v pd rv Ns w 0 (by omega) (by decide) hF hm) ES.eb (fun _ _ _ => trivial) mn_6_14 YX3_who ⟨rfl, rfl⟩ ⟨Nat.le_of_ble_eq_true rfl, Nat.le_of_ble_eq_true rfl⟩ ⟨Nat.le_of_ble_eq_true rfl, Nat.le_of_ble_eq_true rfl⟩ hw (rr := []) (big' := cW G b ad v pd rv Ns) (by rw [List.append_nil]) (by rw [List.append_nil]) 0 rfl rfl rfl hl rfl (Nat.le_of_ble_eq_true rfl) dL_isFallen_3 (fun H locs hw => ?_)
    refine lv_eqi (y := nI (Ns 0 (10 + w))) (rfl) ?_
    refine lv_iconst (v := nI 1) E.1 E.2.1 dL_isFallen_6 (by decide) ?_
    refine lv_icmp_neN (tgt := 14) E.1 E.2.1 (by omega) (by omega) dL_isFallen_7 (by decide) (fun c7 => ?_) (fun c7 => ?_)
    · skip
      refine lv_iconst (v := nI 0) E.1 E.2.1 dL_isFallen_14 (by decide) ?_
      refine lv_eqi (y := zb (Ns 0 (10 + w) = 1)) ((zb_f (c7)).symm) ?_
      exact jk0  (trivial) _ _ _ (HB.eq hw (rfl)) (lvh_eq (l := [(0, .ref (b 0)), (1, .int (nI (w)))]) (lv_sub hl [0, 1] rfl) (rfl))
    · skip
      refine lv_iconst (v := nI 1) E.1 E.2.1 dL_isFallen_10 (by decide) ?_
      refine lv_goto (tgt := 15) E.1 E.2.1 dL_isFallen_11 (by decide) ?_
      refine lv_eqi (y := zb (Ns 0 (10 + w) = 1)) ((zb_t (c7)).symm) ?_
      exact jk0  (trivial) _ _ _ (HB.eq hw (rfl)) (lvh_eq (l := [(0, .ref (b 0)), (1, .int (nI (w)))]) (lv_sub hl [0, 1] rfl) (rfl))
  · intro  hP0 H locs ls hw hl
    replace hw : HB G AA sS.heap (cW G b ad v pd rv Ns) H locs := hw
    replace hl : lv_has ls 12 [(0, .ref (b 0)), (1, .int (nI (w)))] := hl
    show W _ _ _ _ _ _ _ _ _ _ _ _ _ _ _ (F0 mM 15 ls [.int (zb (Ns 0 (10 + w) = 1))])
    refine lv_istore_n (lv' := [(2, .int (zb (Ns 0 (10 + w) = 1))), (0, .ref (b 0)), (1, .int (nI (w)))]) E.1 E.2.1 dL_isFallen_15 rfl hl (by decide) rfl (fun ls hl => ?_)
    refine lv_bipush (v := nI 8) E.1 E.2.1 dL_isFallen_16 (by decide) ?_
    refine nwA E hw (t := 0) (ty := .int) rfl (atype := .int) rfl mw_2_5 (k := 8) (a0 := (8, .inl (fun _ => 0))) (fun _ => rfl) (by decide) ⟨Nat.le_of_ble_eq_true rfl, Nat.le_of_ble_eq_true rfl⟩ dL_isFallen_18 (fun qa18 H hw => ?_)
    replace hw : HB G AA sS.heap (iA G qa18 (fun _ => 0) :: cW G b ad v pd rv Ns) H locs := hw.perm List.perm_append_comm
    refine lv_astore_n (lv' := [(3, .ref (qa18)), (2, .int (zb (Ns 0 (10 + w) = 1))), (0, .ref (b 0)), (1, .int (nI (w)))]) E.1 E.2.1 dL_isFallen_20 rfl hl (by decide) rfl (fun ls hl => ?_)
    refine lv_bipush (v := nI 8) E.1 E.2.1 dL_isFallen_21 (by decide) ?_
    refine nwA E hw (t := 0) (ty := .int) rfl (atype := .int) rfl mw_2_5 (k := 8) (a0 := (8, .inl (fun _ => 0))) (fun _ => rfl) (by decide) ⟨Nat.le_of_ble_eq_true rfl, Nat.le_of_ble_eq_true rfl⟩ dL_isFallen_23 (fun qa23 H hw => ?_)
    replace hw : HB G AA sS.heap (iA G qa23 (fun _ => 0) :: iA G qa18 (fun _ => 0) :: cW G b ad v pd rv Ns) H locs := hw.perm List.perm_append_comm
    refine lv_astore (lv' := [(4, .ref (qa23)), (3, .ref (qa18)), (2, .int (zb (Ns 0 (10 + w) = 1))), (0, .ref (b 0)), (1, .int (nI (w)))]) E.1 E.2.1 dL_isFallen_25 hl (by decide) rfl (fun ls hl => ?_)
    refine lv_bipush (v := nI 8) E.1 E.2.1 dL_isFallen_27 (by decide) ?_
    refine nwA E hw (t := 0) (ty := .int) rfl (atype := .int) rfl mw_2_5 (k := 8) (a0 := (8, .inl (fun _ => 0))) (fun _ => rfl) (by decide) ⟨Nat.le_of_ble_eq_true rfl, Nat.le_of_ble_eq_true rfl⟩ dL_isFallen_29 (fun qa29 H hw => ?_)
    replace hw : HB G AA sS.heap (iA G qa29 (fun _ => 0) :: iA G qa23 (fun _ => 0) :: iA G qa18 (fun _ => 0) :: cW G b ad v pd rv Ns) H locs := hw.perm List.perm_append_comm
    refine lv_astore (lv' := [(5, .ref (qa29)), (4, .ref (qa23)), (3, .ref (qa18)), (2, .int (zb (Ns 0 (10 + w) = 1))), (0, .ref (b 0)), (1, .int (nI (w)))]) E.1 E.2.1 dL_isFallen_31 hl (by decide) rfl (fun ls hl => ?_)
    refine lv_iconst (v := nI 0) E.1 E.2.1 dL_isFallen_33 (by decide) ?_
    refine lv_istore (lv' := [(6, .int (nI (0))), (5, .ref (qa29)), (4, .ref (qa23)), (3, .ref (qa18)), (2, .int (zb (Ns 0 (10 + w) = 1))), (0, .ref (b 0)), (1, .int (nI (w)))]) E.1 E.2.1 dL_isFallen_34 hl (by decide) rfl (fun ls hl => ?_)
    refine W_ind1 (nL := 12) (P := fun d => d ≤ Ns 0 5) (μ := fun d => Ns 0 5 - d) (I := fun d => iA G qa29 (fill (fun j => cOf j 0 (Ns 0)) (d)) :: iA G qa23 (fill (fun j => Ns 0 (30 + 14 * j + 5)) (d)) :: iA G qa18 (fill (fun j => Ns 0 (30 + 14 * j + 1)) (d)) :: cW G b ad v pd rv Ns) (L := fun d => [(0, .ref (b 0)), (1, .int (nI (w))), (2, .int (zb (Ns 0 (10 + w) = 1))), (3, .ref (qa18)), (4, .ref (qa23)), (5, .ref (qa29)), (6, .int (nI (d)))]) ?_ (0) (Nat.zero_le _) (HB.eq hw (by simp only [fill_00])) (lvh_eq (l := [(0, .ref (b 0)), (1, .int (nI (w))), (2, .int (zb (Ns 0 (10 + w) = 1))), (3, .ref (qa18)), (4, .ref (qa23)), (5, .ref (qa29)), (6, .int (nI (0)))]) (lv_sub hl [5, 6, 4, 3, 2, 1, 0] rfl) (rfl))
    intro d hPd ihd H locs ls hw hl
    replace hw : HB G AA sS.heap (iA G qa29 (fill (fun j => cOf j 0 (Ns 0)) (d)) :: iA G qa23 (fill (fun j => Ns 0 (30 + 14 * j + 5)) (d)) :: iA G qa18 (fill (fun j => Ns 0 (30 + 14 * j + 1)) (d)) :: cW G b ad v pd rv Ns) H locs := hw
    replace hl : lv_has ls 12 [(0, .ref (b 0)), (1, .int (nI (w))), (2, .int (zb (Ns 0 (10 + w) = 1))), (3, .ref (qa18)), (4, .ref (qa23)), (5, .ref (qa29)), (6, .int (nI (d)))] := hl
    refine lv_iload E.1 E.2.1 dL_isFallen_36 (lv_at hl 6 rfl) ?_
    refine lv_aload_n E.1 E.2.1 dL_isFallen_38 rfl (lv_at hl 0 rfl) ?_
    refine lv_iconst (v := nI 1) E.1 E.2.1 dL_isFallen_39 (by decide) ?_
    refine callVIp E (c_X3_count_ok l G b ad v pd rv Ns 1 (by decide) (by decide) (by decide) hF hDV) ES.eb (fun _ _ _ => trivial) mn_3_8 YX3_count ⟨rfl, rfl⟩ ⟨Nat.le_of_ble_eq_true rfl, Nat.le_of_ble_eq_true rfl⟩ ⟨Nat.le_of_ble_eq_true rfl, Nat.le_of_ble_eq_true rfl⟩ hw (rr := [iA G qa29 (fill (fun j => cOf j 0 (Ns 0)) (d)), iA G qa23 (fill (fun j => Ns 0 (30 + 14 * j + 5)) (d)), iA G qa18 (fill (fun j => Ns 0 (30 + 14 * j + 1)) (d))]) (big' := iA G qa29 (fill (fun j => cOf j 0 (Ns 0)) (d)) :: iA G qa23 (fill (fun j => Ns 0 (30 + 14 * j + 5)) (d)) :: iA G qa18 (fill (fun j => Ns 0 (30 + 14 * j + 1)) (d)) :: cW G b ad v pd rv Ns) List.perm_append_comm List.perm_append_comm 0 rfl rfl rfl hl rfl (Nat.le_of_ble_eq_true rfl) dL_isFallen_40 (fun H locs hw => ?_)
    refine lv_eqi (y := nI (Ns 0 5)) (rfl) ?_
    refine lv_icmp_geN (tgt := 87) E.1 E.2.1 (by omega) (by omega) dL_isFallen_43 (by decide) (fun c43 => ?_) (fun c43 => ?_)
    · skip
      refine lv_aload_n E.1 E.2.1 dL_isFallen_87 rfl (lv_at hl 0 rfl) ?_
      refine lv_iconst (v := nI 2) E.1 E.2.1 dL_isFallen_88 (by decide) ?_
      refine callVIp E (c_X3_count_ok l G b ad v pd rv Ns 2 (by decide) (by decide) (by decide) hF hDV) ES.eb (fun _ _ _ => trivial) mn_3_8 YX3_count ⟨rfl, rfl⟩ ⟨Nat.le_of_ble_eq_true rfl, Nat.le_of_ble_eq_true rfl⟩ ⟨Nat.le_of_ble_eq_true rfl, Nat.le_of_ble_eq_true rfl⟩ hw (rr := [iA G qa29 (fill (fun j => cOf j 0 (Ns 0)) (d)), iA G qa23 (fill (fun j => Ns 0 (30 + 14 * j + 5)) (d)), iA G qa18 (fill (fun j => Ns 0 (30 + 14 * j + 1)) (d))]) (big' := iA G qa29 (fill (fun j => cOf j 0 (Ns 0)) (d)) :: iA G qa23 (fill (fun j => Ns 0 (30 + 14 * j + 5)) (d)) :: iA G qa18 (fill (fun j => Ns 0 (30 + 14 * j + 1)) (d)) :: cW G b ad v pd rv Ns) List.perm_append_comm List.perm_append_comm 0 rfl rfl rfl hl rfl (Nat.le_of_ble_eq_true rfl) dL_isFallen_89 (fun H locs hw => ?_)
      refine lv_eqi (y := nI (Ns 0 6)) (rfl) ?_
      refine lv_istore (lv' := [(6, .int (nI (Ns 0 6))), (0, .ref (b 0)), (1, .int (nI (w))), (2, .int (zb (Ns 0 (10 + w) = 1))), (3, .ref (qa18)), (4, .ref (qa23)), (5, .ref (qa29))]) E.1 E.2.1 dL_isFallen_92 hl (by decide) rfl (fun ls hl => ?_)
      refine lv_aload_n E.1 E.2.1 dL_isFallen_94 rfl (lv_at hl 1 rfl) ?_
      refine lv_iload_n E.1 E.2.1 dL_isFallen_95 rfl (lv_at hl 2 rfl) ?_
      refine callVIp E (c_X3_fall_ok l G b ad v pd rv Ns nx u hx0 hnx hu0 hu6 w hw5 hF hf) ES.eb (fun _ _ _ => trivial) mn_11_22 YX3_fall ⟨rfl, rfl⟩ ⟨Nat.le_of_ble_eq_true rfl, Nat.le_of_ble_eq_true rfl⟩ ⟨Nat.le_of_ble_eq_true rfl, Nat.le_of_ble_eq_true rfl⟩ hw (rr := [iA G qa29 (fill (fun j => cOf j 0 (Ns 0)) (d)), iA G qa23 (fill (fun j => Ns 0 (30 + 14 * j + 5)) (d)), iA G qa18 (fill (fun j => Ns 0 (30 + 14 * j + 1)) (d))]) (big' := iA G qa29 (fill (fun j => cOf j 0 (Ns 0)) (d)) :: iA G qa23 (fill (fun j => Ns 0 (30 + 14 * j + 5)) (d)) :: iA G qa18 (fill (fun j => Ns 0 (30 + 14 * j + 1)) (d)) :: cW G b ad (recV nx u v) pd rv (va_up (va_up (Ns) (2 + nx) (Ns 0)) 0 (nFal w (Ns 0)))) List.perm_append_comm List.perm_append_comm 0 rfl rfl rfl hl rfl (Nat.le_of_ble_eq_true rfl) dL_isFallen_96 (fun H locs hw => ?_)
      refine lv_eqi (y := nI (illN (mFall w (Ns 0)))) (hr0) ?_
      obtain ⟨Ms, vs, e0, hcv2, hw⟩ : ∃ (Ms : Nat → NS) (vs : Nat → Int32), Ms 0 = nFal w (Ns 0) ∧ CV vs ∧ HB G AA sS.heap (iA G qa29 (fill (fun j => cOf j 0 (Ns 0)) (d)) :: iA G qa23 (fill (fun j => Ns 0 (30 + 14 * j + 5)) (d)) :: iA G qa18 (fill (fun j => Ns 0 (30 + 14 * j + 1)) (d)) :: cW G b ad vs pd rv Ms) H locs := ⟨_, _, va_up_self _ _ _, CV.rec hnx hu6, hw⟩
      have hI2 : Inv (Ms 0) := by rw [e0]; exact (by rw [hN]; exact hI.fall hw5)
      have hDV2 : dvI (Ms 0) 5 = Ms 0 7 := by rw [e0]; exact (dv_fal hDV hw5).1
      have hF2 := hI2.1
      have hm2 := hI2.hm
      have e1 : Ms 0 = mFall w (Ns 0) := e0.trans hN
      have e5 : Ms 0 5 = Ns 0 5 := by rw [e1]; exact fall_lo hI hw5 (by omega) (by omega)
      have e6 : Ms 0 6 = Ns 0 6 := by rw [e1]; exact fall_lo hI hw5 (by omega) (by omega)
      have ew : Ms 0 (10 + w) = 1 := by rw [e1]; exact fall_w hI hw5
      refine lv_istore (lv' := [(7, .int (nI (illN (mFall w (Ns 0))))), (6, .int (nI (Ns 0 6))), (0, .ref (b 0)), (1, .int (nI (w))), (2, .int (zb (Ns 0 (10 + w) = 1))), (3, .ref (qa18)), (4, .ref (qa23)), (5, .ref (qa29))]) E.1 E.2.1 dL_isFallen_99 hl (by decide) rfl (fun ls hl => ?_)
      refine lv_iload_n E.1 E.2.1 dL_isFallen_101 rfl (lv_at hl 4 rfl) ?_
      refine lv_if_eqB (tgt := 118) E.1 E.2.1 dL_isFallen_102 (by decide) (fun c102 => ?_) (fun c102 => ?_)
      · skip
        refine lv_iconst (v := nI 0) E.1 E.2.1 dL_isFallen_118 (by decide) ?_
        refine lv_istore (lv' := [(8, .int (nI (0))), (7, .int (nI (illN (mFall w (Ns 0))))), (6, .int (nI (Ns 0 6))), (0, .ref (b 0)), (1, .int (nI (w))), (2, .int (zb (Ns 0 (10 + w) = 1))), (3, .ref (qa18)), (4, .ref (qa23)), (5, .ref (qa29))]) E.1 E.2.1 dL_isFallen_119 hl (by decide) rfl (fun ls hl => ?_)
        refine W_ind1 (nL := 12) (P := fun e => e ≤ Ns 0 5) (μ := fun e => Ns 0 5 - e) (I := fun e => iA G qa29 (fill (fun j => cOf j 0 (Ns 0)) (d)) :: iA G qa23 (fill (fun j => Ns 0 (30 + 14 * j + 5)) (d)) :: iA G qa18 (fill (fun j => Ns 0 (30 + 14 * j + 1)) (d)) :: cW G b ad vs pd rv Ms) (L := fun e => [(0, .ref (b 0)), (1, .int (nI (w))), (2, .int (zb (Ns 0 (10 + w) = 1))), (3, .ref (qa18)), (4, .ref (qa23)), (5, .ref (qa29)), (6, .int (nI (Ns 0 6))), (7, .int (nI (illN (mFall w (Ns 0))))), (8, .int (nI (e)))]) ?_ (0) (Nat.zero_le _) (HB.eq hw (rfl)) (lvh_eq (l := [(0, .ref (b 0)), (1, .int (nI (w))), (2, .int (zb (Ns 0 (10 + w) = 1))), (3, .ref (qa18)), (4, .ref (qa23)), (5, .ref (qa29)), (6, .int (nI (Ns 0 6))), (7, .int (nI (illN (mFall w (Ns 0))))), (8, .int (nI (0)))]) (lv_sub hl [3, 4, 5, 6, 7, 8, 2, 1, 0] rfl) (rfl))
        intro e hPe ihe H locs ls hw hl
        replace hw : HB G AA sS.heap (iA G qa29 (fill (fun j => cOf j 0 (Ns 0)) (d)) :: iA G qa23 (fill (fun j => Ns 0 (30 + 14 * j + 5)) (d)) :: iA G qa18 (fill (fun j => Ns 0 (30 + 14 * j + 1)) (d)) :: cW G b ad vs pd rv Ms) H locs := hw
        replace hl : lv_has ls 12 [(0, .ref (b 0)), (1, .int (nI (w))), (2, .int (zb (Ns 0 (10 + w) = 1))), (3, .ref (qa18)), (4, .ref (qa23)), (5, .ref (qa29)), (6, .int (nI (Ns 0 6))), (7, .int (nI (illN (mFall w (Ns 0))))), (8, .int (nI (e)))] := hl
        refine lv_iload E.1 E.2.1 dL_isFallen_121 (lv_at hl 8 rfl) ?_
        refine lv_aload_n E.1 E.2.1 dL_isFallen_123 rfl (lv_at hl 0 rfl) ?_
        refine lv_iconst (v := nI 1) E.1 E.2.1 dL_isFallen_124 (by decide) ?_
        refine callVIp E (c_X3_count_ok l G b ad vs pd rv Ms 1 (by decide) (by decide) (by decide) hF2 hDV2) ES.eb (fun _ _ _ => trivial) mn_3_8 YX3_count ⟨rfl, rfl⟩ ⟨Nat.le_of_ble_eq_true rfl, Nat.le_of_ble_eq_true rfl⟩ ⟨Nat.le_of_ble_eq_true rfl, Nat.le_of_ble_eq_true rfl⟩ hw (rr := [iA G qa29 (fill (fun j => cOf j 0 (Ns 0)) (d)), iA G qa23 (fill (fun j => Ns 0 (30 + 14 * j + 5)) (d)), iA G qa18 (fill (fun j => Ns 0 (30 + 14 * j + 1)) (d))]) (big' := iA G qa29 (fill (fun j => cOf j 0 (Ns 0)) (d)) :: iA G qa23 (fill (fun j => Ns 0 (30 + 14 * j + 5)) (d)) :: iA G qa18 (fill (fun j => Ns 0 (30 + 14 * j + 1)) (d)) :: cW G b ad vs pd rv Ms) List.perm_append_comm List.perm_append_comm 0 rfl rfl rfl hl rfl (Nat.le_of_ble_eq_true rfl) dL_isFallen_125 (fun H locs hw => ?_)
        refine lv_eqi (y := nI (Ms 0 5)) (rfl) ?_
        refine lv_icmp_geN (tgt := 247) E.1 E.2.1 (by omega) (by omega) dL_isFallen_128 (by decide) (fun c128 => ?_) (fun c128 => ?_)
        · skip
          refine lv_iload E.1 E.2.1 dL_isFallen_247 (lv_at hl 7 rfl) ?_
          refine lv_if_leN (tgt := 276) E.1 E.2.1 (by omega) dL_isFallen_249 (by decide) (fun c249 => ?_) (fun c249 => ?_)
          · omega
          · skip
            refine lv_aload_n E.1 E.2.1 dL_isFallen_252 rfl (lv_at hl 0 rfl) ?_
            refine lv_iload_n E.1 E.2.1 dL_isFallen_253 rfl (lv_at hl 1 rfl) ?_
            refine lv_iconst (v := nI 0) E.1 E.2.1 dL_isFallen_254 (by decide) ?_
            refine callVIp E (c_X3_who_ok l G b ad vs pd rv Ms w 0 (by omega) (by decide) hF2 hm2) ES.eb (fun _ _ _ => trivial) mn_6_14 YX3_who ⟨rfl, rfl⟩ ⟨Nat.le_of_ble_eq_true rfl, Nat.le_of_ble_eq_true rfl⟩ ⟨Nat.le_of_ble_eq_true rfl, Nat.le_of_ble_eq_true rfl⟩ hw (rr := [iA G qa29 (fill (fun j => cOf j 0 (Ns 0)) (d)), iA G qa23 (fill (fun j => Ns 0 (30 + 14 * j + 5)) (d)), iA G qa18 (fill (fun j => Ns 0 (30 + 14 * j + 1)) (d))]) (big' := iA G qa29 (fill (fun j => cOf j 0 (Ns 0)) (d)) :: iA G qa23 (fill (fun j => Ns 0 (30 + 14 * j + 5)) (d)) :: iA G qa18 (fill (fun j => Ns 0 (30 + 14 * j + 1)) (d)) :: cW G b ad vs pd rv Ms) List.perm_append_comm List.perm_append_comm 0 rfl rfl rfl hl rfl (Nat.le_of_ble_eq_true rfl) dL_isFallen_255 (fun H locs hw => ?_)
            refine lv_eqi (y := nI (Ms 0 (10 + w))) (rfl) ?_
            refine lv_iconst (v := nI 1) E.1 E.2.1 dL_isFallen_258 (by decide) ?_
            refine lv_icmp_neN (tgt := 276) E.1 E.2.1 (by omega) (by omega) dL_isFallen_259 (by decide) (fun c259 => ?_) (fun c259 => ?_)
            · exact absurd ew c259
            · skip
              refine lv_aload_n E.1 E.2.1 dL_isFallen_262 rfl (lv_at hl 0 rfl) ?_
              refine lv_iconst (v := nI 2) E.1 E.2.1 dL_isFallen_263 (by decide) ?_
              refine callVIp E (c_X3_count_ok l G b ad vs pd rv Ms 2 (by decide) (by decide) (by decide) hF2 hDV2) ES.eb (fun _ _ _ => trivial) mn_3_8 YX3_count ⟨rfl, rfl⟩ ⟨Nat.le_of_ble_eq_true rfl, Nat.le_of_ble_eq_true rfl⟩ ⟨Nat.le_of_ble_eq_true rfl, Nat.le_of_ble_eq_true rfl⟩ hw (rr := [iA G qa29 (fill (fun j => cOf j 0 (Ns 0)) (d)), iA G qa23 (fill (fun j => Ns 0 (30 + 14 * j + 5)) (d)), iA G qa18 (fill (fun j => Ns 0 (30 + 14 * j + 1)) (d))]) (big' := iA G qa29 (fill (fun j => cOf j 0 (Ns 0)) (d)) :: iA G qa23 (fill (fun j => Ns 0 (30 + 14 * j + 5)) (d)) :: iA G qa18 (fill (fun j => Ns 0 (30 + 14 * j + 1)) (d)) :: cW G b ad vs pd rv Ms) List.perm_append_comm List.perm_append_comm 0 rfl rfl rfl hl rfl (Nat.le_of_ble_eq_true rfl) dL_isFallen_264 (fun H locs hw => ?_)
              refine lv_eqi (y := nI (Ms 0 6)) (rfl) ?_
              refine lv_iload E.1 E.2.1 dL_isFallen_267 (lv_at hl 6 rfl) ?_
              refine lv_icmp_neN (tgt := 276) E.1 E.2.1 (by omega) (by omega) dL_isFallen_269 (by decide) (fun c269 => ?_) (fun c269 => ?_)
              · exact absurd e6 c269
              · skip
                refine lv_iconst (v := nI 1) E.1 E.2.1 dL_isFallen_272 (by decide) ?_
                refine lv_goto (tgt := 277) E.1 E.2.1 dL_isFallen_273 (by decide) ?_
                refine W.widen (k := 3) (n := 24) (Nat.le_of_ble_eq_true rfl) (Nat.le_of_ble_eq_true rfl) ?_
                replace hw := hw.tl
                replace hw := hw.tl
                replace hw := hw.tl
                exact rU E hr hlk (vs, Ms) (⟨hcv2, e0⟩) (HB.eq hw (rfl)) dL_isFallen_277
        · skip
          have qt := hF.f1 (d := e) (by omega)
          have q5 := hF.f5 (d := e) (by omega)
          have q0 : cOf e 0 (Ns 0) < 16 := cOf_lt
          have qq : cOf e 0 (Ms 0) < 16 := cOf_lt
          have r1 := hF2.f1 (d := e) (by omega)
          have r5 := hF2.f5 (d := e) (by omega)
          refine W_join0 (G := G) (A := AA) (H0 := sS.heap) (nL := 12) 151 (True) (iA G qa29 (fill (fun j => cOf j 0 (Ns 0)) (d)) :: iA G qa23 (fill (fun j => Ns 0 (30 + 14 * j + 5)) (d)) :: iA G qa18 (fill (fun j => Ns 0 (30 + 14 * j + 1)) (d)) :: cW G b ad vs pd rv Ms) ([(0, .ref (b 0)), (1, .int (nI (w))), (2, .int (zb (Ns 0 (10 + w) = 1))), (3, .ref (qa18)), (4, .ref (qa23)), (5, .ref (qa29)), (6, .int (nI (Ns 0 6))), (7, .int (nI (illN (mFall w (Ns 0))))), (8, .int (nI (e)))]) ([.int (nI (if w = 4 ∧ Ns 0 (30 + 14 * e + 1) = 0 then 2 else Ns 0 (30 + 14 * e + 1)))]) (fun jk131 => ?_) ?_
          · skip
            refine lv_iload_n E.1 E.2.1 dL_isFallen_131 rfl (lv_at hl 1 rfl) ?_
            refine lv_iconst (v := nI 4) E.1 E.2.1 dL_isFallen_132 (by decide) ?_
            refine lv_icmp_neN (tgt := 147) E.1 E.2.1 (by omega) (by omega) dL_isFallen_133 (by decide) (fun c133 => ?_) (fun c133 => ?_)
            · skip
              refine lv_aload_n E.1 E.2.1 dL_isFallen_147 rfl (lv_at hl 3 rfl) ?_
              refine lv_iload E.1 E.2.1 dL_isFallen_148 (lv_at hl 8 rfl) ?_
              refine aLd E hw 2 rfl (j := e) (by omega) (by decide) (v := nI (Ns 0 (30 + 14 * e + 1))) (fill_r (by omega)) dL_isFallen_150 ?_
              refine lv_eqi (y := nI (if w = 4 ∧ Ns 0 (30 + 14 * e + 1) = 0 then 2 else Ns 0 (30 + 14 * e + 1))) (by rw [if_neg (fun z => c133 z.1)]) ?_
              exact jk131  (trivial) _ _ _ (HB.eq hw (rfl)) (lvh_eq (l := [(0, .ref (b 0)), (1, .int (nI (w))), (2, .int (zb (Ns 0 (10 + w) = 1))), (3, .ref (qa18)), (4, .ref (qa23)), (5, .ref (qa29)), (6, .int (nI (Ns 0 6))), (7, .int (nI (illN (mFall w (Ns 0))))), (8, .int (nI (e)))]) (lv_sub hl [0, 1, 2, 3, 4, 5, 6, 7, 8] rfl) (rfl))
            · skip
              refine lv_aload_n E.1 E.2.1 dL_isFallen_136 rfl (lv_at hl 3 rfl) ?_
              refine lv_iload E.1 E.2.1 dL_isFallen_137 (lv_at hl 8 rfl) ?_
              refine aLd E hw 2 rfl (j := e) (by omega) (by decide) (v := nI (Ns 0 (30 + 14 * e + 1))) (fill_r (by omega)) dL_isFallen_139 ?_
              refine lv_if_neN (tgt := 147) E.1 E.2.1 (by omega) dL_isFallen_140 (by decide) (fun c140 => ?_) (fun c140 => ?_)
              · skip
                refine lv_aload_n E.1 E.2.1 dL_isFallen_147 rfl (lv_at hl 3 rfl) ?_
                refine lv_iload E.1 E.2.1 dL_isFallen_148 (lv_at hl 8 rfl) ?_
                refine aLd E hw 2 rfl (j := e) (by omega) (by decide) (v := nI (Ns 0 (30 + 14 * e + 1))) (fill_r (by omega)) dL_isFallen_150 ?_
                refine lv_eqi (y := nI (if w = 4 ∧ Ns 0 (30 + 14 * e + 1) = 0 then 2 else Ns 0 (30 + 14 * e + 1))) (by rw [if_neg (fun z => c140 z.2)]) ?_
                exact jk131  (trivial) _ _ _ (HB.eq hw (rfl)) (lvh_eq (l := [(0, .ref (b 0)), (1, .int (nI (w))), (2, .int (zb (Ns 0 (10 + w) = 1))), (3, .ref (qa18)), (4, .ref (qa23)), (5, .ref (qa29)), (6, .int (nI (Ns 0 6))), (7, .int (nI (illN (mFall w (Ns 0))))), (8, .int (nI (e)))]) (lv_sub hl [0, 1, 2, 3, 4, 5, 6, 7, 8] rfl) (rfl))
              · skip
                refine lv_iconst (v := nI 2) E.1 E.2.1 dL_isFallen_143 (by decide) ?_
                refine lv_goto (tgt := 151) E.1 E.2.1 dL_isFallen_144 (by decide) ?_
                refine lv_eqi (y := nI (if w = 4 ∧ Ns 0 (30 + 14 * e + 1) = 0 then 2 else Ns 0 (30 + 14 * e + 1))) (by rw [if_pos ⟨c133, c140⟩]) ?_
                exact jk131  (trivial) _ _ _ (HB.eq hw (rfl)) (lvh_eq (l := [(0, .ref (b 0)), (1, .int (nI (w))), (2, .int (zb (Ns 0 (10 + w) = 1))), (3, .ref (qa18)), (4, .ref (qa23)), (5, .ref (qa29)), (6, .int (nI (Ns 0 6))), (7, .int (nI (illN (mFall w (Ns 0))))), (8, .int (nI (e)))]) (lv_sub hl [0, 1, 2, 3, 4, 5, 6, 7, 8] rfl) (rfl))
          · intro  hP131 H locs ls hw hl
            replace hw : HB G AA sS.heap (iA G qa29 (fill (fun j => cOf j 0 (Ns 0)) (d)) :: iA G qa23 (fill (fun j => Ns 0 (30 + 14 * j + 5)) (d)) :: iA G qa18 (fill (fun j => Ns 0 (30 + 14 * j + 1)) (d)) :: cW G b ad vs pd rv Ms) H locs := hw
            replace hl : lv_has ls 12 [(0, .ref (b 0)), (1, .int (nI (w))), (2, .int (zb (Ns 0 (10 + w) = 1))), (3, .ref (qa18)), (4, .ref (qa23)), (5, .ref (qa29)), (6, .int (nI (Ns 0 6))), (7, .int (nI (illN (mFall w (Ns 0))))), (8, .int (nI (e)))] := hl
            show W _ _ _ _ _ _ _ _ _ _ _ _ _ _ _ (F0 mM 151 ls [.int (nI (if w = 4 ∧ Ns 0 (30 + 14 * e + 1) = 0 then 2 else Ns 0 (30 + 14 * e + 1)))])
            refine lv_istore (lv' := [(9, .int (nI (if w = 4 ∧ Ns 0 (30 + 14 * e + 1) = 0 then 2 else Ns 0 (30 + 14 * e + 1)))), (0, .ref (b 0)), (1, .int (nI (w))), (2, .int (zb (Ns 0 (10 + w) = 1))), (3, .ref (qa18)), (4, .ref (qa23)), (5, .ref (qa29)), (6, .int (nI (Ns 0 6))), (7, .int (nI (illN (mFall w (Ns 0))))), (8, .int (nI (e)))]) E.1 E.2.1 dL_isFallen_151 hl (by decide) rfl (fun ls hl => ?_)
            refine W_join0 (G := G) (A := AA) (H0 := sS.heap) (nL := 12) 175 (True) (iA G qa29 (fill (fun j => cOf j 0 (Ns 0)) (d)) :: iA G qa23 (fill (fun j => Ns 0 (30 + 14 * j + 5)) (d)) :: iA G qa18 (fill (fun j => Ns 0 (30 + 14 * j + 1)) (d)) :: cW G b ad vs pd rv Ms) ([(9, .int (nI (if w = 4 ∧ Ns 0 (30 + 14 * e + 1) = 0 then 2 else Ns 0 (30 + 14 * e + 1)))), (0, .ref (b 0)), (1, .int (nI (w))), (2, .int (zb (Ns 0 (10 + w) = 1))), (3, .ref (qa18)), (4, .ref (qa23)), (5, .ref (qa29)), (6, .int (nI (Ns 0 6))), (7, .int (nI (illN (mFall w (Ns 0))))), (8, .int (nI (e)))]) ([.int (nI (if w = 4 ∧ Ns 0 (30 + 14 * e + 1) = 1 then 0 else Ns 0 (30 + 14 * e + 5)))]) (fun jk153 => ?_) ?_
            · skip
              refine lv_iload_n E.1 E.2.1 dL_isFallen_153 rfl (lv_at hl 2 rfl) ?_
              refine lv_iconst (v := nI 4) E.1 E.2.1 dL_isFallen_154 (by decide) ?_
              refine lv_icmp_neN (tgt := 170) E.1 E.2.1 (by omega) (by omega) dL_isFallen_155 (by decide) (fun c155 => ?_) (fun c155 => ?_)
              · skip
                refine lv_aload E.1 E.2.1 dL_isFallen_170 (lv_at hl 5 rfl) ?_
                refine lv_iload E.1 E.2.1 dL_isFallen_172 (lv_at hl 9 rfl) ?_
                refine aLd E hw 1 rfl (j := e) (by omega) (by decide) (v := nI (Ns 0 (30 + 14 * e + 5))) (fill_r (by omega)) dL_isFallen_174 ?_
                refine lv_eqi (y := nI (if w = 4 ∧ Ns 0 (30 + 14 * e + 1) = 1 then 0 else Ns 0 (30 + 14 * e + 5))) (by rw [if_neg (fun z => c155 z.1)]) ?_
                exact jk153  (trivial) _ _ _ (HB.eq hw (rfl)) (lvh_eq (l := [(9, .int (nI (if w = 4 ∧ Ns 0 (30 + 14 * e + 1) = 0 then 2 else Ns 0 (30 + 14 * e + 1)))), (0, .ref (b 0)), (1, .int (nI (w))), (2, .int (zb (Ns 0 (10 + w) = 1))), (3, .ref (qa18)), (4, .ref (qa23)), (5, .ref (qa29)), (6, .int (nI (Ns 0 6))), (7, .int (nI (illN (mFall w (Ns 0))))), (8, .int (nI (e)))]) (lv_sub hl [0, 1, 2, 3, 4, 5, 6, 7, 8, 9] rfl) (rfl))
              · skip
                refine lv_aload_n E.1 E.2.1 dL_isFallen_158 rfl (lv_at hl 4 rfl) ?_
                refine lv_iload E.1 E.2.1 dL_isFallen_159 (lv_at hl 9 rfl) ?_
                refine aLd E hw 2 rfl (j := e) (by omega) (by decide) (v := nI (Ns 0 (30 + 14 * e + 1))) (fill_r (by omega)) dL_isFallen_161 ?_
                refine lv_iconst (v := nI 1) E.1 E.2.1 dL_isFallen_162 (by decide) ?_
                refine lv_icmp_neN (tgt := 170) E.1 E.2.1 (by omega) (by omega) dL_isFallen_163 (by decide) (fun c163 => ?_) (fun c163 => ?_)
                · skip
                  refine lv_aload E.1 E.2.1 dL_isFallen_170 (lv_at hl 5 rfl) ?_
                  refine lv_iload E.1 E.2.1 dL_isFallen_172 (lv_at hl 9 rfl) ?_
                  refine aLd E hw 1 rfl (j := e) (by omega) (by decide) (v := nI (Ns 0 (30 + 14 * e + 5))) (fill_r (by omega)) dL_isFallen_174 ?_
                  refine lv_eqi (y := nI (if w = 4 ∧ Ns 0 (30 + 14 * e + 1) = 1 then 0 else Ns 0 (30 + 14 * e + 5))) (by rw [if_neg (fun z => c163 z.2)]) ?_
                  exact jk153  (trivial) _ _ _ (HB.eq hw (rfl)) (lvh_eq (l := [(9, .int (nI (if w = 4 ∧ Ns 0 (30 + 14 * e + 1) = 0 then 2 else Ns 0 (30 + 14 * e + 1)))), (0, .ref (b 0)), (1, .int (nI (w))), (2, .int (zb (Ns 0 (10 + w) = 1))), (3, .ref (qa18)), (4, .ref (qa23)), (5, .ref (qa29)), (6, .int (nI (Ns 0 6))), (7, .int (nI (illN (mFall w (Ns 0))))), (8, .int (nI (e)))]) (lv_sub hl [0, 1, 2, 3, 4, 5, 6, 7, 8, 9] rfl) (rfl))
                · skip
                  refine lv_iconst (v := nI 0) E.1 E.2.1 dL_isFallen_166 (by decide) ?_
                  refine lv_goto (tgt := 175) E.1 E.2.1 dL_isFallen_167 (by decide) ?_
                  refine lv_eqi (y := nI (if w = 4 ∧ Ns 0 (30 + 14 * e + 1) = 1 then 0 else Ns 0 (30 + 14 * e + 5))) (by rw [if_pos ⟨c155, c163⟩]) ?_
                  exact jk153  (trivial) _ _ _ (HB.eq hw (rfl)) (lvh_eq (l := [(9, .int (nI (if w = 4 ∧ Ns 0 (30 + 14 * e + 1) = 0 then 2 else Ns 0 (30 + 14 * e + 1)))), (0, .ref (b 0)), (1, .int (nI (w))), (2, .int (zb (Ns 0 (10 + w) = 1))), (3, .ref (qa18)), (4, .ref (qa23)), (5, .ref (qa29)), (6, .int (nI (Ns 0 6))), (7, .int (nI (illN (mFall w (Ns 0))))), (8, .int (nI (e)))]) (lv_sub hl [0, 1, 2, 3, 4, 5, 6, 7, 8, 9] rfl) (rfl))
            · intro  hP153 H locs ls hw hl
              replace hw : HB G AA sS.heap (iA G qa29 (fill (fun j => cOf j 0 (Ns 0)) (d)) :: iA G qa23 (fill (fun j => Ns 0 (30 + 14 * j + 5)) (d)) :: iA G qa18 (fill (fun j => Ns 0 (30 + 14 * j + 1)) (d)) :: cW G b ad vs pd rv Ms) H locs := hw
              replace hl : lv_has ls 12 [(9, .int (nI (if w = 4 ∧ Ns 0 (30 + 14 * e + 1) = 0 then 2 else Ns 0 (30 + 14 * e + 1)))), (0, .ref (b 0)), (1, .int (nI (w))), (2, .int (zb (Ns 0 (10 + w) = 1))), (3, .ref (qa18)), (4, .ref (qa23)), (5, .ref (qa29)), (6, .int (nI (Ns 0 6))), (7, .int (nI (illN (mFall w (Ns 0))))), (8, .int (nI (e)))] := hl
              show W _ _ _ _ _ _ _ _ _ _ _ _ _ _ _ (F0 mM 175 ls [.int (nI (if w = 4 ∧ Ns 0 (30 + 14 * e + 1) = 1 then 0 else Ns 0 (30 + 14 * e + 5)))])
              refine lv_istore (lv' := [(10, .int (nI (if w = 4 ∧ Ns 0 (30 + 14 * e + 1) = 1 then 0 else Ns 0 (30 + 14 * e + 5)))), (9, .int (nI (if w = 4 ∧ Ns 0 (30 + 14 * e + 1) = 0 then 2 else Ns 0 (30 + 14 * e + 1)))), (0, .ref (b 0)), (1, .int (nI (w))), (2, .int (zb (Ns 0 (10 + w) = 1))), (3, .ref (qa18)), (4, .ref (qa23)), (5, .ref (qa29)), (6, .int (nI (Ns 0 6))), (7, .int (nI (illN (mFall w (Ns 0))))), (8, .int (nI (e)))]) E.1 E.2.1 dL_isFallen_175 hl (by decide) rfl (fun ls hl => ?_)
              refine W_join0 (G := G) (A := AA) (H0 := sS.heap) (nL := 12) 201 (True) (iA G qa29 (fill (fun j => cOf j 0 (Ns 0)) (d)) :: iA G qa23 (fill (fun j => Ns 0 (30 + 14 * j + 5)) (d)) :: iA G qa18 (fill (fun j => Ns 0 (30 + 14 * j + 1)) (d)) :: cW G b ad vs pd rv Ms) ([(10, .int (nI (if w = 4 ∧ Ns 0 (30 + 14 * e + 1) = 1 then 0 else Ns 0 (30 + 14 * e + 5)))), (9, .int (nI (if w = 4 ∧ Ns 0 (30 + 14 * e + 1) = 0 then 2 else Ns 0 (30 + 14 * e + 1)))), (0, .ref (b 0)), (1, .int (nI (w))), (2, .int (zb (Ns 0 (10 + w) = 1))), (3, .ref (qa18)), (4, .ref (qa23)), (5, .ref (qa29)), (6, .int (nI (Ns 0 6))), (7, .int (nI (illN (mFall w (Ns 0))))), (8, .int (nI (e)))]) ([.int (nI (if w < 4 then cOf e 0 (Ns 0) &&& (15 ^^^ 2 ^ w) else cOf e 0 (Ns 0)))]) (fun jk177 => ?_) ?_
              · skip
                refine lv_iload_n E.1 E.2.1 dL_isFallen_177 rfl (lv_at hl 3 rfl) ?_
                refine lv_iconst (v := nI 4) E.1 E.2.1 dL_isFallen_178 (by decide) ?_
                refine lv_icmp_geN (tgt := 196) E.1 E.2.1 (by omega) (by omega) dL_isFallen_179 (by decide) (fun c179 => ?_) (fun c179 => ?_)
                · skip
                  refine lv_aload E.1 E.2.1 dL_isFallen_196 (lv_at hl 7 rfl) ?_
                  refine lv_iload E.1 E.2.1 dL_isFallen_198 (lv_at hl 10 rfl) ?_
                  refine aLd E hw 0 rfl (j := e) (by omega) (by decide) (v := nI (cOf e 0 (Ns 0))) (fill_r (by omega)) dL_isFallen_200 ?_
                  refine lv_eqi (y := nI (if w < 4 then cOf e 0 (Ns 0) &&& (15 ^^^ 2 ^ w) else cOf e 0 (Ns 0))) (by rw [if_neg (by omega)]) ?_
                  exact jk177  (trivial) _ _ _ (HB.eq hw (rfl)) (lvh_eq (l := [(10, .int (nI (if w = 4 ∧ Ns 0 (30 + 14 * e + 1) = 1 then 0 else Ns 0 (30 + 14 * e + 5)))), (9, .int (nI (if w = 4 ∧ Ns 0 (30 + 14 * e + 1) = 0 then 2 else Ns 0 (30 + 14 * e + 1)))), (0, .ref (b 0)), (1, .int (nI (w))), (2, .int (zb (Ns 0 (10 + w) = 1))), (3, .ref (qa18)), (4, .ref (qa23)), (5, .ref (qa29)), (6, .int (nI (Ns 0 6))), (7, .int (nI (illN (mFall w (Ns 0))))), (8, .int (nI (e)))]) (lv_sub hl [0, 1, 2, 3, 4, 5, 6, 7, 8, 9, 10] rfl) (rfl))
                · skip
                  refine lv_aload E.1 E.2.1 dL_isFallen_182 (lv_at hl 7 rfl) ?_
                  refine lv_iload E.1 E.2.1 dL_isFallen_184 (lv_at hl 10 rfl) ?_
                  refine aLd E hw 0 rfl (j := e) (by omega) (by decide) (v := nI (cOf e 0 (Ns 0))) (fill_r (by omega)) dL_isFallen_186 ?_
                  refine lv_iconst (v := nI 1) E.1 E.2.1 dL_isFallen_187 (by decide) ?_
                  refine lv_iload_n E.1 E.2.1 dL_isFallen_188 rfl (lv_at hl 3 rfl) ?_
                  refine lv_ishl E.1 E.2.1 dL_isFallen_189 (lv_eqi (y := nI (2 ^ w)) (shl_1 _ (by omega)) ?_)
                  refine lv_iconst (v := -1) E.1 E.2.1 dL_isFallen_190 (by decide) ?_
                  refine lv_ixor E.1 E.2.1 dL_isFallen_191 ?_
                  refine lv_iand E.1 E.2.1 dL_isFallen_192 (lv_eqi (y := nI (cOf e 0 (Ns 0) &&& (15 ^^^ 2 ^ w))) (andn_nI _ (by omega) _ (pow_lt16 _ (by omega))) ?_)
                  refine lv_goto (tgt := 201) E.1 E.2.1 dL_isFallen_193 (by decide) ?_
                  refine lv_eqi (y := nI (if w < 4 then cOf e 0 (Ns 0) &&& (15 ^^^ 2 ^ w) else cOf e 0 (Ns 0))) (by rw [if_pos (by omega)]) ?_
                  exact jk177  (trivial) _ _ _ (HB.eq hw (rfl)) (lvh_eq (l := [(10, .int (nI (if w = 4 ∧ Ns 0 (30 + 14 * e + 1) = 1 then 0 else Ns 0 (30 + 14 * e + 5)))), (9, .int (nI (if w = 4 ∧ Ns 0 (30 + 14 * e + 1) = 0 then 2 else Ns 0 (30 + 14 * e + 1)))), (0, .ref (b 0)), (1, .int (nI (w))), (2, .int (zb (Ns 0 (10 + w) = 1))), (3, .ref (qa18)), (4, .ref (qa23)), (5, .ref (qa29)), (6, .int (nI (Ns 0 6))), (7, .int (nI (illN (mFall w (Ns 0))))), (8, .int (nI (e)))]) (lv_sub hl [0, 1, 2, 3, 4, 5, 6, 7, 8, 9, 10] rfl) (rfl))
              · intro  hP177 H locs ls hw hl
                replace hw : HB G AA sS.heap (iA G qa29 (fill (fun j => cOf j 0 (Ns 0)) (d)) :: iA G qa23 (fill (fun j => Ns 0 (30 + 14 * j + 5)) (d)) :: iA G qa18 (fill (fun j => Ns 0 (30 + 14 * j + 1)) (d)) :: cW G b ad vs pd rv Ms) H locs := hw
                replace hl : lv_has ls 12 [(10, .int (nI (if w = 4 ∧ Ns 0 (30 + 14 * e + 1) = 1 then 0 else Ns 0 (30 + 14 * e + 5)))), (9, .int (nI (if w = 4 ∧ Ns 0 (30 + 14 * e + 1) = 0 then 2 else Ns 0 (30 + 14 * e + 1)))), (0, .ref (b 0)), (1, .int (nI (w))), (2, .int (zb (Ns 0 (10 + w) = 1))), (3, .ref (qa18)), (4, .ref (qa23)), (5, .ref (qa29)), (6, .int (nI (Ns 0 6))), (7, .int (nI (illN (mFall w (Ns 0))))), (8, .int (nI (e)))] := hl
                show W _ _ _ _ _ _ _ _ _ _ _ _ _ _ _ (F0 mM 201 ls [.int (nI (if w < 4 then cOf e 0 (Ns 0) &&& (15 ^^^ 2 ^ w) else cOf e 0 (Ns 0)))])
                refine lv_istore (lv' := [(11, .int (nI (if w < 4 then cOf e 0 (Ns 0) &&& (15 ^^^ 2 ^ w) else cOf e 0 (Ns 0)))), (10, .int (nI (if w = 4 ∧ Ns 0 (30 + 14 * e + 1) = 1 then 0 else Ns 0 (30 + 14 * e + 5)))), (9, .int (nI (if w = 4 ∧ Ns 0 (30 + 14 * e + 1) = 0 then 2 else Ns 0 (30 + 14 * e + 1)))), (0, .ref (b 0)), (1, .int (nI (w))), (2, .int (zb (Ns 0 (10 + w) = 1))), (3, .ref (qa18)), (4, .ref (qa23)), (5, .ref (qa29)), (6, .int (nI (Ns 0 6))), (7, .int (nI (illN (mFall w (Ns 0))))), (8, .int (nI (e)))]) E.1 E.2.1 dL_isFallen_201 hl (by decide) rfl (fun ls hl => ?_)
                have qa : (if w = 4 ∧ Ns 0 (30 + 14 * e + 1) = 0 then 2 else Ns 0 (30 + 14 * e + 1)) < 4 := by split <;> omega
                have qb : (if w = 4 ∧ Ns 0 (30 + 14 * e + 1) = 1 then 0 else Ns 0 (30 + 14 * e + 5)) < 16 := by split <;> omega
                have qd : (if w < 4 then cOf e 0 (Ns 0) &&& (15 ^^^ 2 ^ w) else cOf e 0 (Ns 0)) < 16 := by split <;> first | exact and_lt16 q0 | exact q0
                refine lv_aload_n E.1 E.2.1 dL_isFallen_203 rfl (lv_at hl 3 rfl) ?_
                refine lv_iload E.1 E.2.1 dL_isFallen_204 (lv_at hl 11 rfl) ?_
                refine lv_iconst (v := nI 1) E.1 E.2.1 dL_isFallen_206 (by decide) ?_
                refine callVIp E (c_X3_ofDeal_ok l G b ad vs pd rv Ms e (by omega) hF2 1 (by decide)) ES.eb (fun _ _ _ => trivial) mn_7_11 YX3_ofDeal ⟨rfl, rfl⟩ ⟨Nat.le_of_ble_eq_true rfl, Nat.le_of_ble_eq_true rfl⟩ ⟨Nat.le_of_ble_eq_true rfl, Nat.le_of_ble_eq_true rfl⟩ hw (rr := [iA G qa29 (fill (fun j => cOf j 0 (Ns 0)) (d)), iA G qa23 (fill (fun j => Ns 0 (30 + 14 * j + 5)) (d)), iA G qa18 (fill (fun j => Ns 0 (30 + 14 * j + 1)) (d))]) (big' := iA G qa29 (fill (fun j => cOf j 0 (Ns 0)) (d)) :: iA G qa23 (fill (fun j => Ns 0 (30 + 14 * j + 5)) (d)) :: iA G qa18 (fill (fun j => Ns 0 (30 + 14 * j + 1)) (d)) :: cW G b ad vs pd rv Ms) List.perm_append_comm List.perm_append_comm 0 rfl rfl rfl hl rfl (Nat.le_of_ble_eq_true rfl) dL_isFallen_207 (fun H locs hw => ?_)
                refine lv_eqi (y := nI (Ms 0 (30 + 14 * e + 1))) (rfl) ?_
                refine lv_iload E.1 E.2.1 dL_isFallen_210 (lv_at hl 2 rfl) ?_
                refine lv_icmp_neN (tgt := 239) E.1 E.2.1 (by omega) (by omega) dL_isFallen_212 (by decide) (fun c212 => ?_) (fun c212 => ?_)
                · exact absurd ((congrFun e1 _).trans (fall_1 hI hw5 (by omega))) c212
                · skip
                  refine lv_aload_n E.1 E.2.1 dL_isFallen_215 rfl (lv_at hl 3 rfl) ?_
                  refine lv_iload E.1 E.2.1 dL_isFallen_216 (lv_at hl 11 rfl) ?_
                  refine lv_iconst (v := nI 4) E.1 E.2.1 dL_isFallen_218 (by decide) ?_
                  refine callVIp E (c_X3_ofDeal_ok l G b ad vs pd rv Ms e (by omega) hF2 4 (by decide)) ES.eb (fun _ _ _ => trivial) mn_7_11 YX3_ofDeal ⟨rfl, rfl⟩ ⟨Nat.le_of_ble_eq_true rfl, Nat.le_of_ble_eq_true rfl⟩ ⟨Nat.le_of_ble_eq_true rfl, Nat.le_of_ble_eq_true rfl⟩ hw (rr := [iA G qa29 (fill (fun j => cOf j 0 (Ns 0)) (d)), iA G qa23 (fill (fun j => Ns 0 (30 + 14 * j + 5)) (d)), iA G qa18 (fill (fun j => Ns 0 (30 + 14 * j + 1)) (d))]) (big' := iA G qa29 (fill (fun j => cOf j 0 (Ns 0)) (d)) :: iA G qa23 (fill (fun j => Ns 0 (30 + 14 * j + 5)) (d)) :: iA G qa18 (fill (fun j => Ns 0 (30 + 14 * j + 1)) (d)) :: cW G b ad vs pd rv Ms) List.perm_append_comm List.perm_append_comm 0 rfl rfl rfl hl rfl (Nat.le_of_ble_eq_true rfl) dL_isFallen_219 (fun H locs hw => ?_)
                  refine lv_eqi (y := nI (Ms 0 (30 + 14 * e + 5))) (rfl) ?_
                  refine lv_iload E.1 E.2.1 dL_isFallen_222 (lv_at hl 1 rfl) ?_
                  refine lv_icmp_neN (tgt := 239) E.1 E.2.1 (by omega) (by omega) dL_isFallen_224 (by decide) (fun c224 => ?_) (fun c224 => ?_)
                  · exact absurd ((congrFun e1 _).trans (fall_5 hI hw5 (by omega))) c224
                  · skip
                    refine lv_aload_n E.1 E.2.1 dL_isFallen_227 rfl (lv_at hl 3 rfl) ?_
                    refine lv_iload E.1 E.2.1 dL_isFallen_228 (lv_at hl 11 rfl) ?_
                    refine lv_iconst (v := nI 5) E.1 E.2.1 dL_isFallen_230 (by decide) ?_
                    refine callVIp E (c_X3_ofDeal_ok l G b ad vs pd rv Ms e (by omega) hF2 5 (by decide)) ES.eb (fun _ _ _ => trivial) mn_7_11 YX3_ofDeal ⟨rfl, rfl⟩ ⟨Nat.le_of_ble_eq_true rfl, Nat.le_of_ble_eq_true rfl⟩ ⟨Nat.le_of_ble_eq_true rfl, Nat.le_of_ble_eq_true rfl⟩ hw (rr := [iA G qa29 (fill (fun j => cOf j 0 (Ns 0)) (d)), iA G qa23 (fill (fun j => Ns 0 (30 + 14 * j + 5)) (d)), iA G qa18 (fill (fun j => Ns 0 (30 + 14 * j + 1)) (d))]) (big' := iA G qa29 (fill (fun j => cOf j 0 (Ns 0)) (d)) :: iA G qa23 (fill (fun j => Ns 0 (30 + 14 * j + 5)) (d)) :: iA G qa18 (fill (fun j => Ns 0 (30 + 14 * j + 1)) (d)) :: cW G b ad vs pd rv Ms) List.perm_append_comm List.perm_append_comm 0 rfl rfl rfl hl rfl (Nat.le_of_ble_eq_true rfl) dL_isFallen_231 (fun H locs hw => ?_)
                    refine lv_eqi (y := nI (cOf e 0 (Ms 0))) (rfl) ?_
                    refine lv_iload E.1 E.2.1 dL_isFallen_234 (lv_at hl 0 rfl) ?_
                    refine lv_icmp_eqN (tgt := 241) E.1 E.2.1 (by omega) (by omega) dL_isFallen_236 (by decide) (fun c236 => ?_) (fun c236 => ?_)
                    · skip
                      refine lv_iincN (k := 11) (lv' := [(8, .int (nI (e + 1))), (11, .int (nI (if w < 4 then cOf e 0 (Ns 0) &&& (15 ^^^ 2 ^ w) else cOf e 0 (Ns 0)))), (10, .int (nI (if w = 4 ∧ Ns 0 (30 + 14 * e + 1) = 1 then 0 else Ns 0 (30 + 14 * e + 5)))), (9, .int (nI (if w = 4 ∧ Ns 0 (30 + 14 * e + 1) = 0 then 2 else Ns 0 (30 + 14 * e + 1)))), (0, .ref (b 0)), (1, .int (nI (w))), (2, .int (zb (Ns 0 (10 + w) = 1))), (3, .ref (qa18)), (4, .ref (qa23)), (5, .ref (qa29)), (6, .int (nI (Ns 0 6))), (7, .int (nI (illN (mFall w (Ns 0)))))]) E.1 E.2.1 dL_isFallen_241 hl rfl (by decide) rfl (fun ls hl => ?_)
                      refine lv_goto (tgt := 121) E.1 E.2.1 dL_isFallen_244 (by decide) ?_
                      exact ihe (e + 1) (by omega) (by omega) _ _ _ (HB.eq hw (rfl)) (lvh_eq (l := [(0, .ref (b 0)), (1, .int (nI (w))), (2, .int (zb (Ns 0 (10 + w) = 1))), (3, .ref (qa18)), (4, .ref (qa23)), (5, .ref (qa29)), (6, .int (nI (Ns 0 6))), (7, .int (nI (illN (mFall w (Ns 0))))), (8, .int (nI (e + 1)))]) (lv_sub hl [4, 5, 6, 7, 8, 9, 10, 11, 0] rfl) (rfl))
                    · exact absurd ((congrArg (cOf e 0) e1).trans (fall_c hI hw5 (by omega))) c236
      · exact absurd c102 hq
    · skip
      refine lv_aload_n E.1 E.2.1 dL_isFallen_46 rfl (lv_at hl 3 rfl) ?_
      refine lv_iload E.1 E.2.1 dL_isFallen_47 (lv_at hl 6 rfl) ?_
      refine lv_aload_n E.1 E.2.1 dL_isFallen_49 rfl (lv_at hl 0 rfl) ?_
      refine lv_iload E.1 E.2.1 dL_isFallen_50 (lv_at hl 6 rfl) ?_
      refine lv_iconst (v := nI 1) E.1 E.2.1 dL_isFallen_52 (by decide) ?_
      refine callVIp E (c_X3_ofDeal_ok l G b ad v pd rv Ns d (by omega) hF 1 (by decide)) ES.eb (fun _ _ _ => trivial) mn_7_11 YX3_ofDeal ⟨rfl, rfl⟩ ⟨Nat.le_of_ble_eq_true rfl, Nat.le_of_ble_eq_true rfl⟩ ⟨Nat.le_of_ble_eq_true rfl, Nat.le_of_ble_eq_true rfl⟩ hw (rr := [iA G qa29 (fill (fun j => cOf j 0 (Ns 0)) (d)), iA G qa23 (fill (fun j => Ns 0 (30 + 14 * j + 5)) (d)), iA G qa18 (fill (fun j => Ns 0 (30 + 14 * j + 1)) (d))]) (big' := iA G qa29 (fill (fun j => cOf j 0 (Ns 0)) (d)) :: iA G qa23 (fill (fun j => Ns 0 (30 + 14 * j + 5)) (d)) :: iA G qa18 (fill (fun j => Ns 0 (30 + 14 * j + 1)) (d)) :: cW G b ad v pd rv Ns) List.perm_append_comm List.perm_append_comm 0 rfl rfl rfl hl rfl (Nat.le_of_ble_eq_true rfl) dL_isFallen_53 (fun H locs hw => ?_)
      refine lv_eqi (y := nI (Ns 0 (30 + 14 * d + 1))) (rfl) ?_
      refine aSt E hw 2 rfl (j := d) (by omega) (by decide) dL_isFallen_56 (fun H locs hw => ?_)
      replace hw : HB G AA sS.heap (iA G qa29 (fill (fun j => cOf j 0 (Ns 0)) (d)) :: iA G qa23 (fill (fun j => Ns 0 (30 + 14 * j + 5)) (d)) :: iA G qa18 (fill (fun j => Ns 0 (30 + 14 * j + 1)) (d + 1)) :: cW G b ad v pd rv Ns) H locs := HB.eq hw (by show iA G qa29 (fill (fun j => cOf j 0 (Ns 0)) (d)) :: iA G qa23 (fill (fun j => Ns 0 (30 + 14 * j + 5)) (d)) :: iA G qa18 (upd (fill (fun j => Ns 0 (30 + 14 * j + 1)) (d)) d (nI (Ns 0 (30 + 14 * d + 1)))) :: _ = _; rw [fill_s rfl])
      refine lv_aload E.1 E.2.1 dL_isFallen_57 (lv_at hl 4 rfl) ?_
      refine lv_iload E.1 E.2.1 dL_isFallen_59 (lv_at hl 6 rfl) ?_
      refine lv_aload_n E.1 E.2.1 dL_isFallen_61 rfl (lv_at hl 0 rfl) ?_
      refine lv_iload E.1 E.2.1 dL_isFallen_62 (lv_at hl 6 rfl) ?_
      refine lv_iconst (v := nI 4) E.1 E.2.1 dL_isFallen_64 (by decide) ?_
      refine callVIp E (c_X3_ofDeal_ok l G b ad v pd rv Ns d (by omega) hF 4 (by decide)) ES.eb (fun _ _ _ => trivial) mn_7_11 YX3_ofDeal ⟨rfl, rfl⟩ ⟨Nat.le_of_ble_eq_true rfl, Nat.le_of_ble_eq_true rfl⟩ ⟨Nat.le_of_ble_eq_true rfl, Nat.le_of_ble_eq_true rfl⟩ hw (rr := [iA G qa29 (fill (fun j => cOf j 0 (Ns 0)) (d)), iA G qa23 (fill (fun j => Ns 0 (30 + 14 * j + 5)) (d)), iA G qa18 (fill (fun j => Ns 0 (30 + 14 * j + 1)) (d + 1))]) (big' := iA G qa29 (fill (fun j => cOf j 0 (Ns 0)) (d)) :: iA G qa23 (fill (fun j => Ns 0 (30 + 14 * j + 5)) (d)) :: iA G qa18 (fill (fun j => Ns 0 (30 + 14 * j + 1)) (d + 1)) :: cW G b ad v pd rv Ns) List.perm_append_comm List.perm_append_comm 0 rfl rfl rfl hl rfl (Nat.le_of_ble_eq_true rfl) dL_isFallen_65 (fun H locs hw => ?_)
      refine lv_eqi (y := nI (Ns 0 (30 + 14 * d + 5))) (rfl) ?_
      refine aSt E hw 1 rfl (j := d) (by omega) (by decide) dL_isFallen_68 (fun H locs hw => ?_)
      replace hw : HB G AA sS.heap (iA G qa29 (fill (fun j => cOf j 0 (Ns 0)) (d)) :: iA G qa23 (fill (fun j => Ns 0 (30 + 14 * j + 5)) (d + 1)) :: iA G qa18 (fill (fun j => Ns 0 (30 + 14 * j + 1)) (d + 1)) :: cW G b ad v pd rv Ns) H locs := HB.eq hw (by show iA G qa29 (fill (fun j => cOf j 0 (Ns 0)) (d)) :: iA G qa23 (upd (fill (fun j => Ns 0 (30 + 14 * j + 5)) (d)) d (nI (Ns 0 (30 + 14 * d + 5)))) :: _ = _; rw [fill_s rfl])
      refine lv_aload E.1 E.2.1 dL_isFallen_69 (lv_at hl 5 rfl) ?_
      refine lv_iload E.1 E.2.1 dL_isFallen_71 (lv_at hl 6 rfl) ?_
      refine lv_aload_n E.1 E.2.1 dL_isFallen_73 rfl (lv_at hl 0 rfl) ?_
      refine lv_iload E.1 E.2.1 dL_isFallen_74 (lv_at hl 6 rfl) ?_
      refine lv_iconst (v := nI 5) E.1 E.2.1 dL_isFallen_76 (by decide) ?_
      refine callVIp E (c_X3_ofDeal_ok l G b ad v pd rv Ns d (by omega) hF 5 (by decide)) ES.eb (fun _ _ _ => trivial) mn_7_11 YX3_ofDeal ⟨rfl, rfl⟩ ⟨Nat.le_of_ble_eq_true rfl, Nat.le_of_ble_eq_true rfl⟩ ⟨Nat.le_of_ble_eq_true rfl, Nat.le_of_ble_eq_true rfl⟩ hw (rr := [iA G qa29 (fill (fun j => cOf j 0 (Ns 0)) (d)), iA G qa23 (fill (fun j => Ns 0 (30 + 14 * j + 5)) (d + 1)), iA G qa18 (fill (fun j => Ns 0 (30 + 14 * j + 1)) (d + 1))]) (big' := iA G qa29 (fill (fun j => cOf j 0 (Ns 0)) (d)) :: iA G qa23 (fill (fun j => Ns 0 (30 + 14 * j + 5)) (d + 1)) :: iA G qa18 (fill (fun j => Ns 0 (30 + 14 * j + 1)) (d + 1)) :: cW G b ad v pd rv Ns) List.perm_append_comm List.perm_append_comm 0 rfl rfl rfl hl rfl (Nat.le_of_ble_eq_true rfl) dL_isFallen_77 (fun H locs hw => ?_)
      refine lv_eqi (y := nI (cOf d 0 (Ns 0))) (rfl) ?_
      refine aSt E hw 0 rfl (j := d) (by omega) (by decide) dL_isFallen_80 (fun H locs hw => ?_)
      replace hw : HB G AA sS.heap (iA G qa29 (fill (fun j => cOf j 0 (Ns 0)) (d + 1)) :: iA G qa23 (fill (fun j => Ns 0 (30 + 14 * j + 5)) (d + 1)) :: iA G qa18 (fill (fun j => Ns 0 (30 + 14 * j + 1)) (d + 1)) :: cW G b ad v pd rv Ns) H locs := HB.eq hw (by show iA G qa29 (upd (fill (fun j => cOf j 0 (Ns 0)) (d)) d (nI (cOf d 0 (Ns 0)))) :: _ = _; rw [fill_s rfl])
      refine lv_iincN (k := 6) (lv' := [(6, .int (nI (d + 1))), (0, .ref (b 0)), (1, .int (nI (w))), (2, .int (zb (Ns 0 (10 + w) = 1))), (3, .ref (qa18)), (4, .ref (qa23)), (5, .ref (qa29))]) E.1 E.2.1 dL_isFallen_81 hl rfl (by decide) rfl (fun ls hl => ?_)
      refine lv_goto (tgt := 36) E.1 E.2.1 dL_isFallen_84 (by decide) ?_
      exact ihd (d + 1) (by omega) (by omega) _ _ _ (HB.eq hw (rfl)) (lvh_eq (l := [(0, .ref (b 0)), (1, .int (nI (w))), (2, .int (zb (Ns 0 (10 + w) = 1))), (3, .ref (qa18)), (4, .ref (qa23)), (5, .ref (qa29)), (6, .int (nI (d + 1)))]) (lv_sub hl [1, 2, 3, 4, 5, 6, 0] rfl) (rfl))
theorem c_L_isFallen (l : Launch) (G : GP) (b : Nat → Nat) (ad : Nat → Nat → Nat) (v pd rv : Nat → Int32) (Ns : Nat → NS) (hcv : CV v) (hI : Inv (Ns 0)) (hDV : dvI (Ns 0) 5 = Ns 0 7) (hV : VI (Ns 0)) (w : Nat) (hw5 : w < 5) : MU l yL_isFallen (.code yL_isFallen cL_isFallen 12 (some .boolean) :: GW) ({ frames := 6, cells := 3, slots := 24, locals := 160 }) [.ref (b 0), .int (nI (w))] G ES (cW G b ad v pd rv Ns) (fun u : (Nat → Int32) × (Nat → NS) => cW G b ad u.1 pd rv u.2) (fun u => CV u.1 ∧ u.2 0 = nFal w (Ns 0)) := by
  by_cases hq : Ns 0 (10 + w) = 1
  · exact c_L_isFallen_no l G b ad v pd rv Ns hcv hI hDV hV w hw5 hq
  · exact c_L_isFallen_ok l G b ad v pd rv Ns hcv hI hDV hV w hw5 hq

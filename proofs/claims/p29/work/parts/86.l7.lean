abbrev enP (N : NS) (d : Nat) : Prop := N 14 = 0 ∧ N (30 + 14 * d + 1) = 0 ∧ ¬ nI (N 4) - nI (N (30 + 14 * d + 2)) < nI (N 0)
def thG (N : NS) (d : Nat) : Nat := if enP N d then 2 else N (30 + 14 * d + 1)
theorem pass_th {N : NS} (hI : Inv N) {e : Nat} (he : e < N 5) : mPass N (30 + 14 * e + 1) = thG N e := by
  obtain ⟨p1, p2⟩ := pass_1 hI he
  unfold thG
  by_cases z : enP N e
  · rw [if_pos z]; exact p1 z
  · rw [if_neg z]; exact p2 z
theorem thG_lt {N : NS} (hI : Inv N) {e : Nat} (he : e < 8) : thG N e < 4 := by
  unfold thG
  split
  · decide
  · exact hI.1.f1 he
theorem thG_2 {N : NS} {e : Nat} (h : N 14 = 0) (h2 : EN2 N e) : thG N e = 2 := if_pos ⟨h, h2⟩
theorem thG_1 {N : NS} {e : Nat} (h : N (30 + 14 * e + 1) = 1) : thG N e = 1 := by
  unfold thG
  rw [if_neg (fun z => by have := z.2.1; omega)]; exact h
theorem YL_isTick : YS yL_isTick RL cL_isTick 13 (some .boolean) 1 := ⟨mn_9_1, mn_3_2, mn_9_2, by decide +kernel⟩
set_option maxHeartbeats 4000000 in
set_option maxRecDepth 100000 in
theorem c_L_isTick (l : Launch) (G : GP) (b : Nat → Nat) (ad : Nat → Nat → Nat) (v pd rv : Nat → Int32) (Ns : Nat → NS) (hcv : CV v) (hI : Inv (Ns 0)) (hDV : dvI (Ns 0) 5 = Ns 0 7) (hV : VI (Ns 0)) (ht4 : Ns 0 4 < 1000000) : MU l yL_isTick (.code yL_isTick cL_isTick 13 (some .boolean) :: GW) ({ frames := 7, cells := 2, slots := 16, locals := 200 }) [.ref (b 0)] G (ES) (cW G b ad v pd rv Ns) (fun u : (Nat → Int32) × (Nat → NS) => cW G b ad u.1 pd rv u.2) (fun u => CV u.1 ∧ u.2 0 = mPass (Ns 0)) := by
  refine MU.of (own := RL) rfl rfl (Nat.le_of_ble_eq_true rfl) ?_
  intro pP eE sS mM below meth cC ls AA E hw hl hr hlk hE
  replace hl : lv_has ls 13 [(0, .ref (b 0))] := hl
  have hF := hI.1
  have hm := hI.hm
  have h5 := hF.2.1
  have h6 := hF.1
  obtain ⟨nx, u, hx0, hnx, hu0, hu6⟩ := id hcv
  have i14 : Ns 0 14 ≤ 1 := hF.il (w := 4) (by omega)
  have h4 : mTicks 1 (Ns 0) 4 < 2 ^ 31 := by rw [show mTicks 1 (Ns 0) 4 = Ns 0 4 + 1 from (DV.pss hDV).2]; omega
  refine lv_aload_n E.1 E.2.1 dL_isTick_0 rfl (lv_at hl 0 rfl) ?_
  refine lv_iconst (v := nI 0) E.1 E.2.1 dL_isTick_1 (by decide) ?_
  refine callVIp E (c_X3_count_ok l G b ad v pd rv Ns 0 (by decide) (by decide) (by decide) hF hDV) ES.eb (fun _ _ _ => trivial) mn_3_8 YX3_count ⟨rfl, rfl⟩ ⟨Nat.le_of_ble_eq_true rfl, Nat.le_of_ble_eq_true rfl⟩ ⟨Nat.le_of_ble_eq_true rfl, Nat.le_of_ble_eq_true rfl⟩ hw (rr := []) (big' := cW G b ad v pd rv Ns) (by rw [List.append_nil]) (by rw [List.append_nil]) 0 rfl rfl rfl hl rfl (Nat.le_of_ble_eq_true rfl) dL_isTick_2 (fun H locs hw => ?_)
  refine lv_eqi (y := nI (Ns 0 4)) (rfl) ?_
  refine lv_istore_n (lv' := [(1, .int (nI (Ns 0 4))), (0, .ref (b 0))]) E.1 E.2.1 dL_isTick_5 rfl hl (by decide) rfl (fun ls hl => ?_)
  refine lv_aload_n E.1 E.2.1 dL_isTick_6 rfl (lv_at hl 1 rfl) ?_
  refine lv_iconst (v := nI 2) E.1 E.2.1 dL_isTick_7 (by decide) ?_
  refine callVIp E (c_X3_count_ok l G b ad v pd rv Ns 2 (by decide) (by decide) (by decide) hF hDV) ES.eb (fun _ _ _ => trivial) mn_3_8 YX3_count ⟨rfl, rfl⟩ ⟨Nat.le_of_ble_eq_true rfl, Nat.le_of_ble_eq_true rfl⟩ ⟨Nat.le_of_ble_eq_true rfl, Nat.le_of_ble_eq_true rfl⟩ hw (rr := []) (big' := cW G b ad v pd rv Ns) (by rw [List.append_nil]) (by rw [List.append_nil]) 0 rfl rfl rfl hl rfl (Nat.le_of_ble_eq_true rfl) dL_isTick_8 (fun H locs hw => ?_)
  refine lv_eqi (y := nI (Ns 0 6)) (rfl) ?_
  refine lv_istore_n (lv' := [(2, .int (nI (Ns 0 6))), (1, .int (nI (Ns 0 4))), (0, .ref (b 0))]) E.1 E.2.1 dL_isTick_11 rfl hl (by decide) rfl (fun ls hl => ?_)
  refine lv_bipush (v := nI 8) E.1 E.2.1 dL_isTick_12 (by decide) ?_
  refine nwA E hw (t := 0) (ty := .int) rfl (atype := .int) rfl mw_2_5 (k := 8) (a0 := (8, .inl (fun _ => 0))) (fun _ => rfl) (by decide) ⟨Nat.le_of_ble_eq_true rfl, Nat.le_of_ble_eq_true rfl⟩ dL_isTick_14 (fun qa14 H hw => ?_)
  replace hw : HB G AA sS.heap (iA G qa14 (fun _ => 0) :: cW G b ad v pd rv Ns) H locs := hw.perm List.perm_append_comm
  refine lv_astore_n (lv' := [(3, .ref (qa14)), (2, .int (nI (Ns 0 6))), (1, .int (nI (Ns 0 4))), (0, .ref (b 0))]) E.1 E.2.1 dL_isTick_16 rfl hl (by decide) rfl (fun ls hl => ?_)
  refine lv_iload_n E.1 E.2.1 dL_isTick_17 rfl (lv_at hl 1 rfl) ?_
  refine lv_istore (lv' := [(4, .int (nI (Ns 0 6))), (3, .ref (qa14)), (2, .int (nI (Ns 0 6))), (1, .int (nI (Ns 0 4))), (0, .ref (b 0))]) E.1 E.2.1 dL_isTick_18 hl (by decide) rfl (fun ls hl => ?_)
  refine lv_iconst (v := nI 0) E.1 E.2.1 dL_isTick_20 (by decide) ?_
  refine lv_istore (lv' := [(5, .int (nI (0))), (4, .int (nI (Ns 0 6))), (3, .ref (qa14)), (2, .int (nI (Ns 0 6))), (1, .int (nI (Ns 0 4))), (0, .ref (b 0))]) E.1 E.2.1 dL_isTick_21 hl (by decide) rfl (fun ls hl => ?_)
  refine W_ind1 (nL := 13) (P := fun d => d ≤ Ns 0 5) (μ := fun d => Ns 0 5 - d) (I := fun d => iA G qa14 (fill (fun j => Ns 0 (30 + 14 * j + 1)) (d)) :: cW G b ad v pd rv Ns) (L := fun d => [(0, .ref (b 0)), (1, .int (nI (Ns 0 4))), (2, .int (nI (Ns 0 6))), (3, .ref (qa14)), (4, .int (nI (Ns 0 6))), (5, .int (nI (d)))]) ?_ (0) (Nat.zero_le _) (HB.eq hw (by simp only [fill_00])) (lvh_eq (l := [(0, .ref (b 0)), (1, .int (nI (Ns 0 4))), (2, .int (nI (Ns 0 6))), (3, .ref (qa14)), (4, .int (nI (Ns 0 6))), (5, .int (nI (0)))]) (lv_sub hl [5, 4, 3, 2, 1, 0] rfl) (rfl))
  intro d hPd ihd H locs ls hw hl
  replace hw : HB G AA sS.heap (iA G qa14 (fill (fun j => Ns 0 (30 + 14 * j + 1)) (d)) :: cW G b ad v pd rv Ns) H locs := hw
  replace hl : lv_has ls 13 [(0, .ref (b 0)), (1, .int (nI (Ns 0 4))), (2, .int (nI (Ns 0 6))), (3, .ref (qa14)), (4, .int (nI (Ns 0 6))), (5, .int (nI (d)))] := hl
  refine lv_iload E.1 E.2.1 dL_isTick_23 (lv_at hl 5 rfl) ?_
  refine lv_aload_n E.1 E.2.1 dL_isTick_25 rfl (lv_at hl 0 rfl) ?_
  refine lv_iconst (v := nI 1) E.1 E.2.1 dL_isTick_26 (by decide) ?_
  refine callVIp E (c_X3_count_ok l G b ad v pd rv Ns 1 (by decide) (by decide) (by decide) hF hDV) ES.eb (fun _ _ _ => trivial) mn_3_8 YX3_count ⟨rfl, rfl⟩ ⟨Nat.le_of_ble_eq_true rfl, Nat.le_of_ble_eq_true rfl⟩ ⟨Nat.le_of_ble_eq_true rfl, Nat.le_of_ble_eq_true rfl⟩ hw (rr := [iA G qa14 (fill (fun j => Ns 0 (30 + 14 * j + 1)) (d))]) (big' := iA G qa14 (fill (fun j => Ns 0 (30 + 14 * j + 1)) (d)) :: cW G b ad v pd rv Ns) List.perm_append_comm List.perm_append_comm 0 rfl rfl rfl hl rfl (Nat.le_of_ble_eq_true rfl) dL_isTick_27 (fun H locs hw => ?_)
  refine lv_eqi (y := nI (Ns 0 5)) (rfl) ?_
  refine lv_icmp_geN (tgt := 50) E.1 E.2.1 (by omega) (by omega) dL_isTick_30 (by decide) (fun c30 => ?_) (fun c30 => ?_)
  · skip
    refine W_join0 (G := G) (A := AA) (H0 := sS.heap) (nL := 13) 64 (True) (iA G qa14 (fill (fun j => Ns 0 (30 + 14 * j + 1)) (d)) :: cW G b ad v pd rv Ns) ([(0, .ref (b 0)), (1, .int (nI (Ns 0 4))), (2, .int (nI (Ns 0 6))), (3, .ref (qa14)), (4, .int (nI (Ns 0 6))), (5, .int (nI (d)))]) ([.int (zb (Ns 0 14 = 0))]) (fun jk50 => ?_) ?_
    · skip
      refine lv_aload_n E.1 E.2.1 dL_isTick_50 rfl (lv_at hl 0 rfl) ?_
      refine lv_iconst (v := nI 4) E.1 E.2.1 dL_isTick_51 (by decide) ?_
      refine lv_iconst (v := nI 0) E.1 E.2.1 dL_isTick_52 (by decide) ?_
      refine callVIp E (c_X3_who_ok l G b ad v pd rv Ns 4 0 (by decide) (by decide) hF hm) ES.eb (fun _ _ _ => trivial) mn_6_14 YX3_who ⟨rfl, rfl⟩ ⟨Nat.le_of_ble_eq_true rfl, Nat.le_of_ble_eq_true rfl⟩ ⟨Nat.le_of_ble_eq_true rfl, Nat.le_of_ble_eq_true rfl⟩ hw (rr := [iA G qa14 (fill (fun j => Ns 0 (30 + 14 * j + 1)) (d))]) (big' := iA G qa14 (fill (fun j => Ns 0 (30 + 14 * j + 1)) (d)) :: cW G b ad v pd rv Ns) List.perm_append_comm List.perm_append_comm 0 rfl rfl rfl hl rfl (Nat.le_of_ble_eq_true rfl) dL_isTick_53 (fun H locs hw => ?_)
      refine lv_eqi (y := nI (Ns 0 14)) (rfl) ?_
      refine lv_if_neN (tgt := 63) E.1 E.2.1 (by omega) dL_isTick_56 (by decide) (fun c56 => ?_) (fun c56 => ?_)
      · skip
        refine lv_iconst (v := nI 0) E.1 E.2.1 dL_isTick_63 (by decide) ?_
        refine lv_eqi (y := zb (Ns 0 14 = 0)) ((zb_f (c56)).symm) ?_
        exact jk50  (trivial) _ _ _ (HB.eq hw (rfl)) (lvh_eq (l := [(0, .ref (b 0)), (1, .int (nI (Ns 0 4))), (2, .int (nI (Ns 0 6))), (3, .ref (qa14)), (4, .int (nI (Ns 0 6))), (5, .int (nI (d)))]) (lv_sub hl [0, 1, 2, 3, 4, 5] rfl) (rfl))
      · skip
        refine lv_iconst (v := nI 1) E.1 E.2.1 dL_isTick_59 (by decide) ?_
        refine lv_goto (tgt := 64) E.1 E.2.1 dL_isTick_60 (by decide) ?_
        refine lv_eqi (y := zb (Ns 0 14 = 0)) ((zb_t (c56)).symm) ?_
        exact jk50  (trivial) _ _ _ (HB.eq hw (rfl)) (lvh_eq (l := [(0, .ref (b 0)), (1, .int (nI (Ns 0 4))), (2, .int (nI (Ns 0 6))), (3, .ref (qa14)), (4, .int (nI (Ns 0 6))), (5, .int (nI (d)))]) (lv_sub hl [0, 1, 2, 3, 4, 5] rfl) (rfl))
    · intro  hP50 H locs ls hw hl
      replace hw : HB G AA sS.heap (iA G qa14 (fill (fun j => Ns 0 (30 + 14 * j + 1)) (d)) :: cW G b ad v pd rv Ns) H locs := hw
      replace hl : lv_has ls 13 [(0, .ref (b 0)), (1, .int (nI (Ns 0 4))), (2, .int (nI (Ns 0 6))), (3, .ref (qa14)), (4, .int (nI (Ns 0 6))), (5, .int (nI (d)))] := hl
      show W _ _ _ _ _ _ _ _ _ _ _ _ _ _ _ (F0 mM 64 ls [.int (zb (Ns 0 14 = 0))])
      refine lv_istore (lv' := [(5, .int (zb (Ns 0 14 = 0))), (0, .ref (b 0)), (1, .int (nI (Ns 0 4))), (2, .int (nI (Ns 0 6))), (3, .ref (qa14)), (4, .int (nI (Ns 0 6)))]) E.1 E.2.1 dL_isTick_64 hl (by decide) rfl (fun ls hl => ?_)
      refine lv_bipush (v := nI 8) E.1 E.2.1 dL_isTick_66 (by decide) ?_
      refine nwA E hw (t := 0) (ty := .int) rfl (atype := .int) rfl mw_2_5 (k := 8) (a0 := (8, .inl (fun _ => 0))) (fun _ => rfl) (by decide) ⟨Nat.le_of_ble_eq_true rfl, Nat.le_of_ble_eq_true rfl⟩ dL_isTick_68 (fun qa68 H hw => ?_)
      replace hw : HB G AA sS.heap (iA G qa68 (fun _ => 0) :: iA G qa14 (fill (fun j => Ns 0 (30 + 14 * j + 1)) (d)) :: cW G b ad v pd rv Ns) H locs := hw.perm List.perm_append_comm
      refine lv_astore (lv' := [(6, .ref (qa68)), (5, .int (zb (Ns 0 14 = 0))), (0, .ref (b 0)), (1, .int (nI (Ns 0 4))), (2, .int (nI (Ns 0 6))), (3, .ref (qa14)), (4, .int (nI (Ns 0 6)))]) E.1 E.2.1 dL_isTick_70 hl (by decide) rfl (fun ls hl => ?_)
      refine lv_iconst (v := nI 0) E.1 E.2.1 dL_isTick_72 (by decide) ?_
      refine lv_istore (lv' := [(7, .int (nI (0))), (6, .ref (qa68)), (5, .int (zb (Ns 0 14 = 0))), (0, .ref (b 0)), (1, .int (nI (Ns 0 4))), (2, .int (nI (Ns 0 6))), (3, .ref (qa14)), (4, .int (nI (Ns 0 6)))]) E.1 E.2.1 dL_isTick_73 hl (by decide) rfl (fun ls hl => ?_)
      refine W_ind1 (nL := 13) (P := fun d2 => d2 ≤ Ns 0 5) (μ := fun d2 => Ns 0 5 - d2) (I := fun d2 => iA G qa68 (fill (thG (Ns 0)) (d2)) :: iA G qa14 (fill (fun j => Ns 0 (30 + 14 * j + 1)) (d)) :: cW G b ad v pd rv Ns) (L := fun d2 => [(0, .ref (b 0)), (1, .int (nI (Ns 0 4))), (2, .int (nI (Ns 0 6))), (3, .ref (qa14)), (4, .int (nI (Ns 0 6))), (5, .int (zb (Ns 0 14 = 0))), (6, .ref (qa68)), (7, .int (nI (d2)))]) ?_ (0) (Nat.zero_le _) (HB.eq hw (by simp only [fill_00])) (lvh_eq (l := [(0, .ref (b 0)), (1, .int (nI (Ns 0 4))), (2, .int (nI (Ns 0 6))), (3, .ref (qa14)), (4, .int (nI (Ns 0 6))), (5, .int (zb (Ns 0 14 = 0))), (6, .ref (qa68)), (7, .int (nI (0)))]) (lv_sub hl [3, 4, 5, 6, 7, 2, 1, 0] rfl) (rfl))
      intro d2 hPe ihe H locs ls hw hl
      replace hw : HB G AA sS.heap (iA G qa68 (fill (thG (Ns 0)) (d2)) :: iA G qa14 (fill (fun j => Ns 0 (30 + 14 * j + 1)) (d)) :: cW G b ad v pd rv Ns) H locs := hw
      replace hl : lv_has ls 13 [(0, .ref (b 0)), (1, .int (nI (Ns 0 4))), (2, .int (nI (Ns 0 6))), (3, .ref (qa14)), (4, .int (nI (Ns 0 6))), (5, .int (zb (Ns 0 14 = 0))), (6, .ref (qa68)), (7, .int (nI (d2)))] := hl
      refine lv_iload E.1 E.2.1 dL_isTick_75 (lv_at hl 7 rfl) ?_
      refine lv_aload_n E.1 E.2.1 dL_isTick_77 rfl (lv_at hl 0 rfl) ?_
      refine lv_iconst (v := nI 1) E.1 E.2.1 dL_isTick_78 (by decide) ?_
      refine callVIp E (c_X3_count_ok l G b ad v pd rv Ns 1 (by decide) (by decide) (by decide) hF hDV) ES.eb (fun _ _ _ => trivial) mn_3_8 YX3_count ⟨rfl, rfl⟩ ⟨Nat.le_of_ble_eq_true rfl, Nat.le_of_ble_eq_true rfl⟩ ⟨Nat.le_of_ble_eq_true rfl, Nat.le_of_ble_eq_true rfl⟩ hw (rr := [iA G qa68 (fill (thG (Ns 0)) (d2)), iA G qa14 (fill (fun j => Ns 0 (30 + 14 * j + 1)) (d))]) (big' := iA G qa68 (fill (thG (Ns 0)) (d2)) :: iA G qa14 (fill (fun j => Ns 0 (30 + 14 * j + 1)) (d)) :: cW G b ad v pd rv Ns) List.perm_append_comm List.perm_append_comm 0 rfl rfl rfl hl rfl (Nat.le_of_ble_eq_true rfl) dL_isTick_79 (fun H locs hw => ?_)
      refine lv_eqi (y := nI (Ns 0 5)) (rfl) ?_
      refine lv_icmp_geN (tgt := 146) E.1 E.2.1 (by omega) (by omega) dL_isTick_82 (by decide) (fun c82 => ?_) (fun c82 => ?_)
      · skip
        refine lv_aload_n E.1 E.2.1 dL_isTick_146 rfl (lv_at hl 0 rfl) ?_
        refine lv_iconst (v := nI 1) E.1 E.2.1 dL_isTick_147 (by decide) ?_
        refine callVIp E (c_X3_ticks_ok l G b ad v pd rv Ns nx u hx0 hnx hu0 hu6 1 (by decide) hF h4) ES.eb (fun _ _ _ => trivial) mn_9_3 YX3_ticks ⟨rfl, rfl⟩ ⟨Nat.le_of_ble_eq_true rfl, Nat.le_of_ble_eq_true rfl⟩ ⟨Nat.le_of_ble_eq_true rfl, Nat.le_of_ble_eq_true rfl⟩ hw (rr := [iA G qa68 (fill (thG (Ns 0)) (d2)), iA G qa14 (fill (fun j => Ns 0 (30 + 14 * j + 1)) (d))]) (big' := iA G qa68 (fill (thG (Ns 0)) (d2)) :: iA G qa14 (fill (fun j => Ns 0 (30 + 14 * j + 1)) (d)) :: cW G b ad (recV nx u v) pd rv (va_up (va_up (Ns) (2 + nx) (Ns 0)) 0 (mTicks 1 (Ns 0)))) List.perm_append_comm List.perm_append_comm 0 rfl rfl rfl hl rfl (Nat.le_of_ble_eq_true rfl) dL_isTick_148 (fun H locs hw => ?_)
        refine lv_eqi (y := nI (Ns 0 4 + 1)) (congrArg nI (DV.pss hDV).2) ?_
        obtain ⟨Ms, vs, e0, hcv2, hw⟩ : ∃ (Ms : Nat → NS) (vs : Nat → Int32), Ms 0 = mPass (Ns 0) ∧ CV vs ∧ HB G AA sS.heap (iA G qa68 (fill (thG (Ns 0)) (d2)) :: iA G qa14 (fill (fun j => Ns 0 (30 + 14 * j + 1)) (d)) :: cW G b ad vs pd rv Ms) H locs := ⟨_, _, va_up_self _ _ _, CV.rec hnx hu6, hw⟩
        have hI2 : Inv (Ms 0) := by rw [e0]; exact hI.pss
        have hDV2 : dvI (Ms 0) 5 = Ms 0 7 := by rw [e0]; exact (DV.pss hDV).1
        have hF2 := hI2.1
        have hm2 := hI2.hm
        have h62 := hF2.1
        have e5 : Ms 0 5 = Ns 0 5 := by rw [e0]; exact pass_lo hI (by decide)
        refine lv_iload_n E.1 E.2.1 dL_isTick_151 rfl (lv_at hl 1 rfl) ?_
        refine lv_iconst (v := nI 1) E.1 E.2.1 dL_isTick_152 (by decide) ?_
        refine lv_addN E.1 E.2.1 dL_isTick_153 ?_
        refine lv_icmp_eqN (tgt := 159) E.1 E.2.1 (by omega) (by omega) dL_isTick_154 (by decide) (fun c154 => ?_) (fun c154 => ?_)
        · skip
          refine lv_iconst (v := nI 0) E.1 E.2.1 dL_isTick_159 (by decide) ?_
          refine lv_istore (lv' := [(7, .int (nI (0))), (0, .ref (b 0)), (1, .int (nI (Ns 0 4))), (2, .int (nI (Ns 0 6))), (3, .ref (qa14)), (4, .int (nI (Ns 0 6))), (5, .int (zb (Ns 0 14 = 0))), (6, .ref (qa68))]) E.1 E.2.1 dL_isTick_160 hl (by decide) rfl (fun ls hl => ?_)
          refine W_ind1 (nL := 13) (P := fun d3 => d3 ≤ Ns 0 5) (μ := fun d3 => Ns 0 5 - d3) (I := fun d3 => iA G qa68 (fill (thG (Ns 0)) (d2)) :: iA G qa14 (fill (fun j => Ns 0 (30 + 14 * j + 1)) (d)) :: cW G b ad vs pd rv Ms) (L := fun d3 => [(0, .ref (b 0)), (1, .int (nI (Ns 0 4))), (2, .int (nI (Ns 0 6))), (3, .ref (qa14)), (4, .int (nI (Ns 0 6))), (5, .int (zb (Ns 0 14 = 0))), (6, .ref (qa68)), (7, .int (nI (d3)))]) ?_ (0) (Nat.zero_le _) (HB.eq hw (rfl)) (lvh_eq (l := [(0, .ref (b 0)), (1, .int (nI (Ns 0 4))), (2, .int (nI (Ns 0 6))), (3, .ref (qa14)), (4, .int (nI (Ns 0 6))), (5, .int (zb (Ns 0 14 = 0))), (6, .ref (qa68)), (7, .int (nI (0)))]) (lv_sub hl [1, 2, 3, 4, 5, 6, 7, 0] rfl) (rfl))
          intro d3 hPf ihf H locs ls hw hl
          replace hw : HB G AA sS.heap (iA G qa68 (fill (thG (Ns 0)) (d2)) :: iA G qa14 (fill (fun j => Ns 0 (30 + 14 * j + 1)) (d)) :: cW G b ad vs pd rv Ms) H locs := hw
          replace hl : lv_has ls 13 [(0, .ref (b 0)), (1, .int (nI (Ns 0 4))), (2, .int (nI (Ns 0 6))), (3, .ref (qa14)), (4, .int (nI (Ns 0 6))), (5, .int (zb (Ns 0 14 = 0))), (6, .ref (qa68)), (7, .int (nI (d3)))] := hl
          refine lv_iload E.1 E.2.1 dL_isTick_162 (lv_at hl 7 rfl) ?_
          refine lv_aload_n E.1 E.2.1 dL_isTick_164 rfl (lv_at hl 0 rfl) ?_
          refine lv_iconst (v := nI 1) E.1 E.2.1 dL_isTick_165 (by decide) ?_
          refine callVIp E (c_X3_count_ok l G b ad vs pd rv Ms 1 (by decide) (by decide) (by decide) hF2 hDV2) ES.eb (fun _ _ _ => trivial) mn_3_8 YX3_count ⟨rfl, rfl⟩ ⟨Nat.le_of_ble_eq_true rfl, Nat.le_of_ble_eq_true rfl⟩ ⟨Nat.le_of_ble_eq_true rfl, Nat.le_of_ble_eq_true rfl⟩ hw (rr := [iA G qa68 (fill (thG (Ns 0)) (d2)), iA G qa14 (fill (fun j => Ns 0 (30 + 14 * j + 1)) (d))]) (big' := iA G qa68 (fill (thG (Ns 0)) (d2)) :: iA G qa14 (fill (fun j => Ns 0 (30 + 14 * j + 1)) (d)) :: cW G b ad vs pd rv Ms) List.perm_append_comm List.perm_append_comm 0 rfl rfl rfl hl rfl (Nat.le_of_ble_eq_true rfl) dL_isTick_166 (fun H locs hw => ?_)
          refine lv_eqi (y := nI (Ms 0 5)) (rfl) ?_
          refine lv_icmp_geN (tgt := 195) E.1 E.2.1 (by omega) (by omega) dL_isTick_169 (by decide) (fun c169 => ?_) (fun c169 => ?_)
          · skip
            refine lv_iconst (v := nI 0) E.1 E.2.1 dL_isTick_195 (by decide) ?_
            refine lv_istore (lv' := [(7, .int (nI (0))), (0, .ref (b 0)), (1, .int (nI (Ns 0 4))), (2, .int (nI (Ns 0 6))), (3, .ref (qa14)), (4, .int (nI (Ns 0 6))), (5, .int (zb (Ns 0 14 = 0))), (6, .ref (qa68))]) E.1 E.2.1 dL_isTick_196 hl (by decide) rfl (fun ls hl => ?_)
            refine lv_iconst (v := nI 0) E.1 E.2.1 dL_isTick_198 (by decide) ?_
            refine lv_istore (lv' := [(8, .int (nI (0))), (7, .int (nI (0))), (0, .ref (b 0)), (1, .int (nI (Ns 0 4))), (2, .int (nI (Ns 0 6))), (3, .ref (qa14)), (4, .int (nI (Ns 0 6))), (5, .int (zb (Ns 0 14 = 0))), (6, .ref (qa68))]) E.1 E.2.1 dL_isTick_199 hl (by decide) rfl (fun ls hl => ?_)
            obtain ⟨z, z1, z2, zB, zs, zC, zt⟩ := pass_m hI
            rw [← e0] at z2 zB zs zC zt
            refine W_join0 (G := G) (A := AA) (H0 := sS.heap) (nL := 13) 337 (True) (iA G qa68 (fill (thG (Ns 0)) (d2)) :: iA G qa14 (fill (fun j => Ns 0 (30 + 14 * j + 1)) (d)) :: cW G b ad vs pd rv Ms) ([(0, .ref (b 0)), (1, .int (nI (Ns 0 4))), (2, .int (nI (Ns 0 6))), (3, .ref (qa14)), (4, .int (nI (z))), (5, .int (zb (Ns 0 14 = 0))), (6, .ref (qa68)), (8, .int (nI (0)))]) ([]) (fun jk201 => ?_) ?_
            · skip
              refine W_ind2 (nL := 13) (P := fun a e => Ns 0 6 ≤ a ∧ a ≤ z ∧ (a < z → e ≤ Ms 0 (150 + 4 * a + 1))) (μ := fun a e => z - a) (I := fun a e => iA G qa68 (fill (thG (Ns 0)) (d2)) :: iA G qa14 (fill (fun j => Ns 0 (30 + 14 * j + 1)) (d)) :: cW G b ad vs pd rv Ms) (L := fun a e => [(0, .ref (b 0)), (1, .int (nI (Ns 0 4))), (2, .int (nI (Ns 0 6))), (3, .ref (qa14)), (4, .int (nI (a))), (5, .int (zb (Ns 0 14 = 0))), (6, .ref (qa68)), (7, .int (nI (e))), (8, .int (nI (0)))]) ?_ (Ns 0 6) (0) (⟨Nat.le_refl _, z1, fun _ => Nat.zero_le _⟩) (HB.eq hw (rfl)) (lvh_eq (l := [(0, .ref (b 0)), (1, .int (nI (Ns 0 4))), (2, .int (nI (Ns 0 6))), (3, .ref (qa14)), (4, .int (nI (Ns 0 6))), (5, .int (zb (Ns 0 14 = 0))), (6, .ref (qa68)), (7, .int (nI (0))), (8, .int (nI (0)))]) (lv_sub hl [2, 3, 4, 5, 6, 7, 8, 1, 0] rfl) (rfl))
              intro a e hPa iha H locs ls hw hl
              replace hw : HB G AA sS.heap (iA G qa68 (fill (thG (Ns 0)) (d2)) :: iA G qa14 (fill (fun j => Ns 0 (30 + 14 * j + 1)) (d)) :: cW G b ad vs pd rv Ms) H locs := hw
              replace hl : lv_has ls 13 [(0, .ref (b 0)), (1, .int (nI (Ns 0 4))), (2, .int (nI (Ns 0 6))), (3, .ref (qa14)), (4, .int (nI (a))), (5, .int (zb (Ns 0 14 = 0))), (6, .ref (qa68)), (7, .int (nI (e))), (8, .int (nI (0)))] := hl
              refine lv_iload E.1 E.2.1 dL_isTick_201 (lv_at hl 4 rfl) ?_
              refine lv_aload_n E.1 E.2.1 dL_isTick_203 rfl (lv_at hl 0 rfl) ?_
              refine lv_iconst (v := nI 2) E.1 E.2.1 dL_isTick_204 (by decide) ?_
              refine callVIp E (c_X3_count_ok l G b ad vs pd rv Ms 2 (by decide) (by decide) (by decide) hF2 hDV2) ES.eb (fun _ _ _ => trivial) mn_3_8 YX3_count ⟨rfl, rfl⟩ ⟨Nat.le_of_ble_eq_true rfl, Nat.le_of_ble_eq_true rfl⟩ ⟨Nat.le_of_ble_eq_true rfl, Nat.le_of_ble_eq_true rfl⟩ hw (rr := [iA G qa68 (fill (thG (Ns 0)) (d2)), iA G qa14 (fill (fun j => Ns 0 (30 + 14 * j + 1)) (d))]) (big' := iA G qa68 (fill (thG (Ns 0)) (d2)) :: iA G qa14 (fill (fun j => Ns 0 (30 + 14 * j + 1)) (d)) :: cW G b ad vs pd rv Ms) List.perm_append_comm List.perm_append_comm 0 rfl rfl rfl hl rfl (Nat.le_of_ble_eq_true rfl) dL_isTick_205 (fun H locs hw => ?_)
              refine lv_eqi (y := nI (Ms 0 6)) (rfl) ?_
              refine lv_icmp_geN (tgt := 337) E.1 E.2.1 (by omega) (by omega) dL_isTick_208 (by decide) (fun c208 => ?_) (fun c208 => ?_)
              · skip
                exact jk201  (trivial) _ _ _ (HB.eq hw (rfl)) (lvh_eq (l := [(0, .ref (b 0)), (1, .int (nI (Ns 0 4))), (2, .int (nI (Ns 0 6))), (3, .ref (qa14)), (4, .int (nI (a))), (5, .int (zb (Ns 0 14 = 0))), (6, .ref (qa68)), (8, .int (nI (0)))]) (lv_sub hl [0, 1, 2, 3, 4, 5, 6, 8] rfl) (by rw [show a = z by omega]))
              · skip
                have hp3 := hPa.2.2
                have hmk := (hI2.2.1 a (by omega))
                obtain ⟨mk1, mk2, mk3, mk4, -⟩ := hmk
                replace mk1 : Ms 0 (150 + 4 * a + 0) < 7 := mk1
                refine lv_aload_n E.1 E.2.1 dL_isTick_211 rfl (lv_at hl 0 rfl) ?_
                refine lv_iload E.1 E.2.1 dL_isTick_212 (lv_at hl 4 rfl) ?_
                refine lv_iconst (v := nI 2) E.1 E.2.1 dL_isTick_214 (by decide) ?_
                refine callVIp E (c_X3_message_ok l G b ad vs pd rv Ms a (by omega) hF2 2 (by decide)) ES.eb (fun _ _ _ => trivial) mn_8_8 YX3_message ⟨rfl, rfl⟩ ⟨Nat.le_of_ble_eq_true rfl, Nat.le_of_ble_eq_true rfl⟩ ⟨Nat.le_of_ble_eq_true rfl, Nat.le_of_ble_eq_true rfl⟩ hw (rr := [iA G qa68 (fill (thG (Ns 0)) (d2)), iA G qa14 (fill (fun j => Ns 0 (30 + 14 * j + 1)) (d))]) (big' := iA G qa68 (fill (thG (Ns 0)) (d2)) :: iA G qa14 (fill (fun j => Ns 0 (30 + 14 * j + 1)) (d)) :: cW G b ad vs pd rv Ms) List.perm_append_comm List.perm_append_comm 0 rfl rfl rfl hl rfl (Nat.le_of_ble_eq_true rfl) dL_isTick_215 (fun H locs hw => ?_)
                refine lv_iconst (v := nI 4) E.1 E.2.1 dL_isTick_218 (by decide) ?_
                refine lv_icmp_neN (tgt := 337) E.1 E.2.1 (by omega) (by omega) dL_isTick_219 (by decide) (fun c219 => ?_) (fun c219 => ?_)
                · skip
                  have haz : a = z := by rcases Nat.lt_or_ge a z with h | h; exact absurd (zB a hPa.1 h).2.1 c219; omega
                  exact jk201  (trivial) _ _ _ (HB.eq hw (rfl)) (lvh_eq (l := [(0, .ref (b 0)), (1, .int (nI (Ns 0 4))), (2, .int (nI (Ns 0 6))), (3, .ref (qa14)), (4, .int (nI (a))), (5, .int (zb (Ns 0 14 = 0))), (6, .ref (qa68)), (8, .int (nI (0)))]) (lv_sub hl [0, 1, 2, 3, 4, 5, 6, 8] rfl) (by rw [haz]))
                · skip
                  have haz : a < z := by rcases Nat.lt_or_ge a z with h | h; exact h; exact absurd (zC a h (by omega)).2.1 (by omega)
                  obtain ⟨b14, b1, b2, b3, b4⟩ := zB a hPa.1 haz
                  have hge := hp3 haz
                  have qt := thG_lt hI (e := Ms 0 (150 + 4 * a + 1)) (by omega)
                  have qf := hF.f1 (d := Ms 0 (150 + 4 * a + 1)) (by omega)
                  refine lv_aload_n E.1 E.2.1 dL_isTick_222 rfl (lv_at hl 0 rfl) ?_
                  refine lv_iload E.1 E.2.1 dL_isTick_223 (lv_at hl 4 rfl) ?_
                  refine lv_iconst (v := nI 1) E.1 E.2.1 dL_isTick_225 (by decide) ?_
                  refine callVIp E (c_X3_message_ok l G b ad vs pd rv Ms a (by omega) hF2 1 (by decide)) ES.eb (fun _ _ _ => trivial) mn_8_8 YX3_message ⟨rfl, rfl⟩ ⟨Nat.le_of_ble_eq_true rfl, Nat.le_of_ble_eq_true rfl⟩ ⟨Nat.le_of_ble_eq_true rfl, Nat.le_of_ble_eq_true rfl⟩ hw (rr := [iA G qa68 (fill (thG (Ns 0)) (d2)), iA G qa14 (fill (fun j => Ns 0 (30 + 14 * j + 1)) (d))]) (big' := iA G qa68 (fill (thG (Ns 0)) (d2)) :: iA G qa14 (fill (fun j => Ns 0 (30 + 14 * j + 1)) (d)) :: cW G b ad vs pd rv Ms) List.perm_append_comm List.perm_append_comm 0 rfl rfl rfl hl rfl (Nat.le_of_ble_eq_true rfl) dL_isTick_226 (fun H locs hw => ?_)
                  refine lv_istore (lv' := [(9, .int (nI (Ms 0 (150 + 4 * a + 1)))), (0, .ref (b 0)), (1, .int (nI (Ns 0 4))), (2, .int (nI (Ns 0 6))), (3, .ref (qa14)), (4, .int (nI (a))), (5, .int (zb (Ns 0 14 = 0))), (6, .ref (qa68)), (7, .int (nI (e))), (8, .int (nI (0)))]) E.1 E.2.1 dL_isTick_229 hl (by decide) rfl (fun ls hl => ?_)
                  refine lv_iload E.1 E.2.1 dL_isTick_231 (lv_at hl 0 rfl) ?_
                  refine lv_iload E.1 E.2.1 dL_isTick_233 (lv_at hl 8 rfl) ?_
                  refine lv_icmp_ltN (tgt := 317) E.1 E.2.1 (by omega) (by omega) dL_isTick_235 (by decide) (fun c235 => ?_) (fun c235 => ?_)
                  · omega
                  · skip
                    refine lv_iload E.1 E.2.1 dL_isTick_238 (lv_at hl 6 rfl) ?_
                    refine lv_if_eqB (tgt := 317) E.1 E.2.1 dL_isTick_240 (by decide) (fun c240 => ?_) (fun c240 => ?_)
                    · exact absurd b14 c240
                    · skip
                      refine W_join0 (G := G) (A := AA) (H0 := sS.heap) (nL := 13) 313 (True) (iA G qa68 (fill (thG (Ns 0)) (d2)) :: iA G qa14 (fill (fun j => Ns 0 (30 + 14 * j + 1)) (d)) :: cW G b ad vs pd rv Ms) ([(9, .int (nI (Ms 0 (150 + 4 * a + 1)))), (0, .ref (b 0)), (1, .int (nI (Ns 0 4))), (2, .int (nI (Ns 0 6))), (3, .ref (qa14)), (4, .int (nI (a))), (5, .int (zb (Ns 0 14 = 0))), (6, .ref (qa68)), (7, .int (nI (e))), (8, .int (nI (0)))]) ([]) (fun jk243 => ?_) ?_
                      · skip
                        refine lv_aload_n E.1 E.2.1 dL_isTick_243 rfl (lv_at hl 1 rfl) ?_
                        refine lv_iload E.1 E.2.1 dL_isTick_244 (lv_at hl 5 rfl) ?_
                        refine lv_iconst (v := nI 0) E.1 E.2.1 dL_isTick_246 (by decide) ?_
                        refine callVIp E (c_X3_message_ok l G b ad vs pd rv Ms a (by omega) hF2 0 (by decide)) ES.eb (fun _ _ _ => trivial) mn_8_8 YX3_message ⟨rfl, rfl⟩ ⟨Nat.le_of_ble_eq_true rfl, Nat.le_of_ble_eq_true rfl⟩ ⟨Nat.le_of_ble_eq_true rfl, Nat.le_of_ble_eq_true rfl⟩ hw (rr := [iA G qa68 (fill (thG (Ns 0)) (d2)), iA G qa14 (fill (fun j => Ns 0 (30 + 14 * j + 1)) (d))]) (big' := iA G qa68 (fill (thG (Ns 0)) (d2)) :: iA G qa14 (fill (fun j => Ns 0 (30 + 14 * j + 1)) (d)) :: cW G b ad vs pd rv Ms) List.perm_append_comm List.perm_append_comm 0 rfl rfl rfl hl rfl (Nat.le_of_ble_eq_true rfl) dL_isTick_247 (fun H locs hw => ?_)
                        refine lv_iconst (v := nI 4) E.1 E.2.1 dL_isTick_250 (by decide) ?_
                        refine lv_icmp_neN (tgt := 273) E.1 E.2.1 (by omega) (by omega) dL_isTick_251 (by decide) (fun c251 => ?_) (fun c251 => ?_)
                        · skip
                          have h3b : Ms 0 (150 + 4 * a + 0) = 3 ∧ Ns 0 (30 + 14 * (Ms 0 (150 + 4 * a + 1)) + 1) = 1 ∧ ¬ (Ns 0 (30 + 14 * (Ms 0 (150 + 4 * a + 1)) + 5)).testBit (Ms 0 (150 + 4 * a + 3)) = true := by rcases b4 with y | y; omega; exact y
                          have hth := thG_1 h3b.2.1
                          have q5 : Ms 0 (30 + 14 * (Ms 0 (150 + 4 * a + 1)) + 5) = Ns 0 (30 + 14 * (Ms 0 (150 + 4 * a + 1)) + 5) := by rw [e0] at b2 ⊢; exact pass_f hI b2 (by decide) (by decide)
                          have q5l := hF2.f5 (d := Ms 0 (150 + 4 * a + 1)) (by omega)
                          refine lv_aload_n E.1 E.2.1 dL_isTick_273 rfl (lv_at hl 1 rfl) ?_
                          refine lv_iload E.1 E.2.1 dL_isTick_274 (lv_at hl 5 rfl) ?_
                          refine lv_iconst (v := nI 0) E.1 E.2.1 dL_isTick_276 (by decide) ?_
                          refine callVIp E (c_X3_message_ok l G b ad vs pd rv Ms a (by omega) hF2 0 (by decide)) ES.eb (fun _ _ _ => trivial) mn_8_8 YX3_message ⟨rfl, rfl⟩ ⟨Nat.le_of_ble_eq_true rfl, Nat.le_of_ble_eq_true rfl⟩ ⟨Nat.le_of_ble_eq_true rfl, Nat.le_of_ble_eq_true rfl⟩ hw (rr := [iA G qa68 (fill (thG (Ns 0)) (d2)), iA G qa14 (fill (fun j => Ns 0 (30 + 14 * j + 1)) (d))]) (big' := iA G qa68 (fill (thG (Ns 0)) (d2)) :: iA G qa14 (fill (fun j => Ns 0 (30 + 14 * j + 1)) (d)) :: cW G b ad vs pd rv Ms) List.perm_append_comm List.perm_append_comm 0 rfl rfl rfl hl rfl (Nat.le_of_ble_eq_true rfl) dL_isTick_277 (fun H locs hw => ?_)
                          refine lv_iconst (v := nI 3) E.1 E.2.1 dL_isTick_280 (by decide) ?_
                          refine lv_icmp_neN (tgt := 317) E.1 E.2.1 (by omega) (by omega) dL_isTick_281 (by decide) (fun c281 => ?_) (fun c281 => ?_)
                          · exact absurd h3b.1 c281
                          · skip
                            refine lv_aload E.1 E.2.1 dL_isTick_284 (lv_at hl 7 rfl) ?_
                            refine lv_iload E.1 E.2.1 dL_isTick_286 (lv_at hl 0 rfl) ?_
                            refine aLd E hw 0 rfl (j := Ms 0 (150 + 4 * a + 1)) (by omega) (by decide) (v := nI (thG (Ns 0) (Ms 0 (150 + 4 * a + 1)))) (fill_r (by omega)) dL_isTick_288 ?_
                            refine lv_iconst (v := nI 1) E.1 E.2.1 dL_isTick_289 (by decide) ?_
                            refine lv_icmp_neN (tgt := 317) E.1 E.2.1 (by omega) (by omega) dL_isTick_290 (by decide) (fun c290 => ?_) (fun c290 => ?_)
                            · exact absurd hth c290
                            · skip
                              refine lv_aload_n E.1 E.2.1 dL_isTick_293 rfl (lv_at hl 1 rfl) ?_
                              refine lv_iload E.1 E.2.1 dL_isTick_294 (lv_at hl 0 rfl) ?_
                              refine lv_iconst (v := nI 4) E.1 E.2.1 dL_isTick_296 (by decide) ?_
                              refine callVIp E (c_X3_ofDeal_ok l G b ad vs pd rv Ms (Ms 0 (150 + 4 * a + 1)) (by omega) hF2 4 (by decide)) ES.eb (fun _ _ _ => trivial) mn_7_11 YX3_ofDeal ⟨rfl, rfl⟩ ⟨Nat.le_of_ble_eq_true rfl, Nat.le_of_ble_eq_true rfl⟩ ⟨Nat.le_of_ble_eq_true rfl, Nat.le_of_ble_eq_true rfl⟩ hw (rr := [iA G qa68 (fill (thG (Ns 0)) (d2)), iA G qa14 (fill (fun j => Ns 0 (30 + 14 * j + 1)) (d))]) (big' := iA G qa68 (fill (thG (Ns 0)) (d2)) :: iA G qa14 (fill (fun j => Ns 0 (30 + 14 * j + 1)) (d)) :: cW G b ad vs pd rv Ms) List.perm_append_comm List.perm_append_comm 0 rfl rfl rfl hl rfl (Nat.le_of_ble_eq_true rfl) dL_isTick_297 (fun H locs hw => ?_)
                              refine lv_eqi (y := nI (Ms 0 (30 + 14 * (Ms 0 (150 + 4 * a + 1)) + 5))) (rfl) ?_
                              refine lv_aload_n E.1 E.2.1 dL_isTick_300 rfl (lv_at hl 1 rfl) ?_
                              refine lv_iload E.1 E.2.1 dL_isTick_301 (lv_at hl 5 rfl) ?_
                              refine lv_iconst (v := nI 3) E.1 E.2.1 dL_isTick_303 (by decide) ?_
                              refine callVIp E (c_X3_message_ok l G b ad vs pd rv Ms a (by omega) hF2 3 (by decide)) ES.eb (fun _ _ _ => trivial) mn_8_8 YX3_message ⟨rfl, rfl⟩ ⟨Nat.le_of_ble_eq_true rfl, Nat.le_of_ble_eq_true rfl⟩ ⟨Nat.le_of_ble_eq_true rfl, Nat.le_of_ble_eq_true rfl⟩ hw (rr := [iA G qa68 (fill (thG (Ns 0)) (d2)), iA G qa14 (fill (fun j => Ns 0 (30 + 14 * j + 1)) (d))]) (big' := iA G qa68 (fill (thG (Ns 0)) (d2)) :: iA G qa14 (fill (fun j => Ns 0 (30 + 14 * j + 1)) (d)) :: cW G b ad vs pd rv Ms) List.perm_append_comm List.perm_append_comm 0 rfl rfl rfl hl rfl (Nat.le_of_ble_eq_true rfl) dL_isTick_304 (fun H locs hw => ?_)
                              refine callSX E (c_L_has l G (Ms 0 (30 + 14 * (Ms 0 (150 + 4 * a + 1)) + 5)) (Ms 0 (150 + 4 * a + 3)) (by omega) (by omega)) ES.eb (fun _ _ _ => trivial) mn_8_2 YL_has ⟨rfl, rfl⟩ ⟨Nat.le_of_ble_eq_true rfl, Nat.le_of_ble_eq_true rfl⟩ ⟨Nat.le_of_ble_eq_true rfl, Nat.le_of_ble_eq_true rfl⟩ hw (w := []) (w' := []) (rr := iA G qa68 (fill (thG (Ns 0)) (d2)) :: iA G qa14 (fill (fun j => Ns 0 (30 + 14 * j + 1)) (d)) :: cW G b ad vs pd rv Ms) (big' := iA G qa68 (fill (thG (Ns 0)) (d2)) :: iA G qa14 (fill (fun j => Ns 0 (30 + 14 * j + 1)) (d)) :: cW G b ad vs pd rv Ms) (List.Perm.refl _) (List.Perm.refl _) rfl hl rfl (Nat.le_of_ble_eq_true rfl) dL_isTick_307 (fun H locs hw => ?_)
                              refine lv_if_neB (tgt := 317) E.1 E.2.1 dL_isTick_310 (by decide) (fun c310 => ?_) (fun c310 => ?_)
                              · exact absurd (by rw [← q5]; exact c310) h3b.2.2
                              · skip
                                exact jk243  (trivial) _ _ _ (HB.eq hw (rfl)) (lvh_eq (l := [(9, .int (nI (Ms 0 (150 + 4 * a + 1)))), (0, .ref (b 0)), (1, .int (nI (Ns 0 4))), (2, .int (nI (Ns 0 6))), (3, .ref (qa14)), (4, .int (nI (a))), (5, .int (zb (Ns 0 14 = 0))), (6, .ref (qa68)), (7, .int (nI (e))), (8, .int (nI (0)))]) (lv_sub hl [0, 1, 2, 3, 4, 5, 6, 7, 8, 9] rfl) (rfl))
                        · skip
                          have hEN : EN2 (Ns 0) (Ms 0 (150 + 4 * a + 1)) := by rcases b4 with y | y; exact y.2; omega
                          have hth := thG_2 b14 hEN
                          refine lv_aload E.1 E.2.1 dL_isTick_254 (lv_at hl 7 rfl) ?_
                          refine lv_iload E.1 E.2.1 dL_isTick_256 (lv_at hl 0 rfl) ?_
                          refine aLd E hw 0 rfl (j := Ms 0 (150 + 4 * a + 1)) (by omega) (by decide) (v := nI (thG (Ns 0) (Ms 0 (150 + 4 * a + 1)))) (fill_r (by omega)) dL_isTick_258 ?_
                          refine lv_iconst (v := nI 2) E.1 E.2.1 dL_isTick_259 (by decide) ?_
                          refine lv_icmp_neN (tgt := 317) E.1 E.2.1 (by omega) (by omega) dL_isTick_260 (by decide) (fun c260 => ?_) (fun c260 => ?_)
                          · exact absurd hth c260
                          · skip
                            refine lv_aload_n E.1 E.2.1 dL_isTick_263 rfl (lv_at hl 4 rfl) ?_
                            refine lv_iload E.1 E.2.1 dL_isTick_264 (lv_at hl 0 rfl) ?_
                            refine aLd E hw 1 rfl (j := Ms 0 (150 + 4 * a + 1)) (by omega) (by decide) (v := nI (Ns 0 (30 + 14 * (Ms 0 (150 + 4 * a + 1)) + 1))) (fill_r (by omega)) dL_isTick_266 ?_
                            refine lv_if_neN (tgt := 317) E.1 E.2.1 (by omega) dL_isTick_267 (by decide) (fun c267 => ?_) (fun c267 => ?_)
                            · exact absurd hEN.1 c267
                            · skip
                              refine lv_goto (tgt := 313) E.1 E.2.1 dL_isTick_270 (by decide) ?_
                              exact jk243  (trivial) _ _ _ (HB.eq hw (rfl)) (lvh_eq (l := [(9, .int (nI (Ms 0 (150 + 4 * a + 1)))), (0, .ref (b 0)), (1, .int (nI (Ns 0 4))), (2, .int (nI (Ns 0 6))), (3, .ref (qa14)), (4, .int (nI (a))), (5, .int (zb (Ns 0 14 = 0))), (6, .ref (qa68)), (7, .int (nI (e))), (8, .int (nI (0)))]) (lv_sub hl [0, 1, 2, 3, 4, 5, 6, 7, 8, 9] rfl) (rfl))
                      · intro  hP243 H locs ls hw hl
                        replace hw : HB G AA sS.heap (iA G qa68 (fill (thG (Ns 0)) (d2)) :: iA G qa14 (fill (fun j => Ns 0 (30 + 14 * j + 1)) (d)) :: cW G b ad vs pd rv Ms) H locs := hw
                        replace hl : lv_has ls 13 [(9, .int (nI (Ms 0 (150 + 4 * a + 1)))), (0, .ref (b 0)), (1, .int (nI (Ns 0 4))), (2, .int (nI (Ns 0 6))), (3, .ref (qa14)), (4, .int (nI (a))), (5, .int (zb (Ns 0 14 = 0))), (6, .ref (qa68)), (7, .int (nI (e))), (8, .int (nI (0)))] := hl
                        show W _ _ _ _ _ _ _ _ _ _ _ _ _ _ _ (F0 mM 313 ls [])
                        refine lv_iconst (v := nI 1) E.1 E.2.1 dL_isTick_313 (by decide) ?_
                        refine lv_goto (tgt := 318) E.1 E.2.1 dL_isTick_314 (by decide) ?_
                        refine lv_istore (lv' := [(10, .int (nI (1))), (9, .int (nI (Ms 0 (150 + 4 * a + 1)))), (0, .ref (b 0)), (1, .int (nI (Ns 0 4))), (2, .int (nI (Ns 0 6))), (3, .ref (qa14)), (4, .int (nI (a))), (5, .int (zb (Ns 0 14 = 0))), (6, .ref (qa68)), (7, .int (nI (e))), (8, .int (nI (0)))]) E.1 E.2.1 dL_isTick_318 hl (by decide) rfl (fun ls hl => ?_)
                        refine lv_iload E.1 E.2.1 dL_isTick_320 (lv_at hl 0 rfl) ?_
                        refine lv_if_neN (tgt := 327) E.1 E.2.1 (by omega) dL_isTick_322 (by decide) (fun c322 => ?_) (fun c322 => ?_)
                        · skip
                          refine lv_iload E.1 E.2.1 dL_isTick_327 (lv_at hl 1 rfl) ?_
                          refine lv_istore (lv' := [(7, .int (nI (Ms 0 (150 + 4 * a + 1)))), (10, .int (nI (1))), (9, .int (nI (Ms 0 (150 + 4 * a + 1)))), (0, .ref (b 0)), (1, .int (nI (Ns 0 4))), (2, .int (nI (Ns 0 6))), (3, .ref (qa14)), (4, .int (nI (a))), (5, .int (zb (Ns 0 14 = 0))), (6, .ref (qa68)), (8, .int (nI (0)))]) E.1 E.2.1 dL_isTick_329 hl (by decide) rfl (fun ls hl => ?_)
                          refine lv_iincN (k := 7) (lv' := [(4, .int (nI (a + 1))), (7, .int (nI (Ms 0 (150 + 4 * a + 1)))), (10, .int (nI (1))), (9, .int (nI (Ms 0 (150 + 4 * a + 1)))), (0, .ref (b 0)), (1, .int (nI (Ns 0 4))), (2, .int (nI (Ns 0 6))), (3, .ref (qa14)), (5, .int (zb (Ns 0 14 = 0))), (6, .ref (qa68)), (8, .int (nI (0)))]) E.1 E.2.1 dL_isTick_331 hl rfl (by decide) rfl (fun ls hl => ?_)
                          refine lv_goto (tgt := 201) E.1 E.2.1 dL_isTick_334 (by decide) ?_
                          exact iha (a + 1) (Ms 0 (150 + 4 * a + 1)) (⟨by omega, haz, fun y => zs a hPa.1 y⟩) (by omega) _ _ _ (HB.eq hw (rfl)) (lvh_eq (l := [(0, .ref (b 0)), (1, .int (nI (Ns 0 4))), (2, .int (nI (Ns 0 6))), (3, .ref (qa14)), (4, .int (nI (a + 1))), (5, .int (zb (Ns 0 14 = 0))), (6, .ref (qa68)), (7, .int (nI (Ms 0 (150 + 4 * a + 1)))), (8, .int (nI (0)))]) (lv_sub hl [4, 5, 6, 7, 0, 8, 9, 1, 10] rfl) (rfl))
                        · exact absurd c322 (by decide)
            · intro  hP201 H locs ls hw hl
              replace hw : HB G AA sS.heap (iA G qa68 (fill (thG (Ns 0)) (d2)) :: iA G qa14 (fill (fun j => Ns 0 (30 + 14 * j + 1)) (d)) :: cW G b ad vs pd rv Ms) H locs := hw
              replace hl : lv_has ls 13 [(0, .ref (b 0)), (1, .int (nI (Ns 0 4))), (2, .int (nI (Ns 0 6))), (3, .ref (qa14)), (4, .int (nI (z))), (5, .int (zb (Ns 0 14 = 0))), (6, .ref (qa68)), (8, .int (nI (0)))] := hl
              show W _ _ _ _ _ _ _ _ _ _ _ _ _ _ _ (F0 mM 337 ls [])
              refine W_ind2 (nL := 13) (P := fun a e => z ≤ a ∧ a ≤ Ms 0 6 ∧ (a < Ms 0 6 → e ≤ Ms 0 (150 + 4 * a + 2))) (μ := fun a e => Ms 0 6 - a) (I := fun a e => iA G qa68 (fill (thG (Ns 0)) (d2)) :: iA G qa14 (fill (fun j => Ns 0 (30 + 14 * j + 1)) (d)) :: cW G b ad vs pd rv Ms) (L := fun a e => [(0, .ref (b 0)), (1, .int (nI (Ns 0 4))), (2, .int (nI (Ns 0 6))), (3, .ref (qa14)), (4, .int (nI (a))), (5, .int (zb (Ns 0 14 = 0))), (6, .ref (qa68)), (8, .int (nI (e)))]) ?_ (z) (0) (⟨Nat.le_refl _, z2, fun _ => Nat.zero_le _⟩) (HB.eq hw (rfl)) (lvh_eq (l := [(0, .ref (b 0)), (1, .int (nI (Ns 0 4))), (2, .int (nI (Ns 0 6))), (3, .ref (qa14)), (4, .int (nI (z))), (5, .int (zb (Ns 0 14 = 0))), (6, .ref (qa68)), (8, .int (nI (0)))]) (lv_sub hl [0, 1, 2, 3, 4, 5, 6, 7] rfl) (rfl))
              intro a e hPb ihb H locs ls hw hl
              replace hw : HB G AA sS.heap (iA G qa68 (fill (thG (Ns 0)) (d2)) :: iA G qa14 (fill (fun j => Ns 0 (30 + 14 * j + 1)) (d)) :: cW G b ad vs pd rv Ms) H locs := hw
              replace hl : lv_has ls 13 [(0, .ref (b 0)), (1, .int (nI (Ns 0 4))), (2, .int (nI (Ns 0 6))), (3, .ref (qa14)), (4, .int (nI (a))), (5, .int (zb (Ns 0 14 = 0))), (6, .ref (qa68)), (8, .int (nI (e)))] := hl
              refine lv_iload E.1 E.2.1 dL_isTick_337 (lv_at hl 4 rfl) ?_
              refine lv_aload_n E.1 E.2.1 dL_isTick_339 rfl (lv_at hl 0 rfl) ?_
              refine lv_iconst (v := nI 2) E.1 E.2.1 dL_isTick_340 (by decide) ?_
              refine callVIp E (c_X3_count_ok l G b ad vs pd rv Ms 2 (by decide) (by decide) (by decide) hF2 hDV2) ES.eb (fun _ _ _ => trivial) mn_3_8 YX3_count ⟨rfl, rfl⟩ ⟨Nat.le_of_ble_eq_true rfl, Nat.le_of_ble_eq_true rfl⟩ ⟨Nat.le_of_ble_eq_true rfl, Nat.le_of_ble_eq_true rfl⟩ hw (rr := [iA G qa68 (fill (thG (Ns 0)) (d2)), iA G qa14 (fill (fun j => Ns 0 (30 + 14 * j + 1)) (d))]) (big' := iA G qa68 (fill (thG (Ns 0)) (d2)) :: iA G qa14 (fill (fun j => Ns 0 (30 + 14 * j + 1)) (d)) :: cW G b ad vs pd rv Ms) List.perm_append_comm List.perm_append_comm 0 rfl rfl rfl hl rfl (Nat.le_of_ble_eq_true rfl) dL_isTick_341 (fun H locs hw => ?_)
              refine lv_eqi (y := nI (Ms 0 6)) (rfl) ?_
              refine lv_icmp_geN (tgt := 483) E.1 E.2.1 (by omega) (by omega) dL_isTick_344 (by decide) (fun c344 => ?_) (fun c344 => ?_)
              · skip
                refine lv_iconst (v := nI 1) E.1 E.2.1 dL_isTick_483 (by decide) ?_
                refine W.widen (k := 2) (n := 16) (Nat.le_of_ble_eq_true rfl) (Nat.le_of_ble_eq_true rfl) ?_
                replace hw := hw.tl
                replace hw := hw.tl
                exact rU E hr hlk (vs, Ms) (⟨hcv2, e0⟩) (HB.eq hw (rfl)) dL_isTick_484
              · skip
                have hp3 := hPb.2.2 (by omega)
                obtain ⟨a1, a2, a3, a4, a5, a6, a7, a8, a9⟩ := zC a hPb.1 (by omega)
                have qi : Ms 0 (10 + Ms 0 (150 + 4 * a + 2)) = 0 := by rw [e0] at a2 a4 ⊢; rw [pass_lo hI (by omega)]; exact a4
                have q0 : Ms 0 (30 + 14 * (Ms 0 (150 + 4 * a + 1)) + 0) = Ns 0 (30 + 14 * (Ms 0 (150 + 4 * a + 1)) + 0) := by rw [e0] at a5 ⊢; exact pass_f hI a5 (by decide) (by decide)
                have qa : Ms 0 (30 + 14 * (Ms 0 (150 + 4 * a + 1)) + (6 + Ms 0 (150 + 4 * a + 2))) = Ns 0 (30 + 14 * (Ms 0 (150 + 4 * a + 1)) + (6 + Ms 0 (150 + 4 * a + 2))) := by rw [e0] at a2 a5 ⊢; exact pass_f hI a5 (by omega) (by omega)
                have q3 : Ms 0 3 = Ns 0 3 := by rw [e0]; exact pass_lo hI (by decide)
                have q3l := hF2.2.2.2.1
                have mkt := (hI2.2.1 a (by omega)).2.2.2.1
                have q0l := hF2.f0 (d := Ms 0 (150 + 4 * a + 1)) (by omega)
                refine lv_aload_n E.1 E.2.1 dL_isTick_347 rfl (lv_at hl 0 rfl) ?_
                refine lv_iload E.1 E.2.1 dL_isTick_348 (lv_at hl 4 rfl) ?_
                refine lv_iconst (v := nI 2) E.1 E.2.1 dL_isTick_350 (by decide) ?_
                refine callVIp E (c_X3_message_ok l G b ad vs pd rv Ms a (by omega) hF2 2 (by decide)) ES.eb (fun _ _ _ => trivial) mn_8_8 YX3_message ⟨rfl, rfl⟩ ⟨Nat.le_of_ble_eq_true rfl, Nat.le_of_ble_eq_true rfl⟩ ⟨Nat.le_of_ble_eq_true rfl, Nat.le_of_ble_eq_true rfl⟩ hw (rr := [iA G qa68 (fill (thG (Ns 0)) (d2)), iA G qa14 (fill (fun j => Ns 0 (30 + 14 * j + 1)) (d))]) (big' := iA G qa68 (fill (thG (Ns 0)) (d2)) :: iA G qa14 (fill (fun j => Ns 0 (30 + 14 * j + 1)) (d)) :: cW G b ad vs pd rv Ms) List.perm_append_comm List.perm_append_comm 0 rfl rfl rfl hl rfl (Nat.le_of_ble_eq_true rfl) dL_isTick_351 (fun H locs hw => ?_)
                refine lv_istore (lv' := [(9, .int (nI (Ms 0 (150 + 4 * a + 2)))), (0, .ref (b 0)), (1, .int (nI (Ns 0 4))), (2, .int (nI (Ns 0 6))), (3, .ref (qa14)), (4, .int (nI (a))), (5, .int (zb (Ns 0 14 = 0))), (6, .ref (qa68)), (8, .int (nI (e)))]) E.1 E.2.1 dL_isTick_354 hl (by decide) rfl (fun ls hl => ?_)
                refine lv_aload_n E.1 E.2.1 dL_isTick_356 rfl (lv_at hl 1 rfl) ?_
                refine lv_iload E.1 E.2.1 dL_isTick_357 (lv_at hl 5 rfl) ?_
                refine lv_iconst (v := nI 1) E.1 E.2.1 dL_isTick_359 (by decide) ?_
                refine callVIp E (c_X3_message_ok l G b ad vs pd rv Ms a (by omega) hF2 1 (by decide)) ES.eb (fun _ _ _ => trivial) mn_8_8 YX3_message ⟨rfl, rfl⟩ ⟨Nat.le_of_ble_eq_true rfl, Nat.le_of_ble_eq_true rfl⟩ ⟨Nat.le_of_ble_eq_true rfl, Nat.le_of_ble_eq_true rfl⟩ hw (rr := [iA G qa68 (fill (thG (Ns 0)) (d2)), iA G qa14 (fill (fun j => Ns 0 (30 + 14 * j + 1)) (d))]) (big' := iA G qa68 (fill (thG (Ns 0)) (d2)) :: iA G qa14 (fill (fun j => Ns 0 (30 + 14 * j + 1)) (d)) :: cW G b ad vs pd rv Ms) List.perm_append_comm List.perm_append_comm 0 rfl rfl rfl hl rfl (Nat.le_of_ble_eq_true rfl) dL_isTick_360 (fun H locs hw => ?_)
                refine lv_istore (lv' := [(10, .int (nI (Ms 0 (150 + 4 * a + 1)))), (9, .int (nI (Ms 0 (150 + 4 * a + 2)))), (0, .ref (b 0)), (1, .int (nI (Ns 0 4))), (2, .int (nI (Ns 0 6))), (3, .ref (qa14)), (4, .int (nI (a))), (5, .int (zb (Ns 0 14 = 0))), (6, .ref (qa68)), (8, .int (nI (e)))]) E.1 E.2.1 dL_isTick_363 hl (by decide) rfl (fun ls hl => ?_)
                refine lv_aload_n E.1 E.2.1 dL_isTick_365 rfl (lv_at hl 2 rfl) ?_
                refine lv_iload E.1 E.2.1 dL_isTick_366 (lv_at hl 6 rfl) ?_
                refine lv_iconst (v := nI 3) E.1 E.2.1 dL_isTick_368 (by decide) ?_
                refine callVIp E (c_X3_message_ok l G b ad vs pd rv Ms a (by omega) hF2 3 (by decide)) ES.eb (fun _ _ _ => trivial) mn_8_8 YX3_message ⟨rfl, rfl⟩ ⟨Nat.le_of_ble_eq_true rfl, Nat.le_of_ble_eq_true rfl⟩ ⟨Nat.le_of_ble_eq_true rfl, Nat.le_of_ble_eq_true rfl⟩ hw (rr := [iA G qa68 (fill (thG (Ns 0)) (d2)), iA G qa14 (fill (fun j => Ns 0 (30 + 14 * j + 1)) (d))]) (big' := iA G qa68 (fill (thG (Ns 0)) (d2)) :: iA G qa14 (fill (fun j => Ns 0 (30 + 14 * j + 1)) (d)) :: cW G b ad vs pd rv Ms) List.perm_append_comm List.perm_append_comm 0 rfl rfl rfl hl rfl (Nat.le_of_ble_eq_true rfl) dL_isTick_369 (fun H locs hw => ?_)
                refine lv_istore (lv' := [(11, .int (nI (Ms 0 (150 + 4 * a + 3)))), (10, .int (nI (Ms 0 (150 + 4 * a + 1)))), (9, .int (nI (Ms 0 (150 + 4 * a + 2)))), (0, .ref (b 0)), (1, .int (nI (Ns 0 4))), (2, .int (nI (Ns 0 6))), (3, .ref (qa14)), (4, .int (nI (a))), (5, .int (zb (Ns 0 14 = 0))), (6, .ref (qa68)), (8, .int (nI (e)))]) E.1 E.2.1 dL_isTick_372 hl (by decide) rfl (fun ls hl => ?_)
                refine lv_iload E.1 E.2.1 dL_isTick_374 (lv_at hl 2 rfl) ?_
                refine lv_iload E.1 E.2.1 dL_isTick_376 (lv_at hl 10 rfl) ?_
                refine lv_icmp_ltN (tgt := 463) E.1 E.2.1 (by omega) (by omega) dL_isTick_378 (by decide) (fun c378 => ?_) (fun c378 => ?_)
                · omega
                · skip
                  refine lv_iload E.1 E.2.1 dL_isTick_381 (lv_at hl 2 rfl) ?_
                  refine lv_iconst (v := nI 4) E.1 E.2.1 dL_isTick_383 (by decide) ?_
                  refine lv_icmp_geN (tgt := 463) E.1 E.2.1 (by omega) (by omega) dL_isTick_384 (by decide) (fun c384 => ?_) (fun c384 => ?_)
                  · omega
                  · skip
                    refine lv_aload_n E.1 E.2.1 dL_isTick_387 rfl (lv_at hl 3 rfl) ?_
                    refine lv_iload E.1 E.2.1 dL_isTick_388 (lv_at hl 7 rfl) ?_
                    refine lv_iconst (v := nI 0) E.1 E.2.1 dL_isTick_390 (by decide) ?_
                    refine callVIp E (c_X3_message_ok l G b ad vs pd rv Ms a (by omega) hF2 0 (by decide)) ES.eb (fun _ _ _ => trivial) mn_8_8 YX3_message ⟨rfl, rfl⟩ ⟨Nat.le_of_ble_eq_true rfl, Nat.le_of_ble_eq_true rfl⟩ ⟨Nat.le_of_ble_eq_true rfl, Nat.le_of_ble_eq_true rfl⟩ hw (rr := [iA G qa68 (fill (thG (Ns 0)) (d2)), iA G qa14 (fill (fun j => Ns 0 (30 + 14 * j + 1)) (d))]) (big' := iA G qa68 (fill (thG (Ns 0)) (d2)) :: iA G qa14 (fill (fun j => Ns 0 (30 + 14 * j + 1)) (d)) :: cW G b ad vs pd rv Ms) List.perm_append_comm List.perm_append_comm 0 rfl rfl rfl hl rfl (Nat.le_of_ble_eq_true rfl) dL_isTick_391 (fun H locs hw => ?_)
                    refine lv_bipush (v := nI 6) E.1 E.2.1 dL_isTick_394 (by decide) ?_
                    refine lv_icmp_neN (tgt := 463) E.1 E.2.1 (by omega) (by omega) dL_isTick_396 (by decide) (fun c396 => ?_) (fun c396 => ?_)
                    · exact absurd a3 c396
                    · skip
                      refine lv_aload_n E.1 E.2.1 dL_isTick_399 rfl (lv_at hl 3 rfl) ?_
                      refine lv_iload E.1 E.2.1 dL_isTick_400 (lv_at hl 2 rfl) ?_
                      refine lv_iconst (v := nI 0) E.1 E.2.1 dL_isTick_402 (by decide) ?_
                      refine callVIp E (c_X3_who_ok l G b ad vs pd rv Ms (Ms 0 (150 + 4 * a + 2)) 0 (by omega) (by decide) hF2 hm2) ES.eb (fun _ _ _ => trivial) mn_6_14 YX3_who ⟨rfl, rfl⟩ ⟨Nat.le_of_ble_eq_true rfl, Nat.le_of_ble_eq_true rfl⟩ ⟨Nat.le_of_ble_eq_true rfl, Nat.le_of_ble_eq_true rfl⟩ hw (rr := [iA G qa68 (fill (thG (Ns 0)) (d2)), iA G qa14 (fill (fun j => Ns 0 (30 + 14 * j + 1)) (d))]) (big' := iA G qa68 (fill (thG (Ns 0)) (d2)) :: iA G qa14 (fill (fun j => Ns 0 (30 + 14 * j + 1)) (d)) :: cW G b ad vs pd rv Ms) List.perm_append_comm List.perm_append_comm 0 rfl rfl rfl hl rfl (Nat.le_of_ble_eq_true rfl) dL_isTick_403 (fun H locs hw => ?_)
                      refine lv_eqi (y := nI (Ms 0 (10 + Ms 0 (150 + 4 * a + 2)))) (rfl) ?_
                      refine lv_if_neN (tgt := 463) E.1 E.2.1 (by omega) dL_isTick_406 (by decide) (fun c406 => ?_) (fun c406 => ?_)
                      · exact absurd qi c406
                      · skip
                        refine lv_aload_n E.1 E.2.1 dL_isTick_409 rfl (lv_at hl 3 rfl) ?_
                        refine lv_iload E.1 E.2.1 dL_isTick_410 (lv_at hl 1 rfl) ?_
                        refine lv_iload E.1 E.2.1 dL_isTick_412 (lv_at hl 2 rfl) ?_
                        refine callVIp E (c_X3_at_ok l G b ad vs pd rv Ms (Ms 0 (150 + 4 * a + 1)) (by omega) hF2 (Ms 0 (150 + 4 * a + 2)) (by omega)) ES.eb (fun _ _ _ => trivial) mn_10_7 YX3_at ⟨rfl, rfl⟩ ⟨Nat.le_of_ble_eq_true rfl, Nat.le_of_ble_eq_true rfl⟩ ⟨Nat.le_of_ble_eq_true rfl, Nat.le_of_ble_eq_true rfl⟩ hw (rr := [iA G qa68 (fill (thG (Ns 0)) (d2)), iA G qa14 (fill (fun j => Ns 0 (30 + 14 * j + 1)) (d))]) (big' := iA G qa68 (fill (thG (Ns 0)) (d2)) :: iA G qa14 (fill (fun j => Ns 0 (30 + 14 * j + 1)) (d)) :: cW G b ad vs pd rv Ms) List.perm_append_comm List.perm_append_comm 0 rfl rfl rfl hl rfl (Nat.le_of_ble_eq_true rfl) dL_isTick_414 (fun H locs hw => ?_)
                        refine lv_eqi (y := nI (1)) (by rw [q0, if_pos a6, qa, a7]) ?_
                        refine lv_iconst (v := nI 1) E.1 E.2.1 dL_isTick_417 (by decide) ?_
                        refine lv_icmp_neN (tgt := 463) E.1 E.2.1 (by omega) (by omega) dL_isTick_418 (by decide) (fun c418 => ?_) (fun c418 => ?_)
                        · exact absurd c418 (by decide)
                        · skip
                          refine lv_iload E.1 E.2.1 dL_isTick_421 (lv_at hl 0 rfl) ?_
                          refine lv_iload E.1 E.2.1 dL_isTick_423 (lv_at hl 2 rfl) ?_
                          refine lv_icmp_eqN (tgt := 463) E.1 E.2.1 (by omega) (by omega) dL_isTick_425 (by decide) (fun c425 => ?_) (fun c425 => ?_)
                          · exact absurd c425 a8
                          · skip
                            refine W_join0 (G := G) (A := AA) (H0 := sS.heap) (nL := 13) 459 (True) (iA G qa68 (fill (thG (Ns 0)) (d2)) :: iA G qa14 (fill (fun j => Ns 0 (30 + 14 * j + 1)) (d)) :: cW G b ad vs pd rv Ms) ([(11, .int (nI (Ms 0 (150 + 4 * a + 3)))), (10, .int (nI (Ms 0 (150 + 4 * a + 1)))), (9, .int (nI (Ms 0 (150 + 4 * a + 2)))), (0, .ref (b 0)), (1, .int (nI (Ns 0 4))), (2, .int (nI (Ns 0 6))), (3, .ref (qa14)), (4, .int (nI (a))), (5, .int (zb (Ns 0 14 = 0))), (6, .ref (qa68)), (8, .int (nI (e)))]) ([]) (fun jk428 => ?_) ?_
                            · skip
                              refine lv_iload E.1 E.2.1 dL_isTick_428 (lv_at hl 0 rfl) ?_
                              refine lv_iconst (v := nI 4) E.1 E.2.1 dL_isTick_430 (by decide) ?_
                              refine lv_icmp_eqN (tgt := 459) E.1 E.2.1 (by omega) (by omega) dL_isTick_431 (by decide) (fun c431 => ?_) (fun c431 => ?_)
                              · skip
                                exact jk428  (trivial) _ _ _ (HB.eq hw (rfl)) (lvh_eq (l := [(11, .int (nI (Ms 0 (150 + 4 * a + 3)))), (10, .int (nI (Ms 0 (150 + 4 * a + 1)))), (9, .int (nI (Ms 0 (150 + 4 * a + 2)))), (0, .ref (b 0)), (1, .int (nI (Ns 0 4))), (2, .int (nI (Ns 0 6))), (3, .ref (qa14)), (4, .int (nI (a))), (5, .int (zb (Ns 0 14 = 0))), (6, .ref (qa68)), (8, .int (nI (e)))]) (lv_sub hl [0, 1, 2, 3, 4, 5, 6, 7, 8, 9, 10] rfl) (rfl))
                              · skip
                                refine lv_aload_n E.1 E.2.1 dL_isTick_434 rfl (lv_at hl 3 rfl) ?_
                                refine lv_bipush (v := nI 10) E.1 E.2.1 dL_isTick_435 (by decide) ?_
                                refine callVIp E (c_X3_count_ok l G b ad vs pd rv Ms 10 (by decide) (by decide) (by decide) hF2 hDV2) ES.eb (fun _ _ _ => trivial) mn_3_8 YX3_count ⟨rfl, rfl⟩ ⟨Nat.le_of_ble_eq_true rfl, Nat.le_of_ble_eq_true rfl⟩ ⟨Nat.le_of_ble_eq_true rfl, Nat.le_of_ble_eq_true rfl⟩ hw (rr := [iA G qa68 (fill (thG (Ns 0)) (d2)), iA G qa14 (fill (fun j => Ns 0 (30 + 14 * j + 1)) (d))]) (big' := iA G qa68 (fill (thG (Ns 0)) (d2)) :: iA G qa14 (fill (fun j => Ns 0 (30 + 14 * j + 1)) (d)) :: cW G b ad vs pd rv Ms) List.perm_append_comm List.perm_append_comm 0 rfl rfl rfl hl rfl (Nat.le_of_ble_eq_true rfl) dL_isTick_437 (fun H locs hw => ?_)
                                refine lv_eqi (y := nI (Ms 0 3)) (rfl) ?_
                                refine lv_iconst (v := nI 1) E.1 E.2.1 dL_isTick_440 (by decide) ?_
                                refine lv_icmp_neN (tgt := 463) E.1 E.2.1 (by omega) (by omega) dL_isTick_441 (by decide) (fun c441 => ?_) (fun c441 => ?_)
                                · exact absurd (q3.trans (a9.resolve_left c431).2.1) c441
                                · skip
                                  refine lv_aload_n E.1 E.2.1 dL_isTick_444 rfl (lv_at hl 3 rfl) ?_
                                  refine lv_iload E.1 E.2.1 dL_isTick_445 (lv_at hl 1 rfl) ?_
                                  refine lv_iconst (v := nI 0) E.1 E.2.1 dL_isTick_447 (by decide) ?_
                                  refine callVIp E (c_X3_ofDeal_ok l G b ad vs pd rv Ms (Ms 0 (150 + 4 * a + 1)) (by omega) hF2 0 (by decide)) ES.eb (fun _ _ _ => trivial) mn_7_11 YX3_ofDeal ⟨rfl, rfl⟩ ⟨Nat.le_of_ble_eq_true rfl, Nat.le_of_ble_eq_true rfl⟩ ⟨Nat.le_of_ble_eq_true rfl, Nat.le_of_ble_eq_true rfl⟩ hw (rr := [iA G qa68 (fill (thG (Ns 0)) (d2)), iA G qa14 (fill (fun j => Ns 0 (30 + 14 * j + 1)) (d))]) (big' := iA G qa68 (fill (thG (Ns 0)) (d2)) :: iA G qa14 (fill (fun j => Ns 0 (30 + 14 * j + 1)) (d)) :: cW G b ad vs pd rv Ms) List.perm_append_comm List.perm_append_comm 0 rfl rfl rfl hl rfl (Nat.le_of_ble_eq_true rfl) dL_isTick_448 (fun H locs hw => ?_)
                                  refine lv_eqi (y := nI (Ms 0 (30 + 14 * (Ms 0 (150 + 4 * a + 1)) + 0))) (rfl) ?_
                                  refine lv_iload E.1 E.2.1 dL_isTick_451 (lv_at hl 0 rfl) ?_
                                  refine callSX E (c_L_has l G (Ms 0 (30 + 14 * (Ms 0 (150 + 4 * a + 1)) + 0)) (Ms 0 (150 + 4 * a + 3)) (by omega) (by omega)) ES.eb (fun _ _ _ => trivial) mn_8_2 YL_has ⟨rfl, rfl⟩ ⟨Nat.le_of_ble_eq_true rfl, Nat.le_of_ble_eq_true rfl⟩ ⟨Nat.le_of_ble_eq_true rfl, Nat.le_of_ble_eq_true rfl⟩ hw (w := []) (w' := []) (rr := iA G qa68 (fill (thG (Ns 0)) (d2)) :: iA G qa14 (fill (fun j => Ns 0 (30 + 14 * j + 1)) (d)) :: cW G b ad vs pd rv Ms) (big' := iA G qa68 (fill (thG (Ns 0)) (d2)) :: iA G qa14 (fill (fun j => Ns 0 (30 + 14 * j + 1)) (d)) :: cW G b ad vs pd rv Ms) (List.Perm.refl _) (List.Perm.refl _) rfl hl rfl (Nat.le_of_ble_eq_true rfl) dL_isTick_453 (fun H locs hw => ?_)
                                  refine lv_if_eqB (tgt := 463) E.1 E.2.1 dL_isTick_456 (by decide) (fun c456 => ?_) (fun c456 => ?_)
                                  · exact absurd (by rw [q0]; exact (a9.resolve_left c431).2.2) c456
                                  · skip
                                    exact jk428  (trivial) _ _ _ (HB.eq hw (rfl)) (lvh_eq (l := [(11, .int (nI (Ms 0 (150 + 4 * a + 3)))), (10, .int (nI (Ms 0 (150 + 4 * a + 1)))), (9, .int (nI (Ms 0 (150 + 4 * a + 2)))), (0, .ref (b 0)), (1, .int (nI (Ns 0 4))), (2, .int (nI (Ns 0 6))), (3, .ref (qa14)), (4, .int (nI (a))), (5, .int (zb (Ns 0 14 = 0))), (6, .ref (qa68)), (8, .int (nI (e)))]) (lv_sub hl [0, 1, 2, 3, 4, 5, 6, 7, 8, 9, 10] rfl) (rfl))
                            · intro  hP428 H locs ls hw hl
                              replace hw : HB G AA sS.heap (iA G qa68 (fill (thG (Ns 0)) (d2)) :: iA G qa14 (fill (fun j => Ns 0 (30 + 14 * j + 1)) (d)) :: cW G b ad vs pd rv Ms) H locs := hw
                              replace hl : lv_has ls 13 [(11, .int (nI (Ms 0 (150 + 4 * a + 3)))), (10, .int (nI (Ms 0 (150 + 4 * a + 1)))), (9, .int (nI (Ms 0 (150 + 4 * a + 2)))), (0, .ref (b 0)), (1, .int (nI (Ns 0 4))), (2, .int (nI (Ns 0 6))), (3, .ref (qa14)), (4, .int (nI (a))), (5, .int (zb (Ns 0 14 = 0))), (6, .ref (qa68)), (8, .int (nI (e)))] := hl
                              show W _ _ _ _ _ _ _ _ _ _ _ _ _ _ _ (F0 mM 459 ls [])
                              refine lv_iconst (v := nI 1) E.1 E.2.1 dL_isTick_459 (by decide) ?_
                              refine lv_goto (tgt := 464) E.1 E.2.1 dL_isTick_460 (by decide) ?_
                              refine lv_istore (lv' := [(12, .int (nI (1))), (11, .int (nI (Ms 0 (150 + 4 * a + 3)))), (10, .int (nI (Ms 0 (150 + 4 * a + 1)))), (9, .int (nI (Ms 0 (150 + 4 * a + 2)))), (0, .ref (b 0)), (1, .int (nI (Ns 0 4))), (2, .int (nI (Ns 0 6))), (3, .ref (qa14)), (4, .int (nI (a))), (5, .int (zb (Ns 0 14 = 0))), (6, .ref (qa68)), (8, .int (nI (e)))]) E.1 E.2.1 dL_isTick_464 hl (by decide) rfl (fun ls hl => ?_)
                              refine lv_iload E.1 E.2.1 dL_isTick_466 (lv_at hl 0 rfl) ?_
                              refine lv_if_neN (tgt := 473) E.1 E.2.1 (by omega) dL_isTick_468 (by decide) (fun c468 => ?_) (fun c468 => ?_)
                              · skip
                                refine lv_iload E.1 E.2.1 dL_isTick_473 (lv_at hl 3 rfl) ?_
                                refine lv_istore (lv' := [(8, .int (nI (Ms 0 (150 + 4 * a + 2)))), (12, .int (nI (1))), (11, .int (nI (Ms 0 (150 + 4 * a + 3)))), (10, .int (nI (Ms 0 (150 + 4 * a + 1)))), (9, .int (nI (Ms 0 (150 + 4 * a + 2)))), (0, .ref (b 0)), (1, .int (nI (Ns 0 4))), (2, .int (nI (Ns 0 6))), (3, .ref (qa14)), (4, .int (nI (a))), (5, .int (zb (Ns 0 14 = 0))), (6, .ref (qa68))]) E.1 E.2.1 dL_isTick_475 hl (by decide) rfl (fun ls hl => ?_)
                                refine lv_iincN (k := 9) (lv' := [(4, .int (nI (a + 1))), (8, .int (nI (Ms 0 (150 + 4 * a + 2)))), (12, .int (nI (1))), (11, .int (nI (Ms 0 (150 + 4 * a + 3)))), (10, .int (nI (Ms 0 (150 + 4 * a + 1)))), (9, .int (nI (Ms 0 (150 + 4 * a + 2)))), (0, .ref (b 0)), (1, .int (nI (Ns 0 4))), (2, .int (nI (Ns 0 6))), (3, .ref (qa14)), (5, .int (zb (Ns 0 14 = 0))), (6, .ref (qa68))]) E.1 E.2.1 dL_isTick_477 hl rfl (by decide) rfl (fun ls hl => ?_)
                                refine lv_goto (tgt := 337) E.1 E.2.1 dL_isTick_480 (by decide) ?_
                                exact ihb (a + 1) (Ms 0 (150 + 4 * a + 2)) (⟨by omega, by omega, fun y => zt a hPb.1 y⟩) (by omega) _ _ _ (HB.eq hw (rfl)) (lvh_eq (l := [(0, .ref (b 0)), (1, .int (nI (Ns 0 4))), (2, .int (nI (Ns 0 6))), (3, .ref (qa14)), (4, .int (nI (a + 1))), (5, .int (zb (Ns 0 14 = 0))), (6, .ref (qa68)), (8, .int (nI (Ms 0 (150 + 4 * a + 2))))]) (lv_sub hl [6, 7, 8, 9, 0, 10, 11, 1] rfl) (rfl))
                              · exact absurd c468 (by decide)
          · skip
            have qt := thG_lt hI (e := d3) (by omega)
            have qg := hF2.f1 (d := d3) (by omega)
            refine lv_aload_n E.1 E.2.1 dL_isTick_172 rfl (lv_at hl 0 rfl) ?_
            refine lv_iload E.1 E.2.1 dL_isTick_173 (lv_at hl 7 rfl) ?_
            refine lv_iconst (v := nI 1) E.1 E.2.1 dL_isTick_175 (by decide) ?_
            refine callVIp E (c_X3_ofDeal_ok l G b ad vs pd rv Ms d3 (by omega) hF2 1 (by decide)) ES.eb (fun _ _ _ => trivial) mn_7_11 YX3_ofDeal ⟨rfl, rfl⟩ ⟨Nat.le_of_ble_eq_true rfl, Nat.le_of_ble_eq_true rfl⟩ ⟨Nat.le_of_ble_eq_true rfl, Nat.le_of_ble_eq_true rfl⟩ hw (rr := [iA G qa68 (fill (thG (Ns 0)) (d2)), iA G qa14 (fill (fun j => Ns 0 (30 + 14 * j + 1)) (d))]) (big' := iA G qa68 (fill (thG (Ns 0)) (d2)) :: iA G qa14 (fill (fun j => Ns 0 (30 + 14 * j + 1)) (d)) :: cW G b ad vs pd rv Ms) List.perm_append_comm List.perm_append_comm 0 rfl rfl rfl hl rfl (Nat.le_of_ble_eq_true rfl) dL_isTick_176 (fun H locs hw => ?_)
            refine lv_eqi (y := nI (Ms 0 (30 + 14 * d3 + 1))) (rfl) ?_
            refine lv_aload E.1 E.2.1 dL_isTick_179 (lv_at hl 6 rfl) ?_
            refine lv_iload E.1 E.2.1 dL_isTick_181 (lv_at hl 7 rfl) ?_
            refine aLd E hw 0 rfl (j := d3) (by omega) (by decide) (v := nI (thG (Ns 0) d3)) (fill_r (by omega)) dL_isTick_183 ?_
            refine lv_icmp_eqN (tgt := 189) E.1 E.2.1 (by omega) (by omega) dL_isTick_184 (by decide) (fun c184 => ?_) (fun c184 => ?_)
            · skip
              refine lv_iincN (k := 7) (lv' := [(7, .int (nI (d3 + 1))), (0, .ref (b 0)), (1, .int (nI (Ns 0 4))), (2, .int (nI (Ns 0 6))), (3, .ref (qa14)), (4, .int (nI (Ns 0 6))), (5, .int (zb (Ns 0 14 = 0))), (6, .ref (qa68))]) E.1 E.2.1 dL_isTick_189 hl rfl (by decide) rfl (fun ls hl => ?_)
              refine lv_goto (tgt := 162) E.1 E.2.1 dL_isTick_192 (by decide) ?_
              exact ihf (d3 + 1) (by omega) (by omega) _ _ _ (HB.eq hw (rfl)) (lvh_eq (l := [(0, .ref (b 0)), (1, .int (nI (Ns 0 4))), (2, .int (nI (Ns 0 6))), (3, .ref (qa14)), (4, .int (nI (Ns 0 6))), (5, .int (zb (Ns 0 14 = 0))), (6, .ref (qa68)), (7, .int (nI (d3 + 1)))]) (lv_sub hl [1, 2, 3, 4, 5, 6, 7, 0] rfl) (rfl))
            · exact absurd (by rw [e0]; exact pass_th hI (by omega)) c184
        · exact absurd rfl c154
      · skip
        have qf := hF.f1 (d := d2) (by omega)
        refine W_join0 (G := G) (A := AA) (H0 := sS.heap) (nL := 13) 120 (True) (iA G qa68 (fill (thG (Ns 0)) (d2)) :: iA G qa14 (fill (fun j => Ns 0 (30 + 14 * j + 1)) (d)) :: cW G b ad v pd rv Ns) ([(0, .ref (b 0)), (1, .int (nI (Ns 0 4))), (2, .int (nI (Ns 0 6))), (3, .ref (qa14)), (4, .int (nI (Ns 0 6))), (5, .int (zb (Ns 0 14 = 0))), (6, .ref (qa68)), (7, .int (nI (d2)))]) ([.int (zb (enP (Ns 0) d2))]) (fun jk85 => ?_) ?_
        · skip
          refine lv_iload E.1 E.2.1 dL_isTick_85 (lv_at hl 5 rfl) ?_
          refine lv_if_eqB (tgt := 119) E.1 E.2.1 dL_isTick_87 (by decide) (fun c87 => ?_) (fun c87 => ?_)
          · skip
            refine lv_iconst (v := nI 0) E.1 E.2.1 dL_isTick_119 (by decide) ?_
            refine lv_eqi (y := zb (enP (Ns 0) d2)) ((zb_f (fun z => c87 z.1)).symm) ?_
            exact jk85  (trivial) _ _ _ (HB.eq hw (rfl)) (lvh_eq (l := [(0, .ref (b 0)), (1, .int (nI (Ns 0 4))), (2, .int (nI (Ns 0 6))), (3, .ref (qa14)), (4, .int (nI (Ns 0 6))), (5, .int (zb (Ns 0 14 = 0))), (6, .ref (qa68)), (7, .int (nI (d2)))]) (lv_sub hl [0, 1, 2, 3, 4, 5, 6, 7] rfl) (rfl))
          · skip
            refine lv_aload_n E.1 E.2.1 dL_isTick_90 rfl (lv_at hl 3 rfl) ?_
            refine lv_iload E.1 E.2.1 dL_isTick_91 (lv_at hl 7 rfl) ?_
            refine aLd E hw 1 rfl (j := d2) (by omega) (by decide) (v := nI (Ns 0 (30 + 14 * d2 + 1))) (fill_r (by omega)) dL_isTick_93 ?_
            refine lv_if_neN (tgt := 119) E.1 E.2.1 (by omega) dL_isTick_94 (by decide) (fun c94 => ?_) (fun c94 => ?_)
            · skip
              refine lv_iconst (v := nI 0) E.1 E.2.1 dL_isTick_119 (by decide) ?_
              refine lv_eqi (y := zb (enP (Ns 0) d2)) ((zb_f (fun z => c94 z.2.1)).symm) ?_
              exact jk85  (trivial) _ _ _ (HB.eq hw (rfl)) (lvh_eq (l := [(0, .ref (b 0)), (1, .int (nI (Ns 0 4))), (2, .int (nI (Ns 0 6))), (3, .ref (qa14)), (4, .int (nI (Ns 0 6))), (5, .int (zb (Ns 0 14 = 0))), (6, .ref (qa68)), (7, .int (nI (d2)))]) (lv_sub hl [0, 1, 2, 3, 4, 5, 6, 7] rfl) (rfl))
            · skip
              refine lv_iload_n E.1 E.2.1 dL_isTick_97 rfl (lv_at hl 1 rfl) ?_
              refine lv_aload_n E.1 E.2.1 dL_isTick_98 rfl (lv_at hl 0 rfl) ?_
              refine lv_iload E.1 E.2.1 dL_isTick_99 (lv_at hl 7 rfl) ?_
              refine lv_iconst (v := nI 2) E.1 E.2.1 dL_isTick_101 (by decide) ?_
              refine callVIp E (c_X3_ofDeal_ok l G b ad v pd rv Ns d2 (by omega) hF 2 (by decide)) ES.eb (fun _ _ _ => trivial) mn_7_11 YX3_ofDeal ⟨rfl, rfl⟩ ⟨Nat.le_of_ble_eq_true rfl, Nat.le_of_ble_eq_true rfl⟩ ⟨Nat.le_of_ble_eq_true rfl, Nat.le_of_ble_eq_true rfl⟩ hw (rr := [iA G qa68 (fill (thG (Ns 0)) (d2)), iA G qa14 (fill (fun j => Ns 0 (30 + 14 * j + 1)) (d))]) (big' := iA G qa68 (fill (thG (Ns 0)) (d2)) :: iA G qa14 (fill (fun j => Ns 0 (30 + 14 * j + 1)) (d)) :: cW G b ad v pd rv Ns) List.perm_append_comm List.perm_append_comm 0 rfl rfl rfl hl rfl (Nat.le_of_ble_eq_true rfl) dL_isTick_102 (fun H locs hw => ?_)
              refine lv_eqi (y := nI (Ns 0 (30 + 14 * d2 + 2))) (rfl) ?_
              refine lv_isub E.1 E.2.1 dL_isTick_105 ?_
              refine lv_aload_n E.1 E.2.1 dL_isTick_106 rfl (lv_at hl 0 rfl) ?_
              refine lv_bipush (v := nI 7) E.1 E.2.1 dL_isTick_107 (by decide) ?_
              refine callVIp E (c_X3_count_ok l G b ad v pd rv Ns 7 (by decide) (by decide) (by decide) hF hDV) ES.eb (fun _ _ _ => trivial) mn_3_8 YX3_count ⟨rfl, rfl⟩ ⟨Nat.le_of_ble_eq_true rfl, Nat.le_of_ble_eq_true rfl⟩ ⟨Nat.le_of_ble_eq_true rfl, Nat.le_of_ble_eq_true rfl⟩ hw (rr := [iA G qa68 (fill (thG (Ns 0)) (d2)), iA G qa14 (fill (fun j => Ns 0 (30 + 14 * j + 1)) (d))]) (big' := iA G qa68 (fill (thG (Ns 0)) (d2)) :: iA G qa14 (fill (fun j => Ns 0 (30 + 14 * j + 1)) (d)) :: cW G b ad v pd rv Ns) List.perm_append_comm List.perm_append_comm 0 rfl rfl rfl hl rfl (Nat.le_of_ble_eq_true rfl) dL_isTick_109 (fun H locs hw => ?_)
              refine lv_eqi (y := nI (Ns 0 0)) (rfl) ?_
              refine lv_icmp_lt (tgt := 119) E.1 E.2.1 dL_isTick_112 (by decide) (fun c112 => ?_) (fun c112 => ?_)
              · skip
                refine lv_iconst (v := nI 0) E.1 E.2.1 dL_isTick_119 (by decide) ?_
                refine lv_eqi (y := zb (enP (Ns 0) d2)) ((zb_f (fun z => z.2.2 c112)).symm) ?_
                exact jk85  (trivial) _ _ _ (HB.eq hw (rfl)) (lvh_eq (l := [(0, .ref (b 0)), (1, .int (nI (Ns 0 4))), (2, .int (nI (Ns 0 6))), (3, .ref (qa14)), (4, .int (nI (Ns 0 6))), (5, .int (zb (Ns 0 14 = 0))), (6, .ref (qa68)), (7, .int (nI (d2)))]) (lv_sub hl [0, 1, 2, 3, 4, 5, 6, 7] rfl) (rfl))
              · skip
                refine lv_iconst (v := nI 1) E.1 E.2.1 dL_isTick_115 (by decide) ?_
                refine lv_goto (tgt := 120) E.1 E.2.1 dL_isTick_116 (by decide) ?_
                refine lv_eqi (y := zb (enP (Ns 0) d2)) ((zb_t (⟨c87, c94, c112⟩)).symm) ?_
                exact jk85  (trivial) _ _ _ (HB.eq hw (rfl)) (lvh_eq (l := [(0, .ref (b 0)), (1, .int (nI (Ns 0 4))), (2, .int (nI (Ns 0 6))), (3, .ref (qa14)), (4, .int (nI (Ns 0 6))), (5, .int (zb (Ns 0 14 = 0))), (6, .ref (qa68)), (7, .int (nI (d2)))]) (lv_sub hl [0, 1, 2, 3, 4, 5, 6, 7] rfl) (rfl))
        · intro  hP85 H locs ls hw hl
          replace hw : HB G AA sS.heap (iA G qa68 (fill (thG (Ns 0)) (d2)) :: iA G qa14 (fill (fun j => Ns 0 (30 + 14 * j + 1)) (d)) :: cW G b ad v pd rv Ns) H locs := hw
          replace hl : lv_has ls 13 [(0, .ref (b 0)), (1, .int (nI (Ns 0 4))), (2, .int (nI (Ns 0 6))), (3, .ref (qa14)), (4, .int (nI (Ns 0 6))), (5, .int (zb (Ns 0 14 = 0))), (6, .ref (qa68)), (7, .int (nI (d2)))] := hl
          show W _ _ _ _ _ _ _ _ _ _ _ _ _ _ _ (F0 mM 120 ls [.int (zb (enP (Ns 0) d2))])
          refine lv_istore (lv' := [(8, .int (zb (enP (Ns 0) d2))), (0, .ref (b 0)), (1, .int (nI (Ns 0 4))), (2, .int (nI (Ns 0 6))), (3, .ref (qa14)), (4, .int (nI (Ns 0 6))), (5, .int (zb (Ns 0 14 = 0))), (6, .ref (qa68)), (7, .int (nI (d2)))]) E.1 E.2.1 dL_isTick_120 hl (by decide) rfl (fun ls hl => ?_)
          refine lv_aload E.1 E.2.1 dL_isTick_122 (lv_at hl 7 rfl) ?_
          refine lv_iload E.1 E.2.1 dL_isTick_124 (lv_at hl 8 rfl) ?_
          refine W_join0 (G := G) (A := AA) (H0 := sS.heap) (nL := 13) 139 (True) (iA G qa68 (fill (thG (Ns 0)) (d2)) :: iA G qa14 (fill (fun j => Ns 0 (30 + 14 * j + 1)) (d)) :: cW G b ad v pd rv Ns) ([(8, .int (zb (enP (Ns 0) d2))), (0, .ref (b 0)), (1, .int (nI (Ns 0 4))), (2, .int (nI (Ns 0 6))), (3, .ref (qa14)), (4, .int (nI (Ns 0 6))), (5, .int (zb (Ns 0 14 = 0))), (6, .ref (qa68)), (7, .int (nI (d2)))]) ([.int (nI (thG (Ns 0) d2)), .int (nI (d2)), .ref (qa68)]) (fun jk126 => ?_) ?_
          · skip
            refine lv_iload E.1 E.2.1 dL_isTick_126 (lv_at hl 0 rfl) ?_
            refine lv_if_eqB (tgt := 135) E.1 E.2.1 dL_isTick_128 (by decide) (fun c128 => ?_) (fun c128 => ?_)
            · skip
              refine lv_aload_n E.1 E.2.1 dL_isTick_135 rfl (lv_at hl 4 rfl) ?_
              refine lv_iload E.1 E.2.1 dL_isTick_136 (lv_at hl 8 rfl) ?_
              refine aLd E hw 1 rfl (j := d2) (by omega) (by decide) (v := nI (Ns 0 (30 + 14 * d2 + 1))) (fill_r (by omega)) dL_isTick_138 ?_
              refine lv_eqi (y := nI (thG (Ns 0) d2)) (by rw [show thG (Ns 0) d2 = Ns 0 (30 + 14 * d2 + 1) from if_neg c128]) ?_
              exact jk126  (trivial) _ _ _ (HB.eq hw (rfl)) (lvh_eq (l := [(8, .int (zb (enP (Ns 0) d2))), (0, .ref (b 0)), (1, .int (nI (Ns 0 4))), (2, .int (nI (Ns 0 6))), (3, .ref (qa14)), (4, .int (nI (Ns 0 6))), (5, .int (zb (Ns 0 14 = 0))), (6, .ref (qa68)), (7, .int (nI (d2)))]) (lv_sub hl [0, 1, 2, 3, 4, 5, 6, 7, 8] rfl) (rfl))
            · skip
              refine lv_iconst (v := nI 2) E.1 E.2.1 dL_isTick_131 (by decide) ?_
              refine lv_goto (tgt := 139) E.1 E.2.1 dL_isTick_132 (by decide) ?_
              refine lv_eqi (y := nI (thG (Ns 0) d2)) (by rw [show thG (Ns 0) d2 = 2 from if_pos c128]) ?_
              exact jk126  (trivial) _ _ _ (HB.eq hw (rfl)) (lvh_eq (l := [(8, .int (zb (enP (Ns 0) d2))), (0, .ref (b 0)), (1, .int (nI (Ns 0 4))), (2, .int (nI (Ns 0 6))), (3, .ref (qa14)), (4, .int (nI (Ns 0 6))), (5, .int (zb (Ns 0 14 = 0))), (6, .ref (qa68)), (7, .int (nI (d2)))]) (lv_sub hl [0, 1, 2, 3, 4, 5, 6, 7, 8] rfl) (rfl))
          · intro  hP126 H locs ls hw hl
            replace hw : HB G AA sS.heap (iA G qa68 (fill (thG (Ns 0)) (d2)) :: iA G qa14 (fill (fun j => Ns 0 (30 + 14 * j + 1)) (d)) :: cW G b ad v pd rv Ns) H locs := hw
            replace hl : lv_has ls 13 [(8, .int (zb (enP (Ns 0) d2))), (0, .ref (b 0)), (1, .int (nI (Ns 0 4))), (2, .int (nI (Ns 0 6))), (3, .ref (qa14)), (4, .int (nI (Ns 0 6))), (5, .int (zb (Ns 0 14 = 0))), (6, .ref (qa68)), (7, .int (nI (d2)))] := hl
            show W _ _ _ _ _ _ _ _ _ _ _ _ _ _ _ (F0 mM 139 ls [.int (nI (thG (Ns 0) d2)), .int (nI (d2)), .ref (qa68)])
            refine aSt E hw 0 rfl (j := d2) (by omega) (by decide) dL_isTick_139 (fun H locs hw => ?_)
            replace hw : HB G AA sS.heap (iA G qa68 (fill (thG (Ns 0)) (d2 + 1)) :: iA G qa14 (fill (fun j => Ns 0 (30 + 14 * j + 1)) (d)) :: cW G b ad v pd rv Ns) H locs := HB.eq hw (by show iA G qa68 (upd (fill (thG (Ns 0)) (d2)) d2 (nI (thG (Ns 0) d2))) :: _ = _; rw [fill_s rfl])
            refine lv_iincN (k := 8) (lv' := [(7, .int (nI (d2 + 1))), (8, .int (zb (enP (Ns 0) d2))), (0, .ref (b 0)), (1, .int (nI (Ns 0 4))), (2, .int (nI (Ns 0 6))), (3, .ref (qa14)), (4, .int (nI (Ns 0 6))), (5, .int (zb (Ns 0 14 = 0))), (6, .ref (qa68))]) E.1 E.2.1 dL_isTick_140 hl rfl (by decide) rfl (fun ls hl => ?_)
            refine lv_goto (tgt := 75) E.1 E.2.1 dL_isTick_143 (by decide) ?_
            exact ihe (d2 + 1) (by omega) (by omega) _ _ _ (HB.eq hw (rfl)) (lvh_eq (l := [(0, .ref (b 0)), (1, .int (nI (Ns 0 4))), (2, .int (nI (Ns 0 6))), (3, .ref (qa14)), (4, .int (nI (Ns 0 6))), (5, .int (zb (Ns 0 14 = 0))), (6, .ref (qa68)), (7, .int (nI (d2 + 1)))]) (lv_sub hl [2, 3, 4, 5, 6, 7, 8, 0] rfl) (rfl))
  · skip
    refine lv_aload_n E.1 E.2.1 dL_isTick_33 rfl (lv_at hl 3 rfl) ?_
    refine lv_iload E.1 E.2.1 dL_isTick_34 (lv_at hl 5 rfl) ?_
    refine lv_aload_n E.1 E.2.1 dL_isTick_36 rfl (lv_at hl 0 rfl) ?_
    refine lv_iload E.1 E.2.1 dL_isTick_37 (lv_at hl 5 rfl) ?_
    refine lv_iconst (v := nI 1) E.1 E.2.1 dL_isTick_39 (by decide) ?_
    refine callVIp E (c_X3_ofDeal_ok l G b ad v pd rv Ns d (by omega) hF 1 (by decide)) ES.eb (fun _ _ _ => trivial) mn_7_11 YX3_ofDeal ⟨rfl, rfl⟩ ⟨Nat.le_of_ble_eq_true rfl, Nat.le_of_ble_eq_true rfl⟩ ⟨Nat.le_of_ble_eq_true rfl, Nat.le_of_ble_eq_true rfl⟩ hw (rr := [iA G qa14 (fill (fun j => Ns 0 (30 + 14 * j + 1)) (d))]) (big' := iA G qa14 (fill (fun j => Ns 0 (30 + 14 * j + 1)) (d)) :: cW G b ad v pd rv Ns) List.perm_append_comm List.perm_append_comm 0 rfl rfl rfl hl rfl (Nat.le_of_ble_eq_true rfl) dL_isTick_40 (fun H locs hw => ?_)
    refine lv_eqi (y := nI (Ns 0 (30 + 14 * d + 1))) (rfl) ?_
    refine aSt E hw 0 rfl (j := d) (by omega) (by decide) dL_isTick_43 (fun H locs hw => ?_)
    replace hw : HB G AA sS.heap (iA G qa14 (fill (fun j => Ns 0 (30 + 14 * j + 1)) (d + 1)) :: cW G b ad v pd rv Ns) H locs := HB.eq hw (by show iA G qa14 (upd (fill (fun j => Ns 0 (30 + 14 * j + 1)) (d)) d (nI (Ns 0 (30 + 14 * d + 1)))) :: _ = _; rw [fill_s rfl])
    refine lv_iincN (k := 5) (lv' := [(5, .int (nI (d + 1))), (0, .ref (b 0)), (1, .int (nI (Ns 0 4))), (2, .int (nI (Ns 0 6))), (3, .ref (qa14)), (4, .int (nI (Ns 0 6)))]) E.1 E.2.1 dL_isTick_44 hl rfl (by decide) rfl (fun ls hl => ?_)
    refine lv_goto (tgt := 23) E.1 E.2.1 dL_isTick_47 (by decide) ?_
    exact ihd (d + 1) (by omega) (by omega) _ _ _ (HB.eq hw (rfl)) (lvh_eq (l := [(0, .ref (b 0)), (1, .int (nI (Ns 0 4))), (2, .int (nI (Ns 0 6))), (3, .ref (qa14)), (4, .int (nI (Ns 0 6))), (5, .int (nI (d + 1)))]) (lv_sub hl [1, 2, 3, 4, 5, 0] rfl) (rfl))

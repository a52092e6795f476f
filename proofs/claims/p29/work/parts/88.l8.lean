theorem twi_new {N : NS} {p i : Nat} (hi : i < 4) : mTwi p N (150 + 4 * N 6 + i) = N (150 + 4 * p + i) := by
  unfold mTwi
  rw [un_n (by omega)]
  unfold mTw
  rw [if_pos (by omega), show 150 + 4 * N 6 + i - (150 + 4 * N 6) = i by omega]
theorem twi_old {N : NS} {p j : Nat} (h : 150 ≤ j ∧ j < 150 + 4 * N 6) : mTwi p N j = N j := by
  unfold mTwi
  rw [un_n (by omega), mTw_l (by omega)]
theorem YL_isAct : YS yL_isAct RL cL_isAct 17 (some .boolean) 3 := ⟨mn_8_22, mn_3_2, mn_8_23, by decide +kernel⟩
set_option maxHeartbeats 4000000 in
set_option maxRecDepth 100000 in
theorem c_L_isAct (l : Launch) (G : GP) (b : Nat → Nat) (ad : Nat → Nat → Nat) (v pd rv : Nat → Int32) (Ns : Nat → NS) (hcv : CV v) (T : Nat) (hT : T < 900000) (hO : okN T (Ns 0)) (sb L : Nat) (xs : Nat → Int32) (hL : L ≤ 260) (hsb : ∀ q ∈ cW G b ad v pd rv Ns, q.1 ≠ sb) (aa : Nat) (haa : aa < 900) : MU l yL_isAct (.code yL_isAct cL_isAct 17 (some .boolean) :: GW) ({ frames := 8, cells := 3, slots := 24, locals := 260 }) [.ref (b 0), .ref (sb), .int (nI (aa))] G ((XL (cW G b ad v pd rv Ns) sb L xs)) (cW G b ad v pd rv Ns) (fun u : (Nat → Int32) × (Nat → NS) => cW G b ad u.1 pd rv u.2) (fun u => CV u.1 ∧ okN (T + 1) (u.2 0)) := by
  refine MU.of (own := RL) rfl rfl (Nat.le_of_ble_eq_true rfl) ?_
  intro pP eE sS mM below meth cC ls AA E hw hl hr hlk hE
  replace hl : lv_has ls 17 [(0, .ref (b 0)), (1, .ref (sb)), (2, .int (nI (aa)))] := hl
  obtain ⟨hI, hDV, hV, hN4, hsn⟩ := id hO
  replace hDV : dvI (Ns 0) 5 = Ns 0 7 := hDV
  have hF := hI.1
  have hm := hI.hm
  have h5 := hF.2.1
  have h6 := hF.1
  obtain ⟨nx, u, hx0, hnx, hu0, hu6⟩ := id hcv
  have hsA : ¬ AA sb := by
    rw [hE.2]
    rintro (⟨k, e, hk⟩ | z)
    · exact hsb _ (List.mem_of_getElem? hk) rfl
    · have := hE.1.2.2; omega
  refine lv_aload_n E.1 E.2.1 dL_isAct_0 rfl (lv_at hl 0 rfl) ?_
  refine lv_iconst (v := nI 2) E.1 E.2.1 dL_isAct_1 (by decide) ?_
  refine callVIp E (c_X3_count_ok l G b ad v pd rv Ns 2 (by decide) (by decide) (by decide) hF hDV) ES.eb (fun _ _ _ => trivial) mn_3_8 YX3_count ⟨rfl, rfl⟩ ⟨Nat.le_of_ble_eq_true rfl, Nat.le_of_ble_eq_true rfl⟩ ⟨Nat.le_of_ble_eq_true rfl, Nat.le_of_ble_eq_true rfl⟩ hw (rr := []) (big' := cW G b ad v pd rv Ns) (by rw [List.append_nil]) (by rw [List.append_nil]) 0 rfl rfl rfl hl rfl (Nat.le_of_ble_eq_true rfl) dL_isAct_2 (fun H locs hw => ?_)
  refine lv_eqi (y := nI (Ns 0 6)) (rfl) ?_
  refine lv_istore_n (lv' := [(3, .int (nI (Ns 0 6))), (0, .ref (b 0)), (1, .ref (sb)), (2, .int (nI (aa)))]) E.1 E.2.1 dL_isAct_5 rfl hl (by decide) rfl (fun ls hl => ?_)
  refine lv_aload_n E.1 E.2.1 dL_isAct_6 rfl (lv_at hl 2 rfl) ?_
  refine lv_iload_n E.1 E.2.1 dL_isAct_7 rfl (lv_at hl 3 rfl) ?_
  refine lv_iconst (v := nI 1) E.1 E.2.1 dL_isAct_8 (by decide) ?_
  refine lv_addN E.1 E.2.1 dL_isAct_9 ?_
  refine W_join1 (G := G) (A := AA) (H0 := sS.heap) (nL := 17) 19 (fun (mm : Nat) => (Ns 0 6 = 0 → mm = 1) ∧ (¬ Ns 0 6 = 0 → mm = Ns 0 6)) (fun (mm : Nat) => cW G b ad v pd rv Ns) (fun (mm : Nat) => [(3, .int (nI (Ns 0 6))), (0, .ref (b 0)), (1, .ref (sb)), (2, .int (nI (aa)))]) (fun (mm : Nat) => [.int (nI (mm)), .int (nI (aa + 1)), .ref (sb)]) (fun jk10 => ?_) ?_
  · skip
    refine lv_iload_n E.1 E.2.1 dL_isAct_10 rfl (lv_at hl 0 rfl) ?_
    refine lv_if_neN (tgt := 18) E.1 E.2.1 (by omega) dL_isAct_11 (by decide) (fun c11 => ?_) (fun c11 => ?_)
    · skip
      refine lv_iload_n E.1 E.2.1 dL_isAct_18 rfl (lv_at hl 0 rfl) ?_
      exact jk10 (Ns 0 6) (⟨fun z => absurd z c11, fun _ => rfl⟩) _ _ _ (HB.eq hw (rfl)) (lvh_eq (l := [(3, .int (nI (Ns 0 6))), (0, .ref (b 0)), (1, .ref (sb)), (2, .int (nI (aa)))]) (lv_sub hl [0, 1, 2, 3] rfl) (rfl))
    · skip
      refine lv_iconst (v := nI 1) E.1 E.2.1 dL_isAct_14 (by decide) ?_
      refine lv_goto (tgt := 19) E.1 E.2.1 dL_isAct_15 (by decide) ?_
      exact jk10 (1) (⟨fun _ => rfl, fun z => absurd c11 z⟩) _ _ _ (HB.eq hw (rfl)) (lvh_eq (l := [(3, .int (nI (Ns 0 6))), (0, .ref (b 0)), (1, .ref (sb)), (2, .int (nI (aa)))]) (lv_sub hl [0, 1, 2, 3] rfl) (rfl))
  · intro mm hP10 H locs ls hw hl
    replace hw : HB G AA sS.heap (cW G b ad v pd rv Ns) H locs := hw
    replace hl : lv_has ls 17 [(3, .int (nI (Ns 0 6))), (0, .ref (b 0)), (1, .ref (sb)), (2, .int (nI (aa)))] := hl
    show W _ _ _ _ _ _ _ _ _ _ _ _ _ _ _ (F0 mM 19 ls [.int (nI (mm)), .int (nI (aa + 1)), .ref (sb)])
    have hmm : 0 < mm ∧ mm ≤ 60 := by rcases Nat.eq_zero_or_pos (Ns 0 6) with z | z; have := hP10.1 z; omega; have := hP10.2 (by omega); omega
    refine callSX E (c_L_cell l G sb L xs hL (aa + 1) mm (by omega) (by omega) (by omega)) XSc.eb (XSc.to hE.1.2 hsA hw) mn_3_0 YL_cell ⟨rfl, rfl⟩ ⟨Nat.le_of_ble_eq_true rfl, Nat.le_of_ble_eq_true rfl⟩ ⟨Nat.le_of_ble_eq_true rfl, Nat.le_of_ble_eq_true rfl⟩ hw (w := []) (w' := []) (rr := cW G b ad v pd rv Ns) (big' := cW G b ad v pd rv Ns) (List.Perm.refl _) (List.Perm.refl _) rfl hl rfl (Nat.le_of_ble_eq_true rfl) dL_isAct_19 (fun H locs hw => ?_)
    obtain ⟨p1, h_p1, e_p1⟩ : ∃ q, q < mm ∧ cellR L xs (aa + 1) mm = q := ⟨_, cellR_lt (by omega), rfl⟩
    refine lv_eqi (y := nI p1) (congrArg nI e_p1) ?_
    refine lv_istore (lv' := [(4, .int (nI (p1))), (3, .int (nI (Ns 0 6))), (0, .ref (b 0)), (1, .ref (sb)), (2, .int (nI (aa)))]) E.1 E.2.1 dL_isAct_22 hl (by decide) rfl (fun ls hl => ?_)
    refine W_join1 (G := G) (A := AA) (H0 := sS.heap) (nL := 17) 41 (fun (pl : Nat) => pl < Ns 0 6 ∨ (pl = 0 ∧ Ns 0 6 = 0)) (fun (pl : Nat) => cW G b ad v pd rv Ns) (fun (pl : Nat) => [(0, .ref (b 0)), (1, .ref (sb)), (2, .int (nI (aa))), (3, .int (nI (Ns 0 6)))]) (fun (pl : Nat) => [.int (nI (pl))]) (fun jk24 => ?_) ?_
    · skip
      refine lv_aload_n E.1 E.2.1 dL_isAct_24 rfl (lv_at hl 3 rfl) ?_
      refine lv_iload_n E.1 E.2.1 dL_isAct_25 rfl (lv_at hl 4 rfl) ?_
      refine lv_iconst (v := nI 2) E.1 E.2.1 dL_isAct_26 (by decide) ?_
      refine lv_addN E.1 E.2.1 dL_isAct_27 ?_
      refine lv_iconst (v := nI 3) E.1 E.2.1 dL_isAct_28 (by decide) ?_
      refine callSX E (c_L_cell l G sb L xs hL (aa + 2) 3 (by omega) (by omega) (by omega)) XSc.eb (XSc.to hE.1.2 hsA hw) mn_3_0 YL_cell ⟨rfl, rfl⟩ ⟨Nat.le_of_ble_eq_true rfl, Nat.le_of_ble_eq_true rfl⟩ ⟨Nat.le_of_ble_eq_true rfl, Nat.le_of_ble_eq_true rfl⟩ hw (w := []) (w' := []) (rr := cW G b ad v pd rv Ns) (big' := cW G b ad v pd rv Ns) (List.Perm.refl _) (List.Perm.refl _) rfl hl rfl (Nat.le_of_ble_eq_true rfl) dL_isAct_29 (fun H locs hw => ?_)
      obtain ⟨c3, h_c3, e_c3⟩ : ∃ q, q < 3 ∧ cellR L xs (aa + 2) 3 = q := ⟨_, cellR_lt (by omega), rfl⟩
      refine lv_eqi (y := nI c3) (congrArg nI e_c3) ?_
      refine lv_if_leN (tgt := 39) E.1 E.2.1 (by omega) dL_isAct_32 (by decide) (fun c32 => ?_) (fun c32 => ?_)
      · skip
        refine lv_iload E.1 E.2.1 dL_isAct_39 (lv_at hl 0 rfl) ?_
        exact jk24 (p1) (by rcases Nat.eq_zero_or_pos (Ns 0 6) with z | z; have := hP10.1 z; omega; have := hP10.2 (by omega); omega) _ _ _ (HB.eq hw (rfl)) (lvh_eq (l := [(0, .ref (b 0)), (1, .ref (sb)), (2, .int (nI (aa))), (3, .int (nI (Ns 0 6)))]) (lv_sub hl [2, 3, 4, 1] rfl) (rfl))
      · skip
        refine lv_iconst (v := nI 0) E.1 E.2.1 dL_isAct_35 (by decide) ?_
        refine lv_goto (tgt := 41) E.1 E.2.1 dL_isAct_36 (by decide) ?_
        exact jk24 (0) (by omega) _ _ _ (HB.eq hw (rfl)) (lvh_eq (l := [(0, .ref (b 0)), (1, .ref (sb)), (2, .int (nI (aa))), (3, .int (nI (Ns 0 6)))]) (lv_sub hl [2, 3, 4, 1] rfl) (rfl))
    · intro pl hP24 H locs ls hw hl
      replace hw : HB G AA sS.heap (cW G b ad v pd rv Ns) H locs := hw
      replace hl : lv_has ls 17 [(0, .ref (b 0)), (1, .ref (sb)), (2, .int (nI (aa))), (3, .int (nI (Ns 0 6)))] := hl
      show W _ _ _ _ _ _ _ _ _ _ _ _ _ _ _ (F0 mM 41 ls [.int (nI (pl))])
      refine lv_istore (lv' := [(4, .int (nI (pl))), (0, .ref (b 0)), (1, .ref (sb)), (2, .int (nI (aa))), (3, .int (nI (Ns 0 6)))]) E.1 E.2.1 dL_isAct_41 hl (by decide) rfl (fun ls hl => ?_)
      refine lv_aload_n E.1 E.2.1 dL_isAct_43 rfl (lv_at hl 2 rfl) ?_
      refine lv_iload_n E.1 E.2.1 dL_isAct_44 rfl (lv_at hl 3 rfl) ?_
      refine lv_bipush (v := nI 20) E.1 E.2.1 dL_isAct_45 (by decide) ?_
      refine callSX E (c_L_cell l G sb L xs hL aa 20 (by omega) (by omega) (by omega)) XSc.eb (XSc.to hE.1.2 hsA hw) mn_3_0 YL_cell ⟨rfl, rfl⟩ ⟨Nat.le_of_ble_eq_true rfl, Nat.le_of_ble_eq_true rfl⟩ ⟨Nat.le_of_ble_eq_true rfl, Nat.le_of_ble_eq_true rfl⟩ hw (w := []) (w' := []) (rr := cW G b ad v pd rv Ns) (big' := cW G b ad v pd rv Ns) (List.Perm.refl _) (List.Perm.refl _) rfl hl rfl (Nat.le_of_ble_eq_true rfl) dL_isAct_47 (fun H locs hw => ?_)
      obtain ⟨sw, h_sw, e_sw⟩ : ∃ q, q < 20 ∧ cellR L xs aa 20 = q := ⟨_, cellR_lt (by omega), rfl⟩
      refine lv_eqi (y := nI sw) (congrArg nI e_sw) ?_
      by_cases z50_0 : sw = 0
      · refine lv_eqi (y := nI 0) (by rw [z50_0]) ?_
        refine lv_tableIn (tgt := 108) E.1 E.2.1 dL_isAct_50 (by decide) (by decide) rfl (by decide) ?_
        refine lv_aload_n E.1 E.2.1 dL_isAct_108 rfl (lv_at hl 1 rfl) ?_
        refine lv_iconst (v := nI 1) E.1 E.2.1 dL_isAct_109 (by decide) ?_
        refine lv_aload_n E.1 E.2.1 dL_isAct_110 rfl (lv_at hl 2 rfl) ?_
        refine lv_iload_n E.1 E.2.1 dL_isAct_111 rfl (lv_at hl 3 rfl) ?_
        refine lv_iconst (v := nI 1) E.1 E.2.1 dL_isAct_112 (by decide) ?_
        refine lv_addN E.1 E.2.1 dL_isAct_113 ?_
        refine lv_bipush (v := nI 15) E.1 E.2.1 dL_isAct_114 (by decide) ?_
        refine callSX E (c_L_cell l G sb L xs hL (aa + 1) 15 (by omega) (by omega) (by omega)) XSc.eb (XSc.to hE.1.2 hsA hw) mn_3_0 YL_cell ⟨rfl, rfl⟩ ⟨Nat.le_of_ble_eq_true rfl, Nat.le_of_ble_eq_true rfl⟩ ⟨Nat.le_of_ble_eq_true rfl, Nat.le_of_ble_eq_true rfl⟩ hw (w := []) (w' := []) (rr := cW G b ad v pd rv Ns) (big' := cW G b ad v pd rv Ns) (List.Perm.refl _) (List.Perm.refl _) rfl hl rfl (Nat.le_of_ble_eq_true rfl) dL_isAct_116 (fun H locs hw => ?_)
        obtain ⟨cs, h_cs, e_cs⟩ : ∃ q, q < 15 ∧ cellR L xs (aa + 1) 15 = q := ⟨_, cellR_lt (by omega), rfl⟩
        refine lv_eqi (y := nI cs) (congrArg nI e_cs) ?_
        refine lv_addN E.1 E.2.1 dL_isAct_119 ?_
        refine callMU E (c_L_isOpened l G b ad v pd rv Ns hcv hI hDV hV (1 + cs) (by omega)) ES.eb (fun _ _ _ => trivial) mn_3_5 YL_isOpened ⟨Nat.le_of_ble_eq_true rfl, Nat.le_of_ble_eq_true rfl⟩ ⟨Nat.le_of_ble_eq_true rfl, Nat.le_of_ble_eq_true rfl⟩ hw rfl hl rfl (Nat.le_of_ble_eq_true rfl) dL_isAct_120 (fun u H locs hok hw => ?_)
        refine W.widen (k := 3) (n := 24) (Nat.le_of_ble_eq_true rfl) (Nat.le_of_ble_eq_true rfl) ?_
        exact rU E hr hlk u (⟨hok.1, by rw [hok.2]; exact ac_open hO (by omega)⟩) (HB.eq hw (rfl)) dL_isAct_123
      by_cases z50_1 : sw = 1
      · refine lv_eqi (y := nI 1) (by rw [z50_1]) ?_
        refine lv_tableIn (tgt := 108) E.1 E.2.1 dL_isAct_50 (by decide) (by decide) rfl (by decide) ?_
        refine lv_aload_n E.1 E.2.1 dL_isAct_108 rfl (lv_at hl 1 rfl) ?_
        refine lv_iconst (v := nI 1) E.1 E.2.1 dL_isAct_109 (by decide) ?_
        refine lv_aload_n E.1 E.2.1 dL_isAct_110 rfl (lv_at hl 2 rfl) ?_
        refine lv_iload_n E.1 E.2.1 dL_isAct_111 rfl (lv_at hl 3 rfl) ?_
        refine lv_iconst (v := nI 1) E.1 E.2.1 dL_isAct_112 (by decide) ?_
        refine lv_addN E.1 E.2.1 dL_isAct_113 ?_
        refine lv_bipush (v := nI 15) E.1 E.2.1 dL_isAct_114 (by decide) ?_
        refine callSX E (c_L_cell l G sb L xs hL (aa + 1) 15 (by omega) (by omega) (by omega)) XSc.eb (XSc.to hE.1.2 hsA hw) mn_3_0 YL_cell ⟨rfl, rfl⟩ ⟨Nat.le_of_ble_eq_true rfl, Nat.le_of_ble_eq_true rfl⟩ ⟨Nat.le_of_ble_eq_true rfl, Nat.le_of_ble_eq_true rfl⟩ hw (w := []) (w' := []) (rr := cW G b ad v pd rv Ns) (big' := cW G b ad v pd rv Ns) (List.Perm.refl _) (List.Perm.refl _) rfl hl rfl (Nat.le_of_ble_eq_true rfl) dL_isAct_116 (fun H locs hw => ?_)
        obtain ⟨cs, h_cs, e_cs⟩ : ∃ q, q < 15 ∧ cellR L xs (aa + 1) 15 = q := ⟨_, cellR_lt (by omega), rfl⟩
        refine lv_eqi (y := nI cs) (congrArg nI e_cs) ?_
        refine lv_addN E.1 E.2.1 dL_isAct_119 ?_
        refine callMU E (c_L_isOpened l G b ad v pd rv Ns hcv hI hDV hV (1 + cs) (by omega)) ES.eb (fun _ _ _ => trivial) mn_3_5 YL_isOpened ⟨Nat.le_of_ble_eq_true rfl, Nat.le_of_ble_eq_true rfl⟩ ⟨Nat.le_of_ble_eq_true rfl, Nat.le_of_ble_eq_true rfl⟩ hw rfl hl rfl (Nat.le_of_ble_eq_true rfl) dL_isAct_120 (fun u H locs hok hw => ?_)
        refine W.widen (k := 3) (n := 24) (Nat.le_of_ble_eq_true rfl) (Nat.le_of_ble_eq_true rfl) ?_
        exact rU E hr hlk u (⟨hok.1, by rw [hok.2]; exact ac_open hO (by omega)⟩) (HB.eq hw (rfl)) dL_isAct_123
      by_cases z50_2 : sw = 2
      · refine lv_eqi (y := nI 2) (by rw [z50_2]) ?_
        refine lv_tableIn (tgt := 124) E.1 E.2.1 dL_isAct_50 (by decide) (by decide) rfl (by decide) ?_
        refine lv_aload_n E.1 E.2.1 dL_isAct_124 rfl (lv_at hl 1 rfl) ?_
        refine callMU E (c_L_isTick l G b ad v pd rv Ns hcv hI hDV hV (by omega)) ES.eb (fun _ _ _ => trivial) mn_9_0 YL_isTick ⟨Nat.le_of_ble_eq_true rfl, Nat.le_of_ble_eq_true rfl⟩ ⟨Nat.le_of_ble_eq_true rfl, Nat.le_of_ble_eq_true rfl⟩ hw rfl hl rfl (Nat.le_of_ble_eq_true rfl) dL_isAct_125 (fun u H locs hok hw => ?_)
        refine W.widen (k := 3) (n := 24) (Nat.le_of_ble_eq_true rfl) (Nat.le_of_ble_eq_true rfl) ?_
        exact rU E hr hlk u (⟨hok.1, by rw [hok.2]; exact ac_tick hO⟩) (HB.eq hw (rfl)) dL_isAct_128
      by_cases z50_3 : sw = 3
      · refine lv_eqi (y := nI 3) (by rw [z50_3]) ?_
        refine lv_tableIn (tgt := 124) E.1 E.2.1 dL_isAct_50 (by decide) (by decide) rfl (by decide) ?_
        refine lv_aload_n E.1 E.2.1 dL_isAct_124 rfl (lv_at hl 1 rfl) ?_
        refine callMU E (c_L_isTick l G b ad v pd rv Ns hcv hI hDV hV (by omega)) ES.eb (fun _ _ _ => trivial) mn_9_0 YL_isTick ⟨Nat.le_of_ble_eq_true rfl, Nat.le_of_ble_eq_true rfl⟩ ⟨Nat.le_of_ble_eq_true rfl, Nat.le_of_ble_eq_true rfl⟩ hw rfl hl rfl (Nat.le_of_ble_eq_true rfl) dL_isAct_125 (fun u H locs hok hw => ?_)
        refine W.widen (k := 3) (n := 24) (Nat.le_of_ble_eq_true rfl) (Nat.le_of_ble_eq_true rfl) ?_
        exact rU E hr hlk u (⟨hok.1, by rw [hok.2]; exact ac_tick hO⟩) (HB.eq hw (rfl)) dL_isAct_128
      by_cases z50_4 : sw = 4
      · refine lv_eqi (y := nI 4) (by rw [z50_4]) ?_
        refine lv_tableIn (tgt := 129) E.1 E.2.1 dL_isAct_50 (by decide) (by decide) rfl (by decide) ?_
        rcases hP24 with hpl | ⟨hpl, h06⟩
        · skip
          refine lv_aload_n E.1 E.2.1 dL_isAct_129 rfl (lv_at hl 1 rfl) ?_
          refine lv_iconst (v := nI 4) E.1 E.2.1 dL_isAct_130 (by decide) ?_
          refine callVIp E (c_X3_count_ok l G b ad v pd rv Ns 4 (by decide) (by decide) (by decide) hF hDV) ES.eb (fun _ _ _ => trivial) mn_3_8 YX3_count ⟨rfl, rfl⟩ ⟨Nat.le_of_ble_eq_true rfl, Nat.le_of_ble_eq_true rfl⟩ ⟨Nat.le_of_ble_eq_true rfl, Nat.le_of_ble_eq_true rfl⟩ hw (rr := []) (big' := cW G b ad v pd rv Ns) (by rw [List.append_nil]) (by rw [List.append_nil]) 0 rfl rfl rfl hl rfl (Nat.le_of_ble_eq_true rfl) dL_isAct_131 (fun H locs hw => ?_)
          refine lv_eqi (y := nI (Ns 0 8)) (rfl) ?_
          refine lv_istore (lv' := [(5, .int (nI (Ns 0 8))), (4, .int (nI (pl))), (0, .ref (b 0)), (1, .ref (sb)), (2, .int (nI (aa))), (3, .int (nI (Ns 0 6)))]) E.1 E.2.1 dL_isAct_134 hl (by decide) rfl (fun ls hl => ?_)
          refine lv_aload_n E.1 E.2.1 dL_isAct_136 rfl (lv_at hl 2 rfl) ?_
          refine lv_iload E.1 E.2.1 dL_isAct_137 (lv_at hl 1 rfl) ?_
          refine callVIp E (c_X3_lose_ok l G b ad v pd rv Ns nx u hx0 hnx hu0 hu6 pl hpl hI) ES.eb (fun _ _ _ => trivial) mn_10_18 YX3_lose ⟨rfl, rfl⟩ ⟨Nat.le_of_ble_eq_true rfl, Nat.le_of_ble_eq_true rfl⟩ ⟨Nat.le_of_ble_eq_true rfl, Nat.le_of_ble_eq_true rfl⟩ hw (rr := []) (big' := cW G b ad (recV nx u v) pd rv (va_up (va_up (Ns) (2 + nx) (Ns 0)) 0 (mLose pl (Ns 0)))) (by rw [List.append_nil]) (by rw [List.append_nil]) 0 rfl rfl rfl hl rfl (Nat.le_of_ble_eq_true rfl) dL_isAct_139 (fun H locs hw => ?_)
          refine lv_eqi (y := nI (Ns 0 6 - 1)) (by rw [show mLose pl (Ns 0) 6 = Ns 0 6 - 1 from (un_n (by omega)).trans mDrop_6]) ?_
          obtain ⟨Ms, vs, e0, hcv2, hw⟩ : ∃ (Ms : Nat → NS) (vs : Nat → Int32), Ms 0 = mLose pl (Ns 0) ∧ CV vs ∧ HB G AA sS.heap (cW G b ad vs pd rv Ms) H locs := ⟨_, _, va_up_self _ _ _, CV.rec hnx hu6, hw⟩
          have hO2 : okN (T + 1) (Ms 0) := by rw [e0]; exact ac_lose hO hpl
          have hI2 := hO2.1
          have hDV2 : dvI (Ms 0) 5 = Ms 0 7 := hO2.2.1
          have hF2 := hI2.1
          have hm2 := hI2.hm
          have e8 : Ms 0 8 = Ns 0 8 + 1 := by rw [e0]; exact un_s.trans (by rw [mDrop_n (by omega) (by omega)])
          refine lv_istore (lv' := [(6, .int (nI (Ns 0 6 - 1))), (5, .int (nI (Ns 0 8))), (4, .int (nI (pl))), (0, .ref (b 0)), (1, .ref (sb)), (2, .int (nI (aa))), (3, .int (nI (Ns 0 6)))]) E.1 E.2.1 dL_isAct_142 hl (by decide) rfl (fun ls hl => ?_)
          refine lv_iload_n E.1 E.2.1 dL_isAct_144 rfl (lv_at hl 6 rfl) ?_
          refine lv_if_neN (tgt := 162) E.1 E.2.1 (by omega) dL_isAct_145 (by decide) (fun c145 => ?_) (fun c145 => ?_)
          · skip
            refine lv_iload E.1 E.2.1 dL_isAct_162 (lv_at hl 0 rfl) ?_
            refine lv_iload_n E.1 E.2.1 dL_isAct_164 rfl (lv_at hl 6 rfl) ?_
            refine lv_iconst (v := nI 1) E.1 E.2.1 dL_isAct_165 (by decide) ?_
            refine lv_subN E.1 E.2.1 (by omega) dL_isAct_166 ?_
            refine lv_icmp_neN (tgt := 186) E.1 E.2.1 (by omega) (by omega) dL_isAct_167 (by decide) (fun c167 => ?_) (fun c167 => ?_)
            · exact absurd rfl c167
            · skip
              refine lv_aload_n E.1 E.2.1 dL_isAct_170 rfl (lv_at hl 3 rfl) ?_
              refine lv_iconst (v := nI 4) E.1 E.2.1 dL_isAct_171 (by decide) ?_
              refine callVIp E (c_X3_count_ok l G b ad vs pd rv Ms 4 (by decide) (by decide) (by decide) hF2 hDV2) ES.eb (fun _ _ _ => trivial) mn_3_8 YX3_count ⟨rfl, rfl⟩ ⟨Nat.le_of_ble_eq_true rfl, Nat.le_of_ble_eq_true rfl⟩ ⟨Nat.le_of_ble_eq_true rfl, Nat.le_of_ble_eq_true rfl⟩ hw (rr := []) (big' := cW G b ad vs pd rv Ms) (by rw [List.append_nil]) (by rw [List.append_nil]) 0 rfl rfl rfl hl rfl (Nat.le_of_ble_eq_true rfl) dL_isAct_172 (fun H locs hw => ?_)
              refine lv_eqi (y := nI (Ms 0 8)) (rfl) ?_
              refine lv_iload E.1 E.2.1 dL_isAct_175 (lv_at hl 1 rfl) ?_
              refine lv_iconst (v := nI 1) E.1 E.2.1 dL_isAct_177 (by decide) ?_
              refine lv_addN E.1 E.2.1 dL_isAct_178 ?_
              refine lv_icmp_ne (tgt := 186) E.1 E.2.1 dL_isAct_179 (by decide) (fun c179 => ?_) (fun c179 => ?_)
              · exact absurd (congrArg nI e8) c179
              · skip
                refine lv_iconst (v := nI 1) E.1 E.2.1 dL_isAct_182 (by decide) ?_
                refine lv_goto (tgt := 187) E.1 E.2.1 dL_isAct_183 (by decide) ?_
                refine W.widen (k := 3) (n := 24) (Nat.le_of_ble_eq_true rfl) (Nat.le_of_ble_eq_true rfl) ?_
                exact rU E hr hlk (vs, Ms) (⟨hcv2, hO2⟩) (HB.eq hw (rfl)) dL_isAct_187
          · omega
        · skip
          subst hpl
          have hb : ¬ (0 ≤ nI 0 ∧ nI 0 < nI (Ns 0 6)) := by rw [h06]; decide
          refine lv_aload_n E.1 E.2.1 dL_isAct_129 rfl (lv_at hl 1 rfl) ?_
          refine lv_iconst (v := nI 4) E.1 E.2.1 dL_isAct_130 (by decide) ?_
          refine callVIp E (c_X3_count_ok l G b ad v pd rv Ns 4 (by decide) (by decide) (by decide) hF hDV) ES.eb (fun _ _ _ => trivial) mn_3_8 YX3_count ⟨rfl, rfl⟩ ⟨Nat.le_of_ble_eq_true rfl, Nat.le_of_ble_eq_true rfl⟩ ⟨Nat.le_of_ble_eq_true rfl, Nat.le_of_ble_eq_true rfl⟩ hw (rr := []) (big' := cW G b ad v pd rv Ns) (by rw [List.append_nil]) (by rw [List.append_nil]) 0 rfl rfl rfl hl rfl (Nat.le_of_ble_eq_true rfl) dL_isAct_131 (fun H locs hw => ?_)
          refine lv_eqi (y := nI (Ns 0 8)) (rfl) ?_
          refine lv_istore (lv' := [(5, .int (nI (Ns 0 8))), (4, .int (nI (0))), (0, .ref (b 0)), (1, .ref (sb)), (2, .int (nI (aa))), (3, .int (nI (Ns 0 6)))]) E.1 E.2.1 dL_isAct_134 hl (by decide) rfl (fun ls hl => ?_)
          refine lv_aload_n E.1 E.2.1 dL_isAct_136 rfl (lv_at hl 2 rfl) ?_
          refine lv_iload E.1 E.2.1 dL_isAct_137 (lv_at hl 1 rfl) ?_
          refine callVIp E (c_X3_lose_bad l G b ad v pd rv Ns nx u hx0 hnx hu0 hu6 (nI 0) hb) ES.eb (fun _ _ _ => trivial) mn_10_18 YX3_lose ⟨rfl, rfl⟩ ⟨Nat.le_of_ble_eq_true rfl, Nat.le_of_ble_eq_true rfl⟩ ⟨Nat.le_of_ble_eq_true rfl, Nat.le_of_ble_eq_true rfl⟩ hw (rr := []) (big' := cW G b ad v pd rv (va_up (Ns) (2 + nx) (Ns 0))) (by rw [List.append_nil]) (by rw [List.append_nil]) 0 rfl rfl rfl hl rfl (Nat.le_of_ble_eq_true rfl) dL_isAct_139 (fun H locs hw => ?_)
          obtain ⟨Ms, vs, e0, hcv2, hw⟩ : ∃ (Ms : Nat → NS) (vs : Nat → Int32), Ms 0 = Ns 0 ∧ CV vs ∧ HB G AA sS.heap (cW G b ad vs pd rv Ms) H locs := ⟨_, _, va_up_ne _ _ (by omega), hcv, hw⟩
          have hO2 : okN (T + 1) (Ms 0) := by rw [e0]; exact hO.up
          have hI2 := hO2.1
          have hDV2 : dvI (Ms 0) 5 = Ms 0 7 := hO2.2.1
          have hF2 := hI2.1
          have hm2 := hI2.hm
          refine lv_istore (lv' := [(6, .int (-1)), (5, .int (nI (Ns 0 8))), (4, .int (nI (0))), (0, .ref (b 0)), (1, .ref (sb)), (2, .int (nI (aa))), (3, .int (nI (Ns 0 6)))]) E.1 E.2.1 dL_isAct_142 hl (by decide) rfl (fun ls hl => ?_)
          refine lv_iload_n E.1 E.2.1 dL_isAct_144 rfl (lv_at hl 6 rfl) ?_
          refine lv_if_neN (tgt := 162) E.1 E.2.1 (by omega) dL_isAct_145 (by decide) (fun c145 => ?_) (fun c145 => ?_)
          · omega
          · skip
            refine lv_iload E.1 E.2.1 dL_isAct_148 (lv_at hl 0 rfl) ?_
            refine lv_iconst (v := -1) E.1 E.2.1 dL_isAct_150 (by decide) ?_
            refine lv_icmp_ne (tgt := 158) E.1 E.2.1 dL_isAct_151 (by decide) (fun c151 => ?_) (fun c151 => ?_)
            · exact absurd c151 (by decide)
            · skip
              refine lv_iconst (v := nI 1) E.1 E.2.1 dL_isAct_154 (by decide) ?_
              refine lv_goto (tgt := 187) E.1 E.2.1 dL_isAct_155 (by decide) ?_
              refine W.widen (k := 3) (n := 24) (Nat.le_of_ble_eq_true rfl) (Nat.le_of_ble_eq_true rfl) ?_
              exact rU E hr hlk (vs, Ms) (⟨hcv2, hO2⟩) (HB.eq hw (rfl)) dL_isAct_187
      by_cases z50_5 : sw = 5
      · refine lv_eqi (y := nI 5) (by rw [z50_5]) ?_
        refine lv_tableIn (tgt := 188) E.1 E.2.1 dL_isAct_50 (by decide) (by decide) rfl (by decide) ?_
        rcases (show (pl < Ns 0 6 ∧ ¬ Ns 0 6 = 60) ∨ (pl < Ns 0 6 ∧ Ns 0 6 = 60) ∨ (pl = 0 ∧ Ns 0 6 = 0) by omega) with ⟨hpl, h60⟩ | ⟨hpl, h60⟩ | ⟨hpl, h06⟩
        · skip
          refine lv_aload_n E.1 E.2.1 dL_isAct_188 rfl (lv_at hl 1 rfl) ?_
          refine lv_iload E.1 E.2.1 dL_isAct_189 (lv_at hl 0 rfl) ?_
          refine lv_iconst (v := nI 0) E.1 E.2.1 dL_isAct_191 (by decide) ?_
          refine callVIp E (c_X3_message_ok l G b ad v pd rv Ns pl (by omega) hF 0 (by decide)) ES.eb (fun _ _ _ => trivial) mn_8_8 YX3_message ⟨rfl, rfl⟩ ⟨Nat.le_of_ble_eq_true rfl, Nat.le_of_ble_eq_true rfl⟩ ⟨Nat.le_of_ble_eq_true rfl, Nat.le_of_ble_eq_true rfl⟩ hw (rr := []) (big' := cW G b ad v pd rv Ns) (by rw [List.append_nil]) (by rw [List.append_nil]) 0 rfl rfl rfl hl rfl (Nat.le_of_ble_eq_true rfl) dL_isAct_192 (fun H locs hw => ?_)
          refine lv_istore (lv' := [(7, .int (nI (Ns 0 (150 + 4 * pl + 0)))), (4, .int (nI (pl))), (0, .ref (b 0)), (1, .ref (sb)), (2, .int (nI (aa))), (3, .int (nI (Ns 0 6)))]) E.1 E.2.1 dL_isAct_195 hl (by decide) rfl (fun ls hl => ?_)
          refine lv_aload_n E.1 E.2.1 dL_isAct_197 rfl (lv_at hl 2 rfl) ?_
          refine lv_iload E.1 E.2.1 dL_isAct_198 (lv_at hl 1 rfl) ?_
          refine callVIp E (c_X3_twice_ok l G b ad v pd rv Ns nx u hx0 hnx hu0 hu6 pl hpl hI h60) ES.eb (fun _ _ _ => trivial) mn_11_7 YX3_twice ⟨rfl, rfl⟩ ⟨Nat.le_of_ble_eq_true rfl, Nat.le_of_ble_eq_true rfl⟩ ⟨Nat.le_of_ble_eq_true rfl, Nat.le_of_ble_eq_true rfl⟩ hw (rr := []) (big' := cW G b ad (recV nx u v) pd rv (va_up (va_up (Ns) (2 + nx) (Ns 0)) 0 (mTwi pl (Ns 0)))) (by rw [List.append_nil]) (by rw [List.append_nil]) 0 rfl rfl rfl hl rfl (Nat.le_of_ble_eq_true rfl) dL_isAct_200 (fun H locs hw => ?_)
          refine lv_eqi (y := nI (Ns 0 6 + 1)) (by rw [show mTwi pl (Ns 0) 6 = Ns 0 6 + 1 from un_s]) ?_
          obtain ⟨Ms, vs, e0, hcv2, hw⟩ : ∃ (Ms : Nat → NS) (vs : Nat → Int32), Ms 0 = mTwi pl (Ns 0) ∧ CV vs ∧ HB G AA sS.heap (cW G b ad vs pd rv Ms) H locs := ⟨_, _, va_up_self _ _ _, CV.rec hnx hu6, hw⟩
          have hO2 : okN (T + 1) (Ms 0) := by rw [e0]; exact ac_twi hO hpl h60
          have hI2 := hO2.1
          have hDV2 : dvI (Ms 0) 5 = Ms 0 7 := hO2.2.1
          have hF2 := hI2.1
          have hm2 := hI2.hm
          have e6 : Ms 0 6 = Ns 0 6 + 1 := by rw [e0]; exact un_s
          have t0 : Ms 0 (150 + 4 * Ns 0 6 + 0) = Ns 0 (150 + 4 * pl + 0) := by rw [e0]; exact twi_new (by decide)
          have t3 : Ms 0 (150 + 4 * Ns 0 6 + 3) = Ms 0 (150 + 4 * pl + 3) := by rw [e0]; exact (twi_new (by decide)).trans (twi_old (by omega)).symm
          have mk := (hI.2.1 pl hpl).1
          have mk3 := (hI.2.1 pl hpl).2.2.2.1
          have mkk : Ns 0 (150 + 4 * pl + 0) < 7 := mk
          have t3l := (hI2.2.1 pl (by omega)).2.2.2.1
          refine lv_istore (lv' := [(8, .int (nI (Ns 0 6 + 1))), (7, .int (nI (Ns 0 (150 + 4 * pl + 0)))), (4, .int (nI (pl))), (0, .ref (b 0)), (1, .ref (sb)), (2, .int (nI (aa))), (3, .int (nI (Ns 0 6)))]) E.1 E.2.1 dL_isAct_203 hl (by decide) rfl (fun ls hl => ?_)
          refine lv_iload_n E.1 E.2.1 dL_isAct_205 rfl (lv_at hl 6 rfl) ?_
          refine lv_if_neN (tgt := 223) E.1 E.2.1 (by omega) dL_isAct_206 (by decide) (fun c206 => ?_) (fun c206 => ?_)
          · skip
            refine lv_iload_n E.1 E.2.1 dL_isAct_223 rfl (lv_at hl 6 rfl) ?_
            refine lv_bipush (v := nI 60) E.1 E.2.1 dL_isAct_224 (by decide) ?_
            refine lv_icmp_neN (tgt := 244) E.1 E.2.1 (by omega) (by omega) dL_isAct_226 (by decide) (fun c226 => ?_) (fun c226 => ?_)
            · skip
              refine lv_iload E.1 E.2.1 dL_isAct_244 (lv_at hl 0 rfl) ?_
              refine lv_iload_n E.1 E.2.1 dL_isAct_246 rfl (lv_at hl 6 rfl) ?_
              refine lv_iconst (v := nI 1) E.1 E.2.1 dL_isAct_247 (by decide) ?_
              refine lv_addN E.1 E.2.1 dL_isAct_248 ?_
              refine lv_icmp_neN (tgt := 283) E.1 E.2.1 (by omega) (by omega) dL_isAct_249 (by decide) (fun c249 => ?_) (fun c249 => ?_)
              · exact absurd rfl c249
              · skip
                refine lv_aload_n E.1 E.2.1 dL_isAct_252 rfl (lv_at hl 3 rfl) ?_
                refine lv_iload_n E.1 E.2.1 dL_isAct_253 rfl (lv_at hl 6 rfl) ?_
                refine lv_iconst (v := nI 0) E.1 E.2.1 dL_isAct_254 (by decide) ?_
                refine callVIp E (c_X3_message_ok l G b ad vs pd rv Ms (Ns 0 6) (by omega) hF2 0 (by decide)) ES.eb (fun _ _ _ => trivial) mn_8_8 YX3_message ⟨rfl, rfl⟩ ⟨Nat.le_of_ble_eq_true rfl, Nat.le_of_ble_eq_true rfl⟩ ⟨Nat.le_of_ble_eq_true rfl, Nat.le_of_ble_eq_true rfl⟩ hw (rr := []) (big' := cW G b ad vs pd rv Ms) (by rw [List.append_nil]) (by rw [List.append_nil]) 0 rfl rfl rfl hl rfl (Nat.le_of_ble_eq_true rfl) dL_isAct_255 (fun H locs hw => ?_)
                refine lv_iload E.1 E.2.1 dL_isAct_258 (lv_at hl 1 rfl) ?_
                refine lv_icmp_neN (tgt := 283) E.1 E.2.1 (by omega) (by omega) dL_isAct_260 (by decide) (fun c260 => ?_) (fun c260 => ?_)
                · exact absurd t0 c260
                · skip
                  refine lv_aload_n E.1 E.2.1 dL_isAct_263 rfl (lv_at hl 3 rfl) ?_
                  refine lv_iload_n E.1 E.2.1 dL_isAct_264 rfl (lv_at hl 6 rfl) ?_
                  refine lv_iconst (v := nI 3) E.1 E.2.1 dL_isAct_265 (by decide) ?_
                  refine callVIp E (c_X3_message_ok l G b ad vs pd rv Ms (Ns 0 6) (by omega) hF2 3 (by decide)) ES.eb (fun _ _ _ => trivial) mn_8_8 YX3_message ⟨rfl, rfl⟩ ⟨Nat.le_of_ble_eq_true rfl, Nat.le_of_ble_eq_true rfl⟩ ⟨Nat.le_of_ble_eq_true rfl, Nat.le_of_ble_eq_true rfl⟩ hw (rr := []) (big' := cW G b ad vs pd rv Ms) (by rw [List.append_nil]) (by rw [List.append_nil]) 0 rfl rfl rfl hl rfl (Nat.le_of_ble_eq_true rfl) dL_isAct_266 (fun H locs hw => ?_)
                  refine lv_aload_n E.1 E.2.1 dL_isAct_269 rfl (lv_at hl 3 rfl) ?_
                  refine lv_iload E.1 E.2.1 dL_isAct_270 (lv_at hl 2 rfl) ?_
                  refine lv_iconst (v := nI 3) E.1 E.2.1 dL_isAct_272 (by decide) ?_
                  refine callVIp E (c_X3_message_ok l G b ad vs pd rv Ms pl (by omega) hF2 3 (by decide)) ES.eb (fun _ _ _ => trivial) mn_8_8 YX3_message ⟨rfl, rfl⟩ ⟨Nat.le_of_ble_eq_true rfl, Nat.le_of_ble_eq_true rfl⟩ ⟨Nat.le_of_ble_eq_true rfl, Nat.le_of_ble_eq_true rfl⟩ hw (rr := []) (big' := cW G b ad vs pd rv Ms) (by rw [List.append_nil]) (by rw [List.append_nil]) 0 rfl rfl rfl hl rfl (Nat.le_of_ble_eq_true rfl) dL_isAct_273 (fun H locs hw => ?_)
                  refine lv_icmp_neN (tgt := 283) E.1 E.2.1 (by omega) (by omega) dL_isAct_276 (by decide) (fun c276 => ?_) (fun c276 => ?_)
                  · exact absurd t3 c276
                  · skip
                    refine lv_iconst (v := nI 1) E.1 E.2.1 dL_isAct_279 (by decide) ?_
                    refine lv_goto (tgt := 284) E.1 E.2.1 dL_isAct_280 (by decide) ?_
                    refine W.widen (k := 3) (n := 24) (Nat.le_of_ble_eq_true rfl) (Nat.le_of_ble_eq_true rfl) ?_
                    exact rU E hr hlk (vs, Ms) (⟨hcv2, hO2⟩) (HB.eq hw (rfl)) dL_isAct_284
            · exact absurd c226 h60
          · omega
        · skip
          refine lv_aload_n E.1 E.2.1 dL_isAct_188 rfl (lv_at hl 1 rfl) ?_
          refine lv_iload E.1 E.2.1 dL_isAct_189 (lv_at hl 0 rfl) ?_
          refine lv_iconst (v := nI 0) E.1 E.2.1 dL_isAct_191 (by decide) ?_
          refine callVIp E (c_X3_message_ok l G b ad v pd rv Ns pl (by omega) hF 0 (by decide)) ES.eb (fun _ _ _ => trivial) mn_8_8 YX3_message ⟨rfl, rfl⟩ ⟨Nat.le_of_ble_eq_true rfl, Nat.le_of_ble_eq_true rfl⟩ ⟨Nat.le_of_ble_eq_true rfl, Nat.le_of_ble_eq_true rfl⟩ hw (rr := []) (big' := cW G b ad v pd rv Ns) (by rw [List.append_nil]) (by rw [List.append_nil]) 0 rfl rfl rfl hl rfl (Nat.le_of_ble_eq_true rfl) dL_isAct_192 (fun H locs hw => ?_)
          refine lv_istore (lv' := [(7, .int (nI (Ns 0 (150 + 4 * pl + 0)))), (4, .int (nI (pl))), (0, .ref (b 0)), (1, .ref (sb)), (2, .int (nI (aa))), (3, .int (nI (Ns 0 6)))]) E.1 E.2.1 dL_isAct_195 hl (by decide) rfl (fun ls hl => ?_)
          refine lv_aload_n E.1 E.2.1 dL_isAct_197 rfl (lv_at hl 2 rfl) ?_
          refine lv_iload E.1 E.2.1 dL_isAct_198 (lv_at hl 1 rfl) ?_
          refine callVIp E (c_X3_twice_full l G b ad v pd rv Ns nx u hx0 hnx hu0 hu6 pl hpl hI h60) ES.eb (fun _ _ _ => trivial) mn_11_7 YX3_twice ⟨rfl, rfl⟩ ⟨Nat.le_of_ble_eq_true rfl, Nat.le_of_ble_eq_true rfl⟩ ⟨Nat.le_of_ble_eq_true rfl, Nat.le_of_ble_eq_true rfl⟩ hw (rr := []) (big' := cW G b ad v pd rv (va_up (Ns) (2 + nx) (Ns 0))) (by rw [List.append_nil]) (by rw [List.append_nil]) 0 rfl rfl rfl hl rfl (Nat.le_of_ble_eq_true rfl) dL_isAct_200 (fun H locs hw => ?_)
          obtain ⟨Ms, vs, e0, hcv2, hw⟩ : ∃ (Ms : Nat → NS) (vs : Nat → Int32), Ms 0 = Ns 0 ∧ CV vs ∧ HB G AA sS.heap (cW G b ad vs pd rv Ms) H locs := ⟨_, _, va_up_ne _ _ (by omega), hcv, hw⟩
          have hO2 : okN (T + 1) (Ms 0) := by rw [e0]; exact hO.up
          have hI2 := hO2.1
          have hDV2 : dvI (Ms 0) 5 = Ms 0 7 := hO2.2.1
          have hF2 := hI2.1
          have hm2 := hI2.hm
          refine lv_istore (lv' := [(8, .int (-4)), (7, .int (nI (Ns 0 (150 + 4 * pl + 0)))), (4, .int (nI (pl))), (0, .ref (b 0)), (1, .ref (sb)), (2, .int (nI (aa))), (3, .int (nI (Ns 0 6)))]) E.1 E.2.1 dL_isAct_203 hl (by decide) rfl (fun ls hl => ?_)
          refine lv_iload_n E.1 E.2.1 dL_isAct_205 rfl (lv_at hl 6 rfl) ?_
          refine lv_if_neN (tgt := 223) E.1 E.2.1 (by omega) dL_isAct_206 (by decide) (fun c206 => ?_) (fun c206 => ?_)
          · skip
            refine lv_iload_n E.1 E.2.1 dL_isAct_223 rfl (lv_at hl 6 rfl) ?_
            refine lv_bipush (v := nI 60) E.1 E.2.1 dL_isAct_224 (by decide) ?_
            refine lv_icmp_neN (tgt := 244) E.1 E.2.1 (by omega) (by omega) dL_isAct_226 (by decide) (fun c226 => ?_) (fun c226 => ?_)
            · exact absurd h60 c226
            · skip
              refine lv_iload E.1 E.2.1 dL_isAct_229 (lv_at hl 0 rfl) ?_
              refine lv_bipush (v := -4) E.1 E.2.1 dL_isAct_231 (by decide) ?_
              refine lv_icmp_ne (tgt := 240) E.1 E.2.1 dL_isAct_233 (by decide) (fun c233 => ?_) (fun c233 => ?_)
              · exact absurd c233 (by decide)
              · skip
                refine lv_iconst (v := nI 1) E.1 E.2.1 dL_isAct_236 (by decide) ?_
                refine lv_goto (tgt := 284) E.1 E.2.1 dL_isAct_237 (by decide) ?_
                refine W.widen (k := 3) (n := 24) (Nat.le_of_ble_eq_true rfl) (Nat.le_of_ble_eq_true rfl) ?_
                exact rU E hr hlk (vs, Ms) (⟨hcv2, hO2⟩) (HB.eq hw (rfl)) dL_isAct_284
          · omega
        · skip
          subst hpl
          have hb : ¬ (0 ≤ nI 0 ∧ nI 0 < nI (Ns 0 6)) := by rw [h06]; decide
          refine lv_aload_n E.1 E.2.1 dL_isAct_188 rfl (lv_at hl 1 rfl) ?_
          refine lv_iload E.1 E.2.1 dL_isAct_189 (lv_at hl 0 rfl) ?_
          refine lv_iconst (v := nI 0) E.1 E.2.1 dL_isAct_191 (by decide) ?_
          refine callVIp E (c_X3_message_bad1 l G b ad v pd rv Ns (nI 0) hb (nI 0)) ES.eb (fun _ _ _ => trivial) mn_8_8 YX3_message ⟨rfl, rfl⟩ ⟨Nat.le_of_ble_eq_true rfl, Nat.le_of_ble_eq_true rfl⟩ ⟨Nat.le_of_ble_eq_true rfl, Nat.le_of_ble_eq_true rfl⟩ hw (rr := []) (big' := cW G b ad v pd rv Ns) (by rw [List.append_nil]) (by rw [List.append_nil]) 0 rfl rfl rfl hl rfl (Nat.le_of_ble_eq_true rfl) dL_isAct_192 (fun H locs hw => ?_)
          refine lv_istore (lv' := [(7, .int (-1)), (4, .int (nI (0))), (0, .ref (b 0)), (1, .ref (sb)), (2, .int (nI (aa))), (3, .int (nI (Ns 0 6)))]) E.1 E.2.1 dL_isAct_195 hl (by decide) rfl (fun ls hl => ?_)
          refine lv_aload_n E.1 E.2.1 dL_isAct_197 rfl (lv_at hl 2 rfl) ?_
          refine lv_iload E.1 E.2.1 dL_isAct_198 (lv_at hl 1 rfl) ?_
          refine callVIp E (c_X3_twice_bad l G b ad v pd rv Ns nx u hx0 hnx hu0 hu6 (nI 0) hb) ES.eb (fun _ _ _ => trivial) mn_11_7 YX3_twice ⟨rfl, rfl⟩ ⟨Nat.le_of_ble_eq_true rfl, Nat.le_of_ble_eq_true rfl⟩ ⟨Nat.le_of_ble_eq_true rfl, Nat.le_of_ble_eq_true rfl⟩ hw (rr := []) (big' := cW G b ad v pd rv (va_up (Ns) (2 + nx) (Ns 0))) (by rw [List.append_nil]) (by rw [List.append_nil]) 0 rfl rfl rfl hl rfl (Nat.le_of_ble_eq_true rfl) dL_isAct_200 (fun H locs hw => ?_)
          obtain ⟨Ms, vs, e0, hcv2, hw⟩ : ∃ (Ms : Nat → NS) (vs : Nat → Int32), Ms 0 = Ns 0 ∧ CV vs ∧ HB G AA sS.heap (cW G b ad vs pd rv Ms) H locs := ⟨_, _, va_up_ne _ _ (by omega), hcv, hw⟩
          have hO2 : okN (T + 1) (Ms 0) := by rw [e0]; exact hO.up
          have hI2 := hO2.1
          have hDV2 : dvI (Ms 0) 5 = Ms 0 7 := hO2.2.1
          have hF2 := hI2.1
          have hm2 := hI2.hm
          refine lv_istore (lv' := [(8, .int (-1)), (7, .int (-1)), (4, .int (nI (0))), (0, .ref (b 0)), (1, .ref (sb)), (2, .int (nI (aa))), (3, .int (nI (Ns 0 6)))]) E.1 E.2.1 dL_isAct_203 hl (by decide) rfl (fun ls hl => ?_)
          refine lv_iload_n E.1 E.2.1 dL_isAct_205 rfl (lv_at hl 6 rfl) ?_
          refine lv_if_neN (tgt := 223) E.1 E.2.1 (by omega) dL_isAct_206 (by decide) (fun c206 => ?_) (fun c206 => ?_)
          · omega
          · skip
            refine lv_iload E.1 E.2.1 dL_isAct_209 (lv_at hl 0 rfl) ?_
            refine lv_iconst (v := -1) E.1 E.2.1 dL_isAct_211 (by decide) ?_
            refine lv_icmp_ne (tgt := 219) E.1 E.2.1 dL_isAct_212 (by decide) (fun c212 => ?_) (fun c212 => ?_)
            · exact absurd c212 (by decide)
            · skip
              refine lv_iconst (v := nI 1) E.1 E.2.1 dL_isAct_215 (by decide) ?_
              refine lv_goto (tgt := 284) E.1 E.2.1 dL_isAct_216 (by decide) ?_
              refine W.widen (k := 3) (n := 24) (Nat.le_of_ble_eq_true rfl) (Nat.le_of_ble_eq_true rfl) ?_
              exact rU E hr hlk (vs, Ms) (⟨hcv2, hO2⟩) (HB.eq hw (rfl)) dL_isAct_284
      by_cases z50_6 : sw = 6
      · refine lv_eqi (y := nI 6) (by rw [z50_6]) ?_
        refine lv_tableIn (tgt := 285) E.1 E.2.1 dL_isAct_50 (by decide) (by decide) rfl (by decide) ?_
        refine lv_aload_n E.1 E.2.1 dL_isAct_285 rfl (lv_at hl 2 rfl) ?_
        refine lv_iload_n E.1 E.2.1 dL_isAct_286 rfl (lv_at hl 3 rfl) ?_
        refine lv_iconst (v := nI 2) E.1 E.2.1 dL_isAct_287 (by decide) ?_
        refine lv_addN E.1 E.2.1 dL_isAct_288 ?_
        refine lv_iconst (v := nI 2) E.1 E.2.1 dL_isAct_289 (by decide) ?_
        refine callSX E (c_L_cell l G sb L xs hL (aa + 2) 2 (by omega) (by omega) (by omega)) XSc.eb (XSc.to hE.1.2 hsA hw) mn_3_0 YL_cell ⟨rfl, rfl⟩ ⟨Nat.le_of_ble_eq_true rfl, Nat.le_of_ble_eq_true rfl⟩ ⟨Nat.le_of_ble_eq_true rfl, Nat.le_of_ble_eq_true rfl⟩ hw (w := []) (w' := []) (rr := cW G b ad v pd rv Ns) (big' := cW G b ad v pd rv Ns) (List.Perm.refl _) (List.Perm.refl _) rfl hl rfl (Nat.le_of_ble_eq_true rfl) dL_isAct_290 (fun H locs hw => ?_)
        obtain ⟨c6, h_c6, e_c6⟩ : ∃ q, q < 2 ∧ cellR L xs (aa + 2) 2 = q := ⟨_, cellR_lt (by omega), rfl⟩
        refine lv_eqi (y := nI c6) (congrArg nI e_c6) ?_
        refine lv_if_eqN (tgt := 311) E.1 E.2.1 (by omega) dL_isAct_293 (by decide) (fun c293 => ?_) (fun c293 => ?_)
        · skip
          refine lv_iconst (v := nI 1) E.1 E.2.1 dL_isAct_311 (by decide) ?_
          refine lv_goto (tgt := 316) E.1 E.2.1 dL_isAct_312 (by decide) ?_
          refine W.widen (k := 3) (n := 24) (Nat.le_of_ble_eq_true rfl) (Nat.le_of_ble_eq_true rfl) ?_
          exact rU E hr hlk (v, Ns) (⟨hcv, hO.up⟩) (HB.eq hw (rfl)) dL_isAct_316
        · skip
          refine lv_aload_n E.1 E.2.1 dL_isAct_296 rfl (lv_at hl 1 rfl) ?_
          refine lv_aload_n E.1 E.2.1 dL_isAct_297 rfl (lv_at hl 2 rfl) ?_
          refine lv_iload_n E.1 E.2.1 dL_isAct_298 rfl (lv_at hl 3 rfl) ?_
          refine lv_iconst (v := nI 1) E.1 E.2.1 dL_isAct_299 (by decide) ?_
          refine lv_addN E.1 E.2.1 dL_isAct_300 ?_
          refine lv_iconst (v := nI 5) E.1 E.2.1 dL_isAct_301 (by decide) ?_
          refine callSX E (c_L_cell l G sb L xs hL (aa + 1) 5 (by omega) (by omega) (by omega)) XSc.eb (XSc.to hE.1.2 hsA hw) mn_3_0 YL_cell ⟨rfl, rfl⟩ ⟨Nat.le_of_ble_eq_true rfl, Nat.le_of_ble_eq_true rfl⟩ ⟨Nat.le_of_ble_eq_true rfl, Nat.le_of_ble_eq_true rfl⟩ hw (w := []) (w' := []) (rr := cW G b ad v pd rv Ns) (big' := cW G b ad v pd rv Ns) (List.Perm.refl _) (List.Perm.refl _) rfl hl rfl (Nat.le_of_ble_eq_true rfl) dL_isAct_302 (fun H locs hw => ?_)
          obtain ⟨wf, h_wf, e_wf⟩ : ∃ q, q < 5 ∧ cellR L xs (aa + 1) 5 = q := ⟨_, cellR_lt (by omega), rfl⟩
          refine lv_eqi (y := nI wf) (congrArg nI e_wf) ?_
          refine callMU E (c_L_isFallen l G b ad v pd rv Ns hcv hI hDV hV wf (by omega)) ES.eb (fun _ _ _ => trivial) mn_11_19 YL_isFallen ⟨Nat.le_of_ble_eq_true rfl, Nat.le_of_ble_eq_true rfl⟩ ⟨Nat.le_of_ble_eq_true rfl, Nat.le_of_ble_eq_true rfl⟩ hw rfl hl rfl (Nat.le_of_ble_eq_true rfl) dL_isAct_305 (fun u H locs hok hw => ?_)
          refine lv_if_eq (tgt := 315) E.1 E.2.1 dL_isAct_308 (by decide) (fun c308 => ?_) (fun c308 => ?_)
          · exact absurd c308 (by decide)
          · skip
            refine lv_iconst (v := nI 1) E.1 E.2.1 dL_isAct_311 (by decide) ?_
            refine lv_goto (tgt := 316) E.1 E.2.1 dL_isAct_312 (by decide) ?_
            refine W.widen (k := 3) (n := 24) (Nat.le_of_ble_eq_true rfl) (Nat.le_of_ble_eq_true rfl) ?_
            exact rU E hr hlk u (⟨hok.1, by rw [hok.2]; exact ac_fall hO (by omega)⟩) (HB.eq hw (rfl)) dL_isAct_316
      by_cases z50_7 : sw = 7
      · refine lv_eqi (y := nI 7) (by rw [z50_7]) ?_
        refine lv_tableIn (tgt := 317) E.1 E.2.1 dL_isAct_50 (by decide) (by decide) rfl (by decide) ?_
        refine lv_aload_n E.1 E.2.1 dL_isAct_317 rfl (lv_at hl 2 rfl) ?_
        refine lv_iload_n E.1 E.2.1 dL_isAct_318 rfl (lv_at hl 3 rfl) ?_
        refine lv_iconst (v := nI 1) E.1 E.2.1 dL_isAct_319 (by decide) ?_
        refine lv_addN E.1 E.2.1 dL_isAct_320 ?_
        refine lv_iconst (v := nI 5) E.1 E.2.1 dL_isAct_321 (by decide) ?_
        refine callSX E (c_L_cell l G sb L xs hL (aa + 1) 5 (by omega) (by omega) (by omega)) XSc.eb (XSc.to hE.1.2 hsA hw) mn_3_0 YL_cell ⟨rfl, rfl⟩ ⟨Nat.le_of_ble_eq_true rfl, Nat.le_of_ble_eq_true rfl⟩ ⟨Nat.le_of_ble_eq_true rfl, Nat.le_of_ble_eq_true rfl⟩ hw (w := []) (w' := []) (rr := cW G b ad v pd rv Ns) (big' := cW G b ad v pd rv Ns) (List.Perm.refl _) (List.Perm.refl _) rfl hl rfl (Nat.le_of_ble_eq_true rfl) dL_isAct_322 (fun H locs hw => ?_)
        obtain ⟨wh, h_wh, e_wh⟩ : ∃ q, q < 5 ∧ cellR L xs (aa + 1) 5 = q := ⟨_, cellR_lt (by omega), rfl⟩
        refine lv_eqi (y := nI wh) (congrArg nI e_wh) ?_
        refine lv_istore (lv' := [(9, .int (nI (wh))), (4, .int (nI (pl))), (0, .ref (b 0)), (1, .ref (sb)), (2, .int (nI (aa))), (3, .int (nI (Ns 0 6)))]) E.1 E.2.1 dL_isAct_325 hl (by decide) rfl (fun ls hl => ?_)
        by_cases hq : Ns 0 (10 + wh) = 1
        · skip
          have hf : ¬ rRis wh (Ns 0) < 0 := by rw [rRis, if_pos hq]; exact nI_pos (by have := illI_le (hI.rise (w := wh) (by omega)).1 5 (Nat.le_refl 5); unfold illN; omega)
          refine lv_aload_n E.1 E.2.1 dL_isAct_327 rfl (lv_at hl 2 rfl) ?_
          refine lv_iload E.1 E.2.1 dL_isAct_328 (lv_at hl 0 rfl) ?_
          refine lv_iconst (v := nI 0) E.1 E.2.1 dL_isAct_330 (by decide) ?_
          have iw := hF.il (w := wh) (by omega)
          refine callVIp E (c_X3_who_ok l G b ad v pd rv Ns wh 0 (by omega) (by decide) hF hm) ES.eb (fun _ _ _ => trivial) mn_6_14 YX3_who ⟨rfl, rfl⟩ ⟨Nat.le_of_ble_eq_true rfl, Nat.le_of_ble_eq_true rfl⟩ ⟨Nat.le_of_ble_eq_true rfl, Nat.le_of_ble_eq_true rfl⟩ hw (rr := []) (big' := cW G b ad v pd rv Ns) (by rw [List.append_nil]) (by rw [List.append_nil]) 0 rfl rfl rfl hl rfl (Nat.le_of_ble_eq_true rfl) dL_isAct_331 (fun H locs hw => ?_)
          refine lv_eqi (y := nI (Ns 0 (10 + wh))) (rfl) ?_
          refine lv_iconst (v := nI 1) E.1 E.2.1 dL_isAct_334 (by decide) ?_
          refine lv_icmp_neN (tgt := 342) E.1 E.2.1 (by omega) (by omega) dL_isAct_335 (by decide) (fun c335 => ?_) (fun c335 => ?_)
          · exact absurd hq c335
          · skip
            refine lv_iconst (v := nI 1) E.1 E.2.1 dL_isAct_338 (by decide) ?_
            refine lv_goto (tgt := 343) E.1 E.2.1 dL_isAct_339 (by decide) ?_
            refine lv_istore (lv' := [(10, .int (nI (1))), (9, .int (nI (wh))), (4, .int (nI (pl))), (0, .ref (b 0)), (1, .ref (sb)), (2, .int (nI (aa))), (3, .int (nI (Ns 0 6)))]) E.1 E.2.1 dL_isAct_343 hl (by decide) rfl (fun ls hl => ?_)
            refine lv_aload_n E.1 E.2.1 dL_isAct_345 rfl (lv_at hl 3 rfl) ?_
            refine lv_iload E.1 E.2.1 dL_isAct_346 (lv_at hl 1 rfl) ?_
            refine callVIp E (c_X3_rise_ok l G b ad v pd rv Ns nx u hx0 hnx hu0 hu6 wh (by omega) hF hf) ES.eb (fun _ _ _ => trivial) mn_12_21 YX3_rise ⟨rfl, rfl⟩ ⟨Nat.le_of_ble_eq_true rfl, Nat.le_of_ble_eq_true rfl⟩ ⟨Nat.le_of_ble_eq_true rfl, Nat.le_of_ble_eq_true rfl⟩ hw (rr := []) (big' := cW G b ad (recV nx u v) pd rv (va_up (va_up (Ns) (2 + nx) (Ns 0)) 0 (nRis wh (Ns 0)))) (by rw [List.append_nil]) (by rw [List.append_nil]) 0 rfl rfl rfl hl rfl (Nat.le_of_ble_eq_true rfl) dL_isAct_348 (fun H locs hw => ?_)
            refine lv_eqi (y := nI (illN (mRise wh (Ns 0)))) (by rw [rRis, if_pos hq]) ?_
            obtain ⟨Ms, vs, e0, hcv2, hw⟩ : ∃ (Ms : Nat → NS) (vs : Nat → Int32), Ms 0 = nRis wh (Ns 0) ∧ CV vs ∧ HB G AA sS.heap (cW G b ad vs pd rv Ms) H locs := ⟨_, _, va_up_self _ _ _, CV.rec hnx hu6, hw⟩
            have hO2 : okN (T + 1) (Ms 0) := by rw [e0]; exact ac_rise hO (by omega)
            have hI2 := hO2.1
            have hDV2 : dvI (Ms 0) 5 = Ms 0 7 := hO2.2.1
            have hF2 := hI2.1
            have hm2 := hI2.hm
            have hil : illN (mRise wh (Ns 0)) ≤ 5 := illI_le (hI.rise (w := wh) (by omega)).1 5 (Nat.le_refl 5)
            have ew : Ms 0 (10 + wh) = 0 := by rw [e0, nRis, if_pos hq]; exact un_s
            refine lv_if_geN (tgt := 358) E.1 E.2.1 (by omega) dL_isAct_351 (by decide) (fun c351 => ?_) (fun c351 => ?_)
            · skip
              refine lv_iconst (v := nI 0) E.1 E.2.1 dL_isAct_358 (by decide) ?_
              refine lv_iload E.1 E.2.1 dL_isAct_359 (lv_at hl 0 rfl) ?_
              refine lv_if_neN (tgt := 368) E.1 E.2.1 (by omega) dL_isAct_361 (by decide) (fun c361 => ?_) (fun c361 => ?_)
              · skip
                refine lv_iconst (v := nI 0) E.1 E.2.1 dL_isAct_368 (by decide) ?_
                refine lv_icmp_neN (tgt := 386) E.1 E.2.1 (by omega) (by omega) dL_isAct_369 (by decide) (fun c369 => ?_) (fun c369 => ?_)
                · exact absurd c369 (by decide)
                · skip
                  refine lv_aload_n E.1 E.2.1 dL_isAct_372 rfl (lv_at hl 3 rfl) ?_
                  refine lv_iload E.1 E.2.1 dL_isAct_373 (lv_at hl 1 rfl) ?_
                  refine lv_iconst (v := nI 0) E.1 E.2.1 dL_isAct_375 (by decide) ?_
                  refine callVIp E (c_X3_who_ok l G b ad vs pd rv Ms wh 0 (by omega) (by decide) hF2 hm2) ES.eb (fun _ _ _ => trivial) mn_6_14 YX3_who ⟨rfl, rfl⟩ ⟨Nat.le_of_ble_eq_true rfl, Nat.le_of_ble_eq_true rfl⟩ ⟨Nat.le_of_ble_eq_true rfl, Nat.le_of_ble_eq_true rfl⟩ hw (rr := []) (big' := cW G b ad vs pd rv Ms) (by rw [List.append_nil]) (by rw [List.append_nil]) 0 rfl rfl rfl hl rfl (Nat.le_of_ble_eq_true rfl) dL_isAct_376 (fun H locs hw => ?_)
                  refine lv_eqi (y := nI (Ms 0 (10 + wh))) (rfl) ?_
                  refine lv_if_neN (tgt := 386) E.1 E.2.1 (by omega) dL_isAct_379 (by decide) (fun c379 => ?_) (fun c379 => ?_)
                  · exact absurd ew c379
                  · skip
                    refine lv_iconst (v := nI 1) E.1 E.2.1 dL_isAct_382 (by decide) ?_
                    refine lv_goto (tgt := 387) E.1 E.2.1 dL_isAct_383 (by decide) ?_
                    refine W.widen (k := 3) (n := 24) (Nat.le_of_ble_eq_true rfl) (Nat.le_of_ble_eq_true rfl) ?_
                    exact rU E hr hlk (vs, Ms) (⟨hcv2, hO2⟩) (HB.eq hw (rfl)) dL_isAct_387
              · exact absurd c361 (by decide)
            · omega
        · skip
          have hf : rRis wh (Ns 0) < 0 := by rw [rRis, if_neg hq]; decide
          refine lv_aload_n E.1 E.2.1 dL_isAct_327 rfl (lv_at hl 2 rfl) ?_
          refine lv_iload E.1 E.2.1 dL_isAct_328 (lv_at hl 0 rfl) ?_
          refine lv_iconst (v := nI 0) E.1 E.2.1 dL_isAct_330 (by decide) ?_
          have iw := hF.il (w := wh) (by omega)
          refine callVIp E (c_X3_who_ok l G b ad v pd rv Ns wh 0 (by omega) (by decide) hF hm) ES.eb (fun _ _ _ => trivial) mn_6_14 YX3_who ⟨rfl, rfl⟩ ⟨Nat.le_of_ble_eq_true rfl, Nat.le_of_ble_eq_true rfl⟩ ⟨Nat.le_of_ble_eq_true rfl, Nat.le_of_ble_eq_true rfl⟩ hw (rr := []) (big' := cW G b ad v pd rv Ns) (by rw [List.append_nil]) (by rw [List.append_nil]) 0 rfl rfl rfl hl rfl (Nat.le_of_ble_eq_true rfl) dL_isAct_331 (fun H locs hw => ?_)
          refine lv_eqi (y := nI (Ns 0 (10 + wh))) (rfl) ?_
          refine lv_iconst (v := nI 1) E.1 E.2.1 dL_isAct_334 (by decide) ?_
          refine lv_icmp_neN (tgt := 342) E.1 E.2.1 (by omega) (by omega) dL_isAct_335 (by decide) (fun c335 => ?_) (fun c335 => ?_)
          · skip
            refine lv_iconst (v := nI 0) E.1 E.2.1 dL_isAct_342 (by decide) ?_
            refine lv_istore (lv' := [(10, .int (nI (0))), (9, .int (nI (wh))), (4, .int (nI (pl))), (0, .ref (b 0)), (1, .ref (sb)), (2, .int (nI (aa))), (3, .int (nI (Ns 0 6)))]) E.1 E.2.1 dL_isAct_343 hl (by decide) rfl (fun ls hl => ?_)
            refine lv_aload_n E.1 E.2.1 dL_isAct_345 rfl (lv_at hl 3 rfl) ?_
            refine lv_iload E.1 E.2.1 dL_isAct_346 (lv_at hl 1 rfl) ?_
            refine callVIp E (c_X3_rise_no l G b ad v pd rv Ns nx u hx0 hnx hu0 hu6 wh (by omega) hF hf) ES.eb (fun _ _ _ => trivial) mn_12_21 YX3_rise ⟨rfl, rfl⟩ ⟨Nat.le_of_ble_eq_true rfl, Nat.le_of_ble_eq_true rfl⟩ ⟨Nat.le_of_ble_eq_true rfl, Nat.le_of_ble_eq_true rfl⟩ hw (rr := []) (big' := cW G b ad v pd rv (va_up (va_up (Ns) (2 + nx) (Ns 0)) 0 (nRis wh (Ns 0)))) (by rw [List.append_nil]) (by rw [List.append_nil]) 0 rfl rfl rfl hl rfl (Nat.le_of_ble_eq_true rfl) dL_isAct_348 (fun H locs hw => ?_)
            refine lv_eqi (y := -5) (by rw [rRis, if_neg hq]) ?_
            obtain ⟨Ms, vs, e0, hcv2, hw⟩ : ∃ (Ms : Nat → NS) (vs : Nat → Int32), Ms 0 = nRis wh (Ns 0) ∧ CV vs ∧ HB G AA sS.heap (cW G b ad vs pd rv Ms) H locs := ⟨_, _, va_up_self _ _ _, hcv, hw⟩
            have hO2 : okN (T + 1) (Ms 0) := by rw [e0]; exact ac_rise hO (by omega)
            have hI2 := hO2.1
            have hDV2 : dvI (Ms 0) 5 = Ms 0 7 := hO2.2.1
            have hF2 := hI2.1
            have hm2 := hI2.hm
            have ew : Ms 0 (10 + wh) = 0 := by rw [e0, nRis, if_neg hq]; omega
            refine lv_if_ge (tgt := 358) E.1 E.2.1 dL_isAct_351 (by decide) (fun c351 => ?_) (fun c351 => ?_)
            · exact absurd c351 (by decide)
            · skip
              refine lv_iconst (v := nI 1) E.1 E.2.1 dL_isAct_354 (by decide) ?_
              refine lv_goto (tgt := 359) E.1 E.2.1 dL_isAct_355 (by decide) ?_
              refine lv_iload E.1 E.2.1 dL_isAct_359 (lv_at hl 0 rfl) ?_
              refine lv_if_neN (tgt := 368) E.1 E.2.1 (by omega) dL_isAct_361 (by decide) (fun c361 => ?_) (fun c361 => ?_)
              · exact absurd c361 (by decide)
              · skip
                refine lv_iconst (v := nI 1) E.1 E.2.1 dL_isAct_364 (by decide) ?_
                refine lv_goto (tgt := 369) E.1 E.2.1 dL_isAct_365 (by decide) ?_
                refine lv_icmp_neN (tgt := 386) E.1 E.2.1 (by omega) (by omega) dL_isAct_369 (by decide) (fun c369 => ?_) (fun c369 => ?_)
                · exact absurd c369 (by decide)
                · skip
                  refine lv_aload_n E.1 E.2.1 dL_isAct_372 rfl (lv_at hl 3 rfl) ?_
                  refine lv_iload E.1 E.2.1 dL_isAct_373 (lv_at hl 1 rfl) ?_
                  refine lv_iconst (v := nI 0) E.1 E.2.1 dL_isAct_375 (by decide) ?_
                  refine callVIp E (c_X3_who_ok l G b ad vs pd rv Ms wh 0 (by omega) (by decide) hF2 hm2) ES.eb (fun _ _ _ => trivial) mn_6_14 YX3_who ⟨rfl, rfl⟩ ⟨Nat.le_of_ble_eq_true rfl, Nat.le_of_ble_eq_true rfl⟩ ⟨Nat.le_of_ble_eq_true rfl, Nat.le_of_ble_eq_true rfl⟩ hw (rr := []) (big' := cW G b ad vs pd rv Ms) (by rw [List.append_nil]) (by rw [List.append_nil]) 0 rfl rfl rfl hl rfl (Nat.le_of_ble_eq_true rfl) dL_isAct_376 (fun H locs hw => ?_)
                  refine lv_eqi (y := nI (Ms 0 (10 + wh))) (rfl) ?_
                  refine lv_if_neN (tgt := 386) E.1 E.2.1 (by omega) dL_isAct_379 (by decide) (fun c379 => ?_) (fun c379 => ?_)
                  · exact absurd ew c379
                  · skip
                    refine lv_iconst (v := nI 1) E.1 E.2.1 dL_isAct_382 (by decide) ?_
                    refine lv_goto (tgt := 387) E.1 E.2.1 dL_isAct_383 (by decide) ?_
                    refine W.widen (k := 3) (n := 24) (Nat.le_of_ble_eq_true rfl) (Nat.le_of_ble_eq_true rfl) ?_
                    exact rU E hr hlk (vs, Ms) (⟨hcv2, hO2⟩) (HB.eq hw (rfl)) dL_isAct_387
          · exact absurd c335 hq
      by_cases z50_8 : sw = 8
      · refine lv_eqi (y := nI 8) (by rw [z50_8]) ?_
        refine lv_tableIn (tgt := 317) E.1 E.2.1 dL_isAct_50 (by decide) (by decide) rfl (by decide) ?_
        refine lv_aload_n E.1 E.2.1 dL_isAct_317 rfl (lv_at hl 2 rfl) ?_
        refine lv_iload_n E.1 E.2.1 dL_isAct_318 rfl (lv_at hl 3 rfl) ?_
        refine lv_iconst (v := nI 1) E.1 E.2.1 dL_isAct_319 (by decide) ?_
        refine lv_addN E.1 E.2.1 dL_isAct_320 ?_
        refine lv_iconst (v := nI 5) E.1 E.2.1 dL_isAct_321 (by decide) ?_
        refine callSX E (c_L_cell l G sb L xs hL (aa + 1) 5 (by omega) (by omega) (by omega)) XSc.eb (XSc.to hE.1.2 hsA hw) mn_3_0 YL_cell ⟨rfl, rfl⟩ ⟨Nat.le_of_ble_eq_true rfl, Nat.le_of_ble_eq_true rfl⟩ ⟨Nat.le_of_ble_eq_true rfl, Nat.le_of_ble_eq_true rfl⟩ hw (w := []) (w' := []) (rr := cW G b ad v pd rv Ns) (big' := cW G b ad v pd rv Ns) (List.Perm.refl _) (List.Perm.refl _) rfl hl rfl (Nat.le_of_ble_eq_true rfl) dL_isAct_322 (fun H locs hw => ?_)
        obtain ⟨wh, h_wh, e_wh⟩ : ∃ q, q < 5 ∧ cellR L xs (aa + 1) 5 = q := ⟨_, cellR_lt (by omega), rfl⟩
        refine lv_eqi (y := nI wh) (congrArg nI e_wh) ?_
        refine lv_istore (lv' := [(9, .int (nI (wh))), (4, .int (nI (pl))), (0, .ref (b 0)), (1, .ref (sb)), (2, .int (nI (aa))), (3, .int (nI (Ns 0 6)))]) E.1 E.2.1 dL_isAct_325 hl (by decide) rfl (fun ls hl => ?_)
        by_cases hq : Ns 0 (10 + wh) = 1
        · skip
          have hf : ¬ rRis wh (Ns 0) < 0 := by rw [rRis, if_pos hq]; exact nI_pos (by have := illI_le (hI.rise (w := wh) (by omega)).1 5 (Nat.le_refl 5); unfold illN; omega)
          refine lv_aload_n E.1 E.2.1 dL_isAct_327 rfl (lv_at hl 2 rfl) ?_
          refine lv_iload E.1 E.2.1 dL_isAct_328 (lv_at hl 0 rfl) ?_
          refine lv_iconst (v := nI 0) E.1 E.2.1 dL_isAct_330 (by decide) ?_
          have iw := hF.il (w := wh) (by omega)
          refine callVIp E (c_X3_who_ok l G b ad v pd rv Ns wh 0 (by omega) (by decide) hF hm) ES.eb (fun _ _ _ => trivial) mn_6_14 YX3_who ⟨rfl, rfl⟩ ⟨Nat.le_of_ble_eq_true rfl, Nat.le_of_ble_eq_true rfl⟩ ⟨Nat.le_of_ble_eq_true rfl, Nat.le_of_ble_eq_true rfl⟩ hw (rr := []) (big' := cW G b ad v pd rv Ns) (by rw [List.append_nil]) (by rw [List.append_nil]) 0 rfl rfl rfl hl rfl (Nat.le_of_ble_eq_true rfl) dL_isAct_331 (fun H locs hw => ?_)
          refine lv_eqi (y := nI (Ns 0 (10 + wh))) (rfl) ?_
          refine lv_iconst (v := nI 1) E.1 E.2.1 dL_isAct_334 (by decide) ?_
          refine lv_icmp_neN (tgt := 342) E.1 E.2.1 (by omega) (by omega) dL_isAct_335 (by decide) (fun c335 => ?_) (fun c335 => ?_)
          · exact absurd hq c335
          · skip
            refine lv_iconst (v := nI 1) E.1 E.2.1 dL_isAct_338 (by decide) ?_
            refine lv_goto (tgt := 343) E.1 E.2.1 dL_isAct_339 (by decide) ?_
            refine lv_istore (lv' := [(10, .int (nI (1))), (9, .int (nI (wh))), (4, .int (nI (pl))), (0, .ref (b 0)), (1, .ref (sb)), (2, .int (nI (aa))), (3, .int (nI (Ns 0 6)))]) E.1 E.2.1 dL_isAct_343 hl (by decide) rfl (fun ls hl => ?_)
            refine lv_aload_n E.1 E.2.1 dL_isAct_345 rfl (lv_at hl 3 rfl) ?_
            refine lv_iload E.1 E.2.1 dL_isAct_346 (lv_at hl 1 rfl) ?_
            refine callVIp E (c_X3_rise_ok l G b ad v pd rv Ns nx u hx0 hnx hu0 hu6 wh (by omega) hF hf) ES.eb (fun _ _ _ => trivial) mn_12_21 YX3_rise ⟨rfl, rfl⟩ ⟨Nat.le_of_ble_eq_true rfl, Nat.le_of_ble_eq_true rfl⟩ ⟨Nat.le_of_ble_eq_true rfl, Nat.le_of_ble_eq_true rfl⟩ hw (rr := []) (big' := cW G b ad (recV nx u v) pd rv (va_up (va_up (Ns) (2 + nx) (Ns 0)) 0 (nRis wh (Ns 0)))) (by rw [List.append_nil]) (by rw [List.append_nil]) 0 rfl rfl rfl hl rfl (Nat.le_of_ble_eq_true rfl) dL_isAct_348 (fun H locs hw => ?_)
            refine lv_eqi (y := nI (illN (mRise wh (Ns 0)))) (by rw [rRis, if_pos hq]) ?_
            obtain ⟨Ms, vs, e0, hcv2, hw⟩ : ∃ (Ms : Nat → NS) (vs : Nat → Int32), Ms 0 = nRis wh (Ns 0) ∧ CV vs ∧ HB G AA sS.heap (cW G b ad vs pd rv Ms) H locs := ⟨_, _, va_up_self _ _ _, CV.rec hnx hu6, hw⟩
            have hO2 : okN (T + 1) (Ms 0) := by rw [e0]; exact ac_rise hO (by omega)
            have hI2 := hO2.1
            have hDV2 : dvI (Ms 0) 5 = Ms 0 7 := hO2.2.1
            have hF2 := hI2.1
            have hm2 := hI2.hm
            have hil : illN (mRise wh (Ns 0)) ≤ 5 := illI_le (hI.rise (w := wh) (by omega)).1 5 (Nat.le_refl 5)
            have ew : Ms 0 (10 + wh) = 0 := by rw [e0, nRis, if_pos hq]; exact un_s
            refine lv_if_geN (tgt := 358) E.1 E.2.1 (by omega) dL_isAct_351 (by decide) (fun c351 => ?_) (fun c351 => ?_)
            · skip
              refine lv_iconst (v := nI 0) E.1 E.2.1 dL_isAct_358 (by decide) ?_
              refine lv_iload E.1 E.2.1 dL_isAct_359 (lv_at hl 0 rfl) ?_
              refine lv_if_neN (tgt := 368) E.1 E.2.1 (by omega) dL_isAct_361 (by decide) (fun c361 => ?_) (fun c361 => ?_)
              · skip
                refine lv_iconst (v := nI 0) E.1 E.2.1 dL_isAct_368 (by decide) ?_
                refine lv_icmp_neN (tgt := 386) E.1 E.2.1 (by omega) (by omega) dL_isAct_369 (by decide) (fun c369 => ?_) (fun c369 => ?_)
                · exact absurd c369 (by decide)
                · skip
                  refine lv_aload_n E.1 E.2.1 dL_isAct_372 rfl (lv_at hl 3 rfl) ?_
                  refine lv_iload E.1 E.2.1 dL_isAct_373 (lv_at hl 1 rfl) ?_
                  refine lv_iconst (v := nI 0) E.1 E.2.1 dL_isAct_375 (by decide) ?_
                  refine callVIp E (c_X3_who_ok l G b ad vs pd rv Ms wh 0 (by omega) (by decide) hF2 hm2) ES.eb (fun _ _ _ => trivial) mn_6_14 YX3_who ⟨rfl, rfl⟩ ⟨Nat.le_of_ble_eq_true rfl, Nat.le_of_ble_eq_true rfl⟩ ⟨Nat.le_of_ble_eq_true rfl, Nat.le_of_ble_eq_true rfl⟩ hw (rr := []) (big' := cW G b ad vs pd rv Ms) (by rw [List.append_nil]) (by rw [List.append_nil]) 0 rfl rfl rfl hl rfl (Nat.le_of_ble_eq_true rfl) dL_isAct_376 (fun H locs hw => ?_)
                  refine lv_eqi (y := nI (Ms 0 (10 + wh))) (rfl) ?_
                  refine lv_if_neN (tgt := 386) E.1 E.2.1 (by omega) dL_isAct_379 (by decide) (fun c379 => ?_) (fun c379 => ?_)
                  · exact absurd ew c379
                  · skip
                    refine lv_iconst (v := nI 1) E.1 E.2.1 dL_isAct_382 (by decide) ?_
                    refine lv_goto (tgt := 387) E.1 E.2.1 dL_isAct_383 (by decide) ?_
                    refine W.widen (k := 3) (n := 24) (Nat.le_of_ble_eq_true rfl) (Nat.le_of_ble_eq_true rfl) ?_
                    exact rU E hr hlk (vs, Ms) (⟨hcv2, hO2⟩) (HB.eq hw (rfl)) dL_isAct_387
              · exact absurd c361 (by decide)
            · omega
        · skip
          have hf : rRis wh (Ns 0) < 0 := by rw [rRis, if_neg hq]; decide
          refine lv_aload_n E.1 E.2.1 dL_isAct_327 rfl (lv_at hl 2 rfl) ?_
          refine lv_iload E.1 E.2.1 dL_isAct_328 (lv_at hl 0 rfl) ?_
          refine lv_iconst (v := nI 0) E.1 E.2.1 dL_isAct_330 (by decide) ?_
          have iw := hF.il (w := wh) (by omega)
          refine callVIp E (c_X3_who_ok l G b ad v pd rv Ns wh 0 (by omega) (by decide) hF hm) ES.eb (fun _ _ _ => trivial) mn_6_14 YX3_who ⟨rfl, rfl⟩ ⟨Nat.le_of_ble_eq_true rfl, Nat.le_of_ble_eq_true rfl⟩ ⟨Nat.le_of_ble_eq_true rfl, Nat.le_of_ble_eq_true rfl⟩ hw (rr := []) (big' := cW G b ad v pd rv Ns) (by rw [List.append_nil]) (by rw [List.append_nil]) 0 rfl rfl rfl hl rfl (Nat.le_of_ble_eq_true rfl) dL_isAct_331 (fun H locs hw => ?_)
          refine lv_eqi (y := nI (Ns 0 (10 + wh))) (rfl) ?_
          refine lv_iconst (v := nI 1) E.1 E.2.1 dL_isAct_334 (by decide) ?_
          refine lv_icmp_neN (tgt := 342) E.1 E.2.1 (by omega) (by omega) dL_isAct_335 (by decide) (fun c335 => ?_) (fun c335 => ?_)
          · skip
            refine lv_iconst (v := nI 0) E.1 E.2.1 dL_isAct_342 (by decide) ?_
            refine lv_istore (lv' := [(10, .int (nI (0))), (9, .int (nI (wh))), (4, .int (nI (pl))), (0, .ref (b 0)), (1, .ref (sb)), (2, .int (nI (aa))), (3, .int (nI (Ns 0 6)))]) E.1 E.2.1 dL_isAct_343 hl (by decide) rfl (fun ls hl => ?_)
            refine lv_aload_n E.1 E.2.1 dL_isAct_345 rfl (lv_at hl 3 rfl) ?_
            refine lv_iload E.1 E.2.1 dL_isAct_346 (lv_at hl 1 rfl) ?_
            refine callVIp E (c_X3_rise_no l G b ad v pd rv Ns nx u hx0 hnx hu0 hu6 wh (by omega) hF hf) ES.eb (fun _ _ _ => trivial) mn_12_21 YX3_rise ⟨rfl, rfl⟩ ⟨Nat.le_of_ble_eq_true rfl, Nat.le_of_ble_eq_true rfl⟩ ⟨Nat.le_of_ble_eq_true rfl, Nat.le_of_ble_eq_true rfl⟩ hw (rr := []) (big' := cW G b ad v pd rv (va_up (va_up (Ns) (2 + nx) (Ns 0)) 0 (nRis wh (Ns 0)))) (by rw [List.append_nil]) (by rw [List.append_nil]) 0 rfl rfl rfl hl rfl (Nat.le_of_ble_eq_true rfl) dL_isAct_348 (fun H locs hw => ?_)
            refine lv_eqi (y := -5) (by rw [rRis, if_neg hq]) ?_
            obtain ⟨Ms, vs, e0, hcv2, hw⟩ : ∃ (Ms : Nat → NS) (vs : Nat → Int32), Ms 0 = nRis wh (Ns 0) ∧ CV vs ∧ HB G AA sS.heap (cW G b ad vs pd rv Ms) H locs := ⟨_, _, va_up_self _ _ _, hcv, hw⟩
            have hO2 : okN (T + 1) (Ms 0) := by rw [e0]; exact ac_rise hO (by omega)
            have hI2 := hO2.1
            have hDV2 : dvI (Ms 0) 5 = Ms 0 7 := hO2.2.1
            have hF2 := hI2.1
            have hm2 := hI2.hm
            have ew : Ms 0 (10 + wh) = 0 := by rw [e0, nRis, if_neg hq]; omega
            refine lv_if_ge (tgt := 358) E.1 E.2.1 dL_isAct_351 (by decide) (fun c351 => ?_) (fun c351 => ?_)
            · exact absurd c351 (by decide)
            · skip
              refine lv_iconst (v := nI 1) E.1 E.2.1 dL_isAct_354 (by decide) ?_
              refine lv_goto (tgt := 359) E.1 E.2.1 dL_isAct_355 (by decide) ?_
              refine lv_iload E.1 E.2.1 dL_isAct_359 (lv_at hl 0 rfl) ?_
              refine lv_if_neN (tgt := 368) E.1 E.2.1 (by omega) dL_isAct_361 (by decide) (fun c361 => ?_) (fun c361 => ?_)
              · exact absurd c361 (by decide)
              · skip
                refine lv_iconst (v := nI 1) E.1 E.2.1 dL_isAct_364 (by decide) ?_
                refine lv_goto (tgt := 369) E.1 E.2.1 dL_isAct_365 (by decide) ?_
                refine lv_icmp_neN (tgt := 386) E.1 E.2.1 (by omega) (by omega) dL_isAct_369 (by decide) (fun c369 => ?_) (fun c369 => ?_)
                · exact absurd c369 (by decide)
                · skip
                  refine lv_aload_n E.1 E.2.1 dL_isAct_372 rfl (lv_at hl 3 rfl) ?_
                  refine lv_iload E.1 E.2.1 dL_isAct_373 (lv_at hl 1 rfl) ?_
                  refine lv_iconst (v := nI 0) E.1 E.2.1 dL_isAct_375 (by decide) ?_
                  refine callVIp E (c_X3_who_ok l G b ad vs pd rv Ms wh 0 (by omega) (by decide) hF2 hm2) ES.eb (fun _ _ _ => trivial) mn_6_14 YX3_who ⟨rfl, rfl⟩ ⟨Nat.le_of_ble_eq_true rfl, Nat.le_of_ble_eq_true rfl⟩ ⟨Nat.le_of_ble_eq_true rfl, Nat.le_of_ble_eq_true rfl⟩ hw (rr := []) (big' := cW G b ad vs pd rv Ms) (by rw [List.append_nil]) (by rw [List.append_nil]) 0 rfl rfl rfl hl rfl (Nat.le_of_ble_eq_true rfl) dL_isAct_376 (fun H locs hw => ?_)
                  refine lv_eqi (y := nI (Ms 0 (10 + wh))) (rfl) ?_
                  refine lv_if_neN (tgt := 386) E.1 E.2.1 (by omega) dL_isAct_379 (by decide) (fun c379 => ?_) (fun c379 => ?_)
                  · exact absurd ew c379
                  · skip
                    refine lv_iconst (v := nI 1) E.1 E.2.1 dL_isAct_382 (by decide) ?_
                    refine lv_goto (tgt := 387) E.1 E.2.1 dL_isAct_383 (by decide) ?_
                    refine W.widen (k := 3) (n := 24) (Nat.le_of_ble_eq_true rfl) (Nat.le_of_ble_eq_true rfl) ?_
                    exact rU E hr hlk (vs, Ms) (⟨hcv2, hO2⟩) (HB.eq hw (rfl)) dL_isAct_387
          · exact absurd c335 hq
      by_cases z50_9 : sw = 9
      · refine lv_eqi (y := nI 9) (by rw [z50_9]) ?_
        refine lv_tableIn (tgt := 388) E.1 E.2.1 dL_isAct_50 (by decide) (by decide) rfl (by decide) ?_
        refine lv_aload_n E.1 E.2.1 dL_isAct_388 rfl (lv_at hl 2 rfl) ?_
        refine lv_iload_n E.1 E.2.1 dL_isAct_389 rfl (lv_at hl 3 rfl) ?_
        refine lv_iconst (v := nI 1) E.1 E.2.1 dL_isAct_390 (by decide) ?_
        refine lv_addN E.1 E.2.1 dL_isAct_391 ?_
        refine lv_iconst (v := nI 4) E.1 E.2.1 dL_isAct_392 (by decide) ?_
        refine callSX E (c_L_cell l G sb L xs hL (aa + 1) 4 (by omega) (by omega) (by omega)) XSc.eb (XSc.to hE.1.2 hsA hw) mn_3_0 YL_cell ⟨rfl, rfl⟩ ⟨Nat.le_of_ble_eq_true rfl, Nat.le_of_ble_eq_true rfl⟩ ⟨Nat.le_of_ble_eq_true rfl, Nat.le_of_ble_eq_true rfl⟩ hw (w := []) (w' := []) (rr := cW G b ad v pd rv Ns) (big' := cW G b ad v pd rv Ns) (List.Perm.refl _) (List.Perm.refl _) rfl hl rfl (Nat.le_of_ble_eq_true rfl) dL_isAct_393 (fun H locs hw => ?_)
        obtain ⟨ck, h_ck, e_ck⟩ : ∃ q, q < 4 ∧ cellR L xs (aa + 1) 4 = q := ⟨_, cellR_lt (by omega), rfl⟩
        refine lv_eqi (y := nI ck) (congrArg nI e_ck) ?_
        refine lv_istore (lv' := [(11, .int (nI (ck))), (4, .int (nI (pl))), (0, .ref (b 0)), (1, .ref (sb)), (2, .int (nI (aa))), (3, .int (nI (Ns 0 6)))]) E.1 E.2.1 dL_isAct_396 hl (by decide) rfl (fun ls hl => ?_)
        refine lv_aload_n E.1 E.2.1 dL_isAct_398 rfl (lv_at hl 3 rfl) ?_
        refine lv_iload_n E.1 E.2.1 dL_isAct_399 rfl (lv_at hl 4 rfl) ?_
        refine lv_iconst (v := nI 2) E.1 E.2.1 dL_isAct_400 (by decide) ?_
        refine lv_addN E.1 E.2.1 dL_isAct_401 ?_
        refine lv_iconst (v := nI 3) E.1 E.2.1 dL_isAct_402 (by decide) ?_
        refine callSX E (c_L_cell l G sb L xs hL (aa + 2) 3 (by omega) (by omega) (by omega)) XSc.eb (XSc.to hE.1.2 hsA hw) mn_3_0 YL_cell ⟨rfl, rfl⟩ ⟨Nat.le_of_ble_eq_true rfl, Nat.le_of_ble_eq_true rfl⟩ ⟨Nat.le_of_ble_eq_true rfl, Nat.le_of_ble_eq_true rfl⟩ hw (w := []) (w' := []) (rr := cW G b ad v pd rv Ns) (big' := cW G b ad v pd rv Ns) (List.Perm.refl _) (List.Perm.refl _) rfl hl rfl (Nat.le_of_ble_eq_true rfl) dL_isAct_403 (fun H locs hw => ?_)
        obtain ⟨c9, h_c9, e_c9⟩ : ∃ q, q < 3 ∧ cellR L xs (aa + 2) 3 = q := ⟨_, cellR_lt (by omega), rfl⟩
        refine lv_eqi (y := nI c9) (congrArg nI e_c9) ?_
        refine W_join1 (G := G) (A := AA) (H0 := sS.heap) (nL := 17) 414 (fun (ws : Nat) => ws ≤ 1) (fun (ws : Nat) => cW G b ad v pd rv Ns) (fun (ws : Nat) => [(11, .int (nI (ck))), (4, .int (nI (pl))), (0, .ref (b 0)), (1, .ref (sb)), (2, .int (nI (aa))), (3, .int (nI (Ns 0 6)))]) (fun (ws : Nat) => [.int (nI (ws))]) (fun jk406 => ?_) ?_
        · skip
          refine lv_if_neN (tgt := 413) E.1 E.2.1 (by omega) dL_isAct_406 (by decide) (fun c406 => ?_) (fun c406 => ?_)
          · skip
            refine lv_iconst (v := nI 1) E.1 E.2.1 dL_isAct_413 (by decide) ?_
            exact jk406 (1) (by decide) _ _ _ (HB.eq hw (rfl)) (lvh_eq (l := [(11, .int (nI (ck))), (4, .int (nI (pl))), (0, .ref (b 0)), (1, .ref (sb)), (2, .int (nI (aa))), (3, .int (nI (Ns 0 6)))]) (lv_sub hl [0, 1, 2, 3, 4, 5] rfl) (rfl))
          · skip
            refine lv_iconst (v := nI 0) E.1 E.2.1 dL_isAct_409 (by decide) ?_
            refine lv_goto (tgt := 414) E.1 E.2.1 dL_isAct_410 (by decide) ?_
            exact jk406 (0) (by decide) _ _ _ (HB.eq hw (rfl)) (lvh_eq (l := [(11, .int (nI (ck))), (4, .int (nI (pl))), (0, .ref (b 0)), (1, .ref (sb)), (2, .int (nI (aa))), (3, .int (nI (Ns 0 6)))]) (lv_sub hl [0, 1, 2, 3, 4, 5] rfl) (rfl))
        · intro ws hP406 H locs ls hw hl
          replace hw : HB G AA sS.heap (cW G b ad v pd rv Ns) H locs := hw
          replace hl : lv_has ls 17 [(11, .int (nI (ck))), (4, .int (nI (pl))), (0, .ref (b 0)), (1, .ref (sb)), (2, .int (nI (aa))), (3, .int (nI (Ns 0 6)))] := hl
          show W _ _ _ _ _ _ _ _ _ _ _ _ _ _ _ (F0 mM 414 ls [.int (nI (ws))])
          refine lv_istore (lv' := [(12, .int (nI (ws))), (11, .int (nI (ck))), (4, .int (nI (pl))), (0, .ref (b 0)), (1, .ref (sb)), (2, .int (nI (aa))), (3, .int (nI (Ns 0 6)))]) E.1 E.2.1 dL_isAct_414 hl (by decide) rfl (fun ls hl => ?_)
          refine lv_aload_n E.1 E.2.1 dL_isAct_416 rfl (lv_at hl 3 rfl) ?_
          refine lv_iload E.1 E.2.1 dL_isAct_417 (lv_at hl 1 rfl) ?_
          refine lv_iconst (v := nI 1) E.1 E.2.1 dL_isAct_419 (by decide) ?_
          have wt := hF.wl (w := ck) (by omega)
          refine callVIp E (c_X3_who_ok l G b ad v pd rv Ns ck 1 (by omega) (by decide) hF hm) ES.eb (fun _ _ _ => trivial) mn_6_14 YX3_who ⟨rfl, rfl⟩ ⟨Nat.le_of_ble_eq_true rfl, Nat.le_of_ble_eq_true rfl⟩ ⟨Nat.le_of_ble_eq_true rfl, Nat.le_of_ble_eq_true rfl⟩ hw (rr := []) (big' := cW G b ad v pd rv Ns) (by rw [List.append_nil]) (by rw [List.append_nil]) 0 rfl rfl rfl hl rfl (Nat.le_of_ble_eq_true rfl) dL_isAct_420 (fun H locs hw => ?_)
          refine lv_eqi (y := nI (Ns 0 (15 + ck))) (by show nI (if ck = 4 then 1 else Ns 0 (15 + ck)) = _; rw [if_neg (by omega)]) ?_
          refine lv_istore (lv' := [(13, .int (nI (Ns 0 (15 + ck)))), (12, .int (nI (ws))), (11, .int (nI (ck))), (4, .int (nI (pl))), (0, .ref (b 0)), (1, .ref (sb)), (2, .int (nI (aa))), (3, .int (nI (Ns 0 6)))]) E.1 E.2.1 dL_isAct_423 hl (by decide) rfl (fun ls hl => ?_)
          refine lv_aload_n E.1 E.2.1 dL_isAct_425 rfl (lv_at hl 4 rfl) ?_
          refine lv_iload E.1 E.2.1 dL_isAct_426 (lv_at hl 2 rfl) ?_
          refine lv_iload E.1 E.2.1 dL_isAct_428 (lv_at hl 1 rfl) ?_
          refine callVIp E (c_X3_willing_ok l G b ad v pd rv Ns nx u hx0 hnx hu0 hu6 ck ws (by omega) hP406 hF) ES.eb (fun _ _ _ => trivial) mn_13_5 YX3_willing ⟨rfl, rfl⟩ ⟨Nat.le_of_ble_eq_true rfl, Nat.le_of_ble_eq_true rfl⟩ ⟨Nat.le_of_ble_eq_true rfl, Nat.le_of_ble_eq_true rfl⟩ hw (rr := []) (big' := cW G b ad (recV nx u v) pd rv (va_up (va_up (Ns) (2 + nx) (Ns 0)) 0 (un (Ns 0) (15 + ck) ws))) (by rw [List.append_nil]) (by rw [List.append_nil]) 0 rfl rfl rfl hl rfl (Nat.le_of_ble_eq_true rfl) dL_isAct_430 (fun H locs hw => ?_)
          obtain ⟨Ms, vs, e0, hcv2, hw⟩ : ∃ (Ms : Nat → NS) (vs : Nat → Int32), Ms 0 = un (Ns 0) (15 + ck) ws ∧ CV vs ∧ HB G AA sS.heap (cW G b ad vs pd rv Ms) H locs := ⟨_, _, va_up_self _ _ _, CV.rec hnx hu6, hw⟩
          have hO2 : okN (T + 1) (Ms 0) := by rw [e0]; exact ac_will hO (by omega) hP406
          have hI2 := hO2.1
          have hDV2 : dvI (Ms 0) 5 = Ms 0 7 := hO2.2.1
          have hF2 := hI2.1
          have hm2 := hI2.hm
          have ew : Ms 0 (15 + ck) = ws := by rw [e0]; exact un_s
          refine lv_iload E.1 E.2.1 dL_isAct_433 (lv_at hl 0 rfl) ?_
          refine lv_icmp_neN (tgt := 454) E.1 E.2.1 (by omega) (by omega) dL_isAct_435 (by decide) (fun c435 => ?_) (fun c435 => ?_)
          · exact absurd rfl c435
          · skip
            refine lv_aload_n E.1 E.2.1 dL_isAct_438 rfl (lv_at hl 4 rfl) ?_
            refine lv_iload E.1 E.2.1 dL_isAct_439 (lv_at hl 2 rfl) ?_
            refine lv_iconst (v := nI 1) E.1 E.2.1 dL_isAct_441 (by decide) ?_
            refine callVIp E (c_X3_who_ok l G b ad vs pd rv Ms ck 1 (by omega) (by decide) hF2 hm2) ES.eb (fun _ _ _ => trivial) mn_6_14 YX3_who ⟨rfl, rfl⟩ ⟨Nat.le_of_ble_eq_true rfl, Nat.le_of_ble_eq_true rfl⟩ ⟨Nat.le_of_ble_eq_true rfl, Nat.le_of_ble_eq_true rfl⟩ hw (rr := []) (big' := cW G b ad vs pd rv Ms) (by rw [List.append_nil]) (by rw [List.append_nil]) 0 rfl rfl rfl hl rfl (Nat.le_of_ble_eq_true rfl) dL_isAct_442 (fun H locs hw => ?_)
            refine lv_eqi (y := nI (ws)) (by show nI (if ck = 4 then 1 else Ms 0 (15 + ck)) = _; rw [if_neg (by omega), ew]) ?_
            refine lv_iload E.1 E.2.1 dL_isAct_445 (lv_at hl 1 rfl) ?_
            refine lv_icmp_neN (tgt := 454) E.1 E.2.1 (by omega) (by omega) dL_isAct_447 (by decide) (fun c447 => ?_) (fun c447 => ?_)
            · exact absurd rfl c447
            · skip
              refine lv_iconst (v := nI 1) E.1 E.2.1 dL_isAct_450 (by decide) ?_
              refine lv_goto (tgt := 455) E.1 E.2.1 dL_isAct_451 (by decide) ?_
              refine W.widen (k := 3) (n := 24) (Nat.le_of_ble_eq_true rfl) (Nat.le_of_ble_eq_true rfl) ?_
              exact rU E hr hlk (vs, Ms) (⟨hcv2, hO2⟩) (HB.eq hw (rfl)) dL_isAct_455
      by_cases z50_10 : sw = 10
      · refine lv_eqi (y := nI 10) (by rw [z50_10]) ?_
        refine lv_tableIn (tgt := 456) E.1 E.2.1 dL_isAct_50 (by decide) (by decide) rfl (by decide) ?_
        refine lv_aload_n E.1 E.2.1 dL_isAct_456 rfl (lv_at hl 2 rfl) ?_
        refine lv_iload_n E.1 E.2.1 dL_isAct_457 rfl (lv_at hl 3 rfl) ?_
        refine lv_iconst (v := nI 1) E.1 E.2.1 dL_isAct_458 (by decide) ?_
        refine lv_addN E.1 E.2.1 dL_isAct_459 ?_
        refine lv_iconst (v := nI 4) E.1 E.2.1 dL_isAct_460 (by decide) ?_
        refine callSX E (c_L_cell l G sb L xs hL (aa + 1) 4 (by omega) (by omega) (by omega)) XSc.eb (XSc.to hE.1.2 hsA hw) mn_3_0 YL_cell ⟨rfl, rfl⟩ ⟨Nat.le_of_ble_eq_true rfl, Nat.le_of_ble_eq_true rfl⟩ ⟨Nat.le_of_ble_eq_true rfl, Nat.le_of_ble_eq_true rfl⟩ hw (w := []) (w' := []) (rr := cW G b ad v pd rv Ns) (big' := cW G b ad v pd rv Ns) (List.Perm.refl _) (List.Perm.refl _) rfl hl rfl (Nat.le_of_ble_eq_true rfl) dL_isAct_461 (fun H locs hw => ?_)
        obtain ⟨se, h_se, e_se⟩ : ∃ q, q < 4 ∧ cellR L xs (aa + 1) 4 = q := ⟨_, cellR_lt (by omega), rfl⟩
        refine lv_eqi (y := nI se) (congrArg nI e_se) ?_
        refine lv_istore (lv' := [(14, .int (nI (se))), (4, .int (nI (pl))), (0, .ref (b 0)), (1, .ref (sb)), (2, .int (nI (aa))), (3, .int (nI (Ns 0 6)))]) E.1 E.2.1 dL_isAct_464 hl (by decide) rfl (fun ls hl => ?_)
        refine W_join1 (G := G) (A := AA) (H0 := sS.heap) (nL := 17) 494 (fun (tv : Nat) => (se = 3 → tv ≤ 1) ∧ (¬ se = 3 → 1 ≤ tv ∧ tv ≤ 50)) (fun (tv : Nat) => cW G b ad v pd rv Ns) (fun (tv : Nat) => [(14, .int (nI (se))), (4, .int (nI (pl))), (0, .ref (b 0)), (1, .ref (sb)), (2, .int (nI (aa))), (3, .int (nI (Ns 0 6)))]) (fun (tv : Nat) => [.int (nI (tv))]) (fun jk466 => ?_) ?_
        · skip
          refine lv_iload E.1 E.2.1 dL_isAct_466 (lv_at hl 0 rfl) ?_
          refine lv_iconst (v := nI 3) E.1 E.2.1 dL_isAct_468 (by decide) ?_
          refine lv_icmp_neN (tgt := 483) E.1 E.2.1 (by omega) (by omega) dL_isAct_469 (by decide) (fun c469 => ?_) (fun c469 => ?_)
          · skip
            refine lv_iconst (v := nI 1) E.1 E.2.1 dL_isAct_483 (by decide) ?_
            refine lv_aload_n E.1 E.2.1 dL_isAct_484 rfl (lv_at hl 3 rfl) ?_
            refine lv_iload_n E.1 E.2.1 dL_isAct_485 rfl (lv_at hl 4 rfl) ?_
            refine lv_iconst (v := nI 2) E.1 E.2.1 dL_isAct_486 (by decide) ?_
            refine lv_addN E.1 E.2.1 dL_isAct_487 ?_
            refine lv_bipush (v := nI 6) E.1 E.2.1 dL_isAct_488 (by decide) ?_
            refine callSX E (c_L_cell l G sb L xs hL (aa + 2) 6 (by omega) (by omega) (by omega)) XSc.eb (XSc.to hE.1.2 hsA hw) mn_3_0 YL_cell ⟨rfl, rfl⟩ ⟨Nat.le_of_ble_eq_true rfl, Nat.le_of_ble_eq_true rfl⟩ ⟨Nat.le_of_ble_eq_true rfl, Nat.le_of_ble_eq_true rfl⟩ hw (w := []) (w' := []) (rr := cW G b ad v pd rv Ns) (big' := cW G b ad v pd rv Ns) (List.Perm.refl _) (List.Perm.refl _) rfl hl rfl (Nat.le_of_ble_eq_true rfl) dL_isAct_490 (fun H locs hw => ?_)
            obtain ⟨t6, h_t6, e_t6⟩ : ∃ q, q < 6 ∧ cellR L xs (aa + 2) 6 = q := ⟨_, cellR_lt (by omega), rfl⟩
            refine lv_eqi (y := nI t6) (congrArg nI e_t6) ?_
            refine lv_addN E.1 E.2.1 dL_isAct_493 ?_
            exact jk466 (1 + t6) (⟨fun z => absurd z c469, fun _ => ⟨by omega, by omega⟩⟩) _ _ _ (HB.eq hw (rfl)) (lvh_eq (l := [(14, .int (nI (se))), (4, .int (nI (pl))), (0, .ref (b 0)), (1, .ref (sb)), (2, .int (nI (aa))), (3, .int (nI (Ns 0 6)))]) (lv_sub hl [0, 1, 2, 3, 4, 5] rfl) (rfl))
          · skip
            refine lv_aload_n E.1 E.2.1 dL_isAct_472 rfl (lv_at hl 3 rfl) ?_
            refine lv_iload_n E.1 E.2.1 dL_isAct_473 rfl (lv_at hl 4 rfl) ?_
            refine lv_iconst (v := nI 2) E.1 E.2.1 dL_isAct_474 (by decide) ?_
            refine lv_addN E.1 E.2.1 dL_isAct_475 ?_
            refine lv_iconst (v := nI 2) E.1 E.2.1 dL_isAct_476 (by decide) ?_
            refine callSX E (c_L_cell l G sb L xs hL (aa + 2) 2 (by omega) (by omega) (by omega)) XSc.eb (XSc.to hE.1.2 hsA hw) mn_3_0 YL_cell ⟨rfl, rfl⟩ ⟨Nat.le_of_ble_eq_true rfl, Nat.le_of_ble_eq_true rfl⟩ ⟨Nat.le_of_ble_eq_true rfl, Nat.le_of_ble_eq_true rfl⟩ hw (w := []) (w' := []) (rr := cW G b ad v pd rv Ns) (big' := cW G b ad v pd rv Ns) (List.Perm.refl _) (List.Perm.refl _) rfl hl rfl (Nat.le_of_ble_eq_true rfl) dL_isAct_477 (fun H locs hw => ?_)
            obtain ⟨t2, h_t2, e_t2⟩ : ∃ q, q < 2 ∧ cellR L xs (aa + 2) 2 = q := ⟨_, cellR_lt (by omega), rfl⟩
            refine lv_eqi (y := nI t2) (congrArg nI e_t2) ?_
            refine lv_goto (tgt := 494) E.1 E.2.1 dL_isAct_480 (by decide) ?_
            exact jk466 (t2) (⟨fun _ => by omega, fun z => absurd c469 z⟩) _ _ _ (HB.eq hw (rfl)) (lvh_eq (l := [(14, .int (nI (se))), (4, .int (nI (pl))), (0, .ref (b 0)), (1, .ref (sb)), (2, .int (nI (aa))), (3, .int (nI (Ns 0 6)))]) (lv_sub hl [0, 1, 2, 3, 4, 5] rfl) (rfl))
        · intro tv hP466 H locs ls hw hl
          replace hw : HB G AA sS.heap (cW G b ad v pd rv Ns) H locs := hw
          replace hl : lv_has ls 17 [(14, .int (nI (se))), (4, .int (nI (pl))), (0, .ref (b 0)), (1, .ref (sb)), (2, .int (nI (aa))), (3, .int (nI (Ns 0 6)))] := hl
          show W _ _ _ _ _ _ _ _ _ _ _ _ _ _ _ (F0 mM 494 ls [.int (nI (tv))])
          refine lv_istore (lv' := [(15, .int (nI (tv))), (14, .int (nI (se))), (4, .int (nI (pl))), (0, .ref (b 0)), (1, .ref (sb)), (2, .int (nI (aa))), (3, .int (nI (Ns 0 6)))]) E.1 E.2.1 dL_isAct_494 hl (by decide) rfl (fun ls hl => ?_)
          refine lv_aload_n E.1 E.2.1 dL_isAct_496 rfl (lv_at hl 3 rfl) ?_
          refine lv_bipush (v := nI 7) E.1 E.2.1 dL_isAct_497 (by decide) ?_
          refine lv_iload E.1 E.2.1 dL_isAct_499 (lv_at hl 1 rfl) ?_
          refine lv_addN E.1 E.2.1 dL_isAct_501 ?_
          refine callVIp E (c_X3_count_ok l G b ad v pd rv Ns (7 + se) (by omega) (by omega) (by omega) hF hDV) ES.eb (fun _ _ _ => trivial) mn_3_8 YX3_count ⟨rfl, rfl⟩ ⟨Nat.le_of_ble_eq_true rfl, Nat.le_of_ble_eq_true rfl⟩ ⟨Nat.le_of_ble_eq_true rfl, Nat.le_of_ble_eq_true rfl⟩ hw (rr := []) (big' := cW G b ad v pd rv Ns) (by rw [List.append_nil]) (by rw [List.append_nil]) 0 rfl rfl rfl hl rfl (Nat.le_of_ble_eq_true rfl) dL_isAct_502 (fun H locs hw => ?_)
          refine lv_eqi (y := nI (Ns 0 se)) (by rw [if_neg (by omega), if_pos (by omega), Nat.add_sub_cancel_left]) ?_
          refine lv_istore (lv' := [(16, .int (nI (Ns 0 se))), (15, .int (nI (tv))), (14, .int (nI (se))), (4, .int (nI (pl))), (0, .ref (b 0)), (1, .ref (sb)), (2, .int (nI (aa))), (3, .int (nI (Ns 0 6)))]) E.1 E.2.1 dL_isAct_505 hl (by decide) rfl (fun ls hl => ?_)
          refine lv_aload_n E.1 E.2.1 dL_isAct_507 rfl (lv_at hl 4 rfl) ?_
          refine lv_iload E.1 E.2.1 dL_isAct_508 (lv_at hl 2 rfl) ?_
          refine lv_iload E.1 E.2.1 dL_isAct_510 (lv_at hl 1 rfl) ?_
          refine callVIp E (c_X3_set_ok l G b ad v pd rv Ns nx u hx0 hnx hu0 hu6 se tv (by omega) hP466.1 hP466.2 hF) XS.eb (XS.to hE.1.1 hE.2 hw (by rw [List.append_nil])) mn_13_13 YX3_set ⟨rfl, rfl⟩ ⟨Nat.le_of_ble_eq_true rfl, Nat.le_of_ble_eq_true rfl⟩ ⟨Nat.le_of_ble_eq_true rfl, Nat.le_of_ble_eq_true rfl⟩ hw (rr := []) (big' := cW G b ad (recV nx u v) pd rv (va_up (va_up (Ns) (2 + nx) (Ns 0)) 0 (un (Ns 0) se tv))) (by rw [List.append_nil]) (by rw [List.append_nil]) 0 rfl rfl rfl hl rfl (Nat.le_of_ble_eq_true rfl) dL_isAct_512 (fun H locs hw => ?_)
          obtain ⟨Ms, vs, e0, hcv2, hw⟩ : ∃ (Ms : Nat → NS) (vs : Nat → Int32), Ms 0 = un (Ns 0) se tv ∧ CV vs ∧ HB G AA sS.heap (cW G b ad vs pd rv Ms) H locs := ⟨_, _, va_up_self _ _ _, CV.rec hnx hu6, hw⟩
          have hO2 : okN (T + 1) (Ms 0) := by rw [e0]; exact ac_set hO (by omega) hP466.1 hP466.2
          have hI2 := hO2.1
          have hDV2 : dvI (Ms 0) 5 = Ms 0 7 := hO2.2.1
          have hF2 := hI2.1
          have hm2 := hI2.hm
          have ew : Ms 0 se = tv := by rw [e0]; exact un_s
          refine lv_iload E.1 E.2.1 dL_isAct_515 (lv_at hl 0 rfl) ?_
          refine lv_icmp_ne (tgt := 538) E.1 E.2.1 dL_isAct_517 (by decide) (fun c517 => ?_) (fun c517 => ?_)
          · exact absurd rfl c517
          · skip
            refine lv_aload_n E.1 E.2.1 dL_isAct_520 rfl (lv_at hl 4 rfl) ?_
            refine lv_bipush (v := nI 7) E.1 E.2.1 dL_isAct_521 (by decide) ?_
            refine lv_iload E.1 E.2.1 dL_isAct_523 (lv_at hl 2 rfl) ?_
            refine lv_addN E.1 E.2.1 dL_isAct_525 ?_
            refine callVIp E (c_X3_count_ok l G b ad vs pd rv Ms (7 + se) (by omega) (by omega) (by omega) hF2 hDV2) ES.eb (fun _ _ _ => trivial) mn_3_8 YX3_count ⟨rfl, rfl⟩ ⟨Nat.le_of_ble_eq_true rfl, Nat.le_of_ble_eq_true rfl⟩ ⟨Nat.le_of_ble_eq_true rfl, Nat.le_of_ble_eq_true rfl⟩ hw (rr := []) (big' := cW G b ad vs pd rv Ms) (by rw [List.append_nil]) (by rw [List.append_nil]) 0 rfl rfl rfl hl rfl (Nat.le_of_ble_eq_true rfl) dL_isAct_526 (fun H locs hw => ?_)
            refine lv_eqi (y := nI (tv)) (by rw [if_neg (by omega), if_pos (by omega), Nat.add_sub_cancel_left, ew]) ?_
            refine lv_iload E.1 E.2.1 dL_isAct_529 (lv_at hl 1 rfl) ?_
            refine lv_icmp_ne (tgt := 538) E.1 E.2.1 dL_isAct_531 (by decide) (fun c531 => ?_) (fun c531 => ?_)
            · exact absurd rfl c531
            · skip
              refine lv_iconst (v := nI 1) E.1 E.2.1 dL_isAct_534 (by decide) ?_
              refine lv_goto (tgt := 539) E.1 E.2.1 dL_isAct_535 (by decide) ?_
              refine W.widen (k := 3) (n := 24) (Nat.le_of_ble_eq_true rfl) (Nat.le_of_ble_eq_true rfl) ?_
              exact rU E hr hlk (vs, Ms) (⟨hcv2, hO2⟩) (HB.eq hw (rfl)) dL_isAct_539
      refine lv_tableOutN (tgt := 540) E.1 E.2.1 (by omega) dL_isAct_50 (by omega) (by decide) ?_
      refine lv_aload_n E.1 E.2.1 dL_isAct_540 rfl (lv_at hl 1 rfl) ?_
      refine lv_iload E.1 E.2.1 dL_isAct_541 (lv_at hl 0 rfl) ?_
      refine callMU E (c_L_isDelivered l G b ad v pd rv Ns hcv hI hDV hV pl hP24) ES.eb (fun _ _ _ => trivial) mn_13_21 YL_isDelivered ⟨Nat.le_of_ble_eq_true rfl, Nat.le_of_ble_eq_true rfl⟩ ⟨Nat.le_of_ble_eq_true rfl, Nat.le_of_ble_eq_true rfl⟩ hw rfl hl rfl (Nat.le_of_ble_eq_true rfl) dL_isAct_543 (fun u H locs hok hw => ?_)
      refine W.widen (k := 3) (n := 24) (Nat.le_of_ble_eq_true rfl) (Nat.le_of_ble_eq_true rfl) ?_
      exact rU E hr hlk u (⟨hok.1, by rw [hok.2]; exact ac_del hO⟩) (HB.eq hw (rfl)) dL_isAct_546

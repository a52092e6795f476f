/-- the orders ended before place i -/
def cE (C : Nat → Nat) : Nat → Nat
  | 0 => 0
  | i + 1 => if C i = 59 then cE C i + 1 else cE C i
theorem cE_mono {C : Nat → Nat} : ∀ {i j : Nat}, i ≤ j → cE C i ≤ cE C j := by
  intro i j h
  induction j with
  | zero => obtain rfl : i = 0 := by omega
            exact Nat.le_refl _
  | succ j ih =>
    rcases Nat.lt_or_ge j i with q | q
    · obtain rfl : i = j + 1 := by omega
      exact Nat.le_refl _
    · have := ih q
      rw [cE]
      split <;> omega
theorem cE_inj {C : Nat → Nat} {n i j : Nat} (hi : i = n ∨ C i = 59) (hj : j = n ∨ C j = 59) (hin : i ≤ n) (hjn : j ≤ n) (h : cE C i = cE C j) : i = j := by
  rcases Nat.lt_trichotomy i j with q | q | q
  · have h1 : C i = 59 := by rcases hi with z | z; omega; exact z
    have h2 : cE C (i + 1) ≤ cE C j := cE_mono q
    rw [cE, if_pos h1] at h2
    omega
  · exact q
  · have h1 : C j = 59 := by rcases hj with z | z; omega; exact z
    have h2 : cE C (j + 1) ≤ cE C i := cE_mono q
    rw [cE, if_pos h1] at h2
    omega
/-- the orders carried at the loop's head -/
def jJ (C : Nat → Nat) (n i : Nat) : Nat := if i ≤ n then cE C i else cE C n + 1
def oFit (o : OQ) (s : AS) : Prop := okO o ∧ s.2.1 = o.1 ∧ s.2.2.1 = nI o.2.1 ∧ (o.1 = 119 → s.2.2.2 = o.2.2)
theorem YX3_carryOutOrder : YV yX3_carryOutOrder RX3 cX3_carryOutOrder 2 (some .int) 0 := ⟨mw_30_13, mw_30_14, mw_1_2, mw_30_15, by decide +kernel⟩
set_option maxHeartbeats 4000000 in
set_option maxRecDepth 100000 in
theorem c_X3_carryOutOrder_o (l : Launch) (G : GP) (b : Nat → Nat) (ad : Nat → Nat → Nat) (v pd rv : Nat → Int32) (Ns : Nat → NS) (ov ow : Nat) (hI : Inv (Ns 0)) (h1 : rv 1 = nI 111) (h2 : rv 2 = nI ov) (hv : 1 ≤ ov ∧ ov < 16) : MI l yX3_carryOutOrder (.code yX3_carryOutOrder cX3_carryOutOrder 2 (some .int) :: GW) ({ frames := 6, cells := 0, slots := 0, locals := 130 }) [.ref (b 0)] G ES (cW G b ad (v) (pd) (rv) (Ns)) (cW G b ad (v) (pd) (rv) (va_up (Ns) 0 (nOpen ov (Ns 0)))) (rOpen (Ns 0)) := by
  refine MI.of (own := RX3) rfl rfl (Nat.le_of_ble_eq_true rfl) ?_
  intro pP eE sS mM below meth cC ls AA E hw hl hr hlk hE
  replace hl : lv_has ls 2 [(0, .ref (b 0))] := hl
  refine lv_aload_n E.1 E.2.1 dX3_carryOutOrder_0 rfl (lv_at hl 0 rfl) ?_
  refine gX3_9 E hw mw_2_1 dX3_carryOutOrder_1 ?_
  refine gC0_2 E hw mw_30_16 dX3_carryOutOrder_4 ?_
  refine lv_eqi (y := nI (ov)) (h2) ?_
  refine lv_istore_n (lv' := [(1, .int (nI (ov))), (0, .ref (b 0))]) E.1 E.2.1 dX3_carryOutOrder_7 rfl hl (by decide) rfl (fun ls hl => ?_)
  refine lv_aload_n E.1 E.2.1 dX3_carryOutOrder_8 rfl (lv_at hl 1 rfl) ?_
  refine gX3_9 E hw mw_2_1 dX3_carryOutOrder_9 ?_
  refine gC0_1 E hw mw_30_17 dX3_carryOutOrder_12 ?_
  refine lv_eqi (y := nI (111)) (h1) ?_
  refine lv_lookup (off := 57) (tgt := 72) E.1 E.2.1 dX3_carryOutOrder_15 (by decide) (by decide) (by decide) ?_
  refine lv_aload_n E.1 E.2.1 dX3_carryOutOrder_72 rfl (lv_at hl 1 rfl) ?_
  refine gX3_0 E hw mw_1_16 dX3_carryOutOrder_73 ?_
  refine lv_iload_n E.1 E.2.1 dX3_carryOutOrder_76 rfl (lv_at hl 0 rfl) ?_
  refine callVIp E (c_X2_openDeal_ok l G (ad 0) (Ns 0) ov hv hI) ES.eb (fun _ _ _ => trivial) mw_6_19 YX2_openDeal ⟨rfl, rfl⟩ ⟨Nat.le_of_ble_eq_true rfl, Nat.le_of_ble_eq_true rfl⟩ ⟨Nat.zero_le _, Nat.zero_le _⟩ hw (cW_p0 (rfl) (by omega)) (cW_p (nOpen ov (Ns 0)) (by omega)) 0 rfl rfl rfl hl rfl (Nat.le_of_ble_eq_true rfl) dX3_carryOutOrder_77 (fun H locs hw => ?_)
  exact rI E hr hlk (HB.eq hw (rfl)) (rfl) dX3_carryOutOrder_80
set_option maxHeartbeats 4000000 in
set_option maxRecDepth 100000 in
theorem c_X3_carryOutOrder_d (l : Launch) (G : GP) (b : Nat → Nat) (ad : Nat → Nat → Nat) (v pd rv : Nat → Int32) (Ns : Nat → NS) (ov ow : Nat) (hI : Inv (Ns 0)) (h1 : rv 1 = nI 100) (h2 : rv 2 = nI ov) (hp : ov < Ns 0 6) : MI l yX3_carryOutOrder (.code yX3_carryOutOrder cX3_carryOutOrder 2 (some .int) :: GW) ({ frames := 6, cells := 0, slots := 0, locals := 130 }) [.ref (b 0)] G ES (cW G b ad (v) (pd) (rv) (Ns)) (cW G b ad (v) (pd) (rv) (va_up (Ns) 0 (mDlv ov (Ns 0)))) (nI (mDlv ov (Ns 0) 6)) := by
  refine MI.of (own := RX3) rfl rfl (Nat.le_of_ble_eq_true rfl) ?_
  intro pP eE sS mM below meth cC ls AA E hw hl hr hlk hE
  replace hl : lv_has ls 2 [(0, .ref (b 0))] := hl
  refine lv_aload_n E.1 E.2.1 dX3_carryOutOrder_0 rfl (lv_at hl 0 rfl) ?_
  refine gX3_9 E hw mw_2_1 dX3_carryOutOrder_1 ?_
  refine gC0_2 E hw mw_30_16 dX3_carryOutOrder_4 ?_
  refine lv_eqi (y := nI (ov)) (h2) ?_
  refine lv_istore_n (lv' := [(1, .int (nI (ov))), (0, .ref (b 0))]) E.1 E.2.1 dX3_carryOutOrder_7 rfl hl (by decide) rfl (fun ls hl => ?_)
  refine lv_aload_n E.1 E.2.1 dX3_carryOutOrder_8 rfl (lv_at hl 1 rfl) ?_
  refine gX3_9 E hw mw_2_1 dX3_carryOutOrder_9 ?_
  refine gC0_1 E hw mw_30_17 dX3_carryOutOrder_12 ?_
  refine lv_eqi (y := nI (100)) (h1) ?_
  refine lv_lookup (off := 66) (tgt := 81) E.1 E.2.1 dX3_carryOutOrder_15 (by decide) (by decide) (by decide) ?_
  refine lv_aload_n E.1 E.2.1 dX3_carryOutOrder_81 rfl (lv_at hl 1 rfl) ?_
  refine gX3_0 E hw mw_1_16 dX3_carryOutOrder_82 ?_
  refine lv_iload_n E.1 E.2.1 dX3_carryOutOrder_85 rfl (lv_at hl 0 rfl) ?_
  refine callVIp E (c_X2_handOver l G (ad 0) (Ns 0) ov _ _ _ _ hI hp rfl rfl rfl rfl (hI.2.1 ov hp)) ES.eb (fun _ _ _ => trivial) mw_8_14 YX2_handOver ⟨rfl, rfl⟩ ⟨Nat.le_of_ble_eq_true rfl, Nat.le_of_ble_eq_true rfl⟩ ⟨Nat.zero_le _, Nat.zero_le _⟩ hw (cW_p0 (rfl) (by omega)) (cW_p (mDlv ov (Ns 0)) (by omega)) 0 rfl rfl rfl hl rfl (Nat.le_of_ble_eq_true rfl) dX3_carryOutOrder_86 (fun H locs hw => ?_)
  exact rI E hr hlk (HB.eq hw (rfl)) (rfl) dX3_carryOutOrder_89
set_option maxHeartbeats 4000000 in
set_option maxRecDepth 100000 in
theorem c_X3_carryOutOrder_db (l : Launch) (G : GP) (b : Nat → Nat) (ad : Nat → Nat → Nat) (v pd rv : Nat → Int32) (Ns : Nat → NS) (ov ow : Nat) (hI : Inv (Ns 0)) (h1 : rv 1 = nI 100) (h2 : rv 2 = nI ov) (hp : ¬ ov < Ns 0 6) (hv9 : ov ≤ 99) : MI l yX3_carryOutOrder (.code yX3_carryOutOrder cX3_carryOutOrder 2 (some .int) :: GW) ({ frames := 6, cells := 0, slots := 0, locals := 130 }) [.ref (b 0)] G ES (cW G b ad (v) (pd) (rv) (Ns)) (cW G b ad (v) (pd) (rv) (Ns)) (-1) := by
  refine MI.of (own := RX3) rfl rfl (Nat.le_of_ble_eq_true rfl) ?_
  intro pP eE sS mM below meth cC ls AA E hw hl hr hlk hE
  replace hl : lv_has ls 2 [(0, .ref (b 0))] := hl
  refine lv_aload_n E.1 E.2.1 dX3_carryOutOrder_0 rfl (lv_at hl 0 rfl) ?_
  refine gX3_9 E hw mw_2_1 dX3_carryOutOrder_1 ?_
  refine gC0_2 E hw mw_30_16 dX3_carryOutOrder_4 ?_
  refine lv_eqi (y := nI (ov)) (h2) ?_
  refine lv_istore_n (lv' := [(1, .int (nI (ov))), (0, .ref (b 0))]) E.1 E.2.1 dX3_carryOutOrder_7 rfl hl (by decide) rfl (fun ls hl => ?_)
  refine lv_aload_n E.1 E.2.1 dX3_carryOutOrder_8 rfl (lv_at hl 1 rfl) ?_
  refine gX3_9 E hw mw_2_1 dX3_carryOutOrder_9 ?_
  refine gC0_1 E hw mw_30_17 dX3_carryOutOrder_12 ?_
  refine lv_eqi (y := nI (100)) (h1) ?_
  refine lv_lookup (off := 66) (tgt := 81) E.1 E.2.1 dX3_carryOutOrder_15 (by decide) (by decide) (by decide) ?_
  refine lv_aload_n E.1 E.2.1 dX3_carryOutOrder_81 rfl (lv_at hl 1 rfl) ?_
  refine gX3_0 E hw mw_1_16 dX3_carryOutOrder_82 ?_
  refine lv_iload_n E.1 E.2.1 dX3_carryOutOrder_85 rfl (lv_at hl 0 rfl) ?_
  refine callVIp E (c_X2_handOver_bad l G (ad 0) (Ns 0) (nI ov) (fun z => hp ((nI_ltI (by omega) (by have := hI.1.1; omega)).mp z.2))) ES.eb (fun _ _ _ => trivial) mw_8_14 YX2_handOver ⟨rfl, rfl⟩ ⟨Nat.le_of_ble_eq_true rfl, Nat.le_of_ble_eq_true rfl⟩ ⟨Nat.zero_le _, Nat.zero_le _⟩ hw (cW_p0 (rfl) (by omega)) (cW_p0 (rfl) (by omega)) 0 rfl rfl rfl hl rfl (Nat.le_of_ble_eq_true rfl) dX3_carryOutOrder_86 (fun H locs hw => ?_)
  exact rI E hr hlk (HB.eq hw (rfl)) (rfl) dX3_carryOutOrder_89
set_option maxHeartbeats 4000000 in
set_option maxRecDepth 100000 in
theorem c_X3_carryOutOrder_l (l : Launch) (G : GP) (b : Nat → Nat) (ad : Nat → Nat → Nat) (v pd rv : Nat → Int32) (Ns : Nat → NS) (ov ow : Nat) (hI : Inv (Ns 0)) (h1 : rv 1 = nI 108) (h2 : rv 2 = nI ov) (hp : ov < Ns 0 6) : MI l yX3_carryOutOrder (.code yX3_carryOutOrder cX3_carryOutOrder 2 (some .int) :: GW) ({ frames := 6, cells := 0, slots := 0, locals := 130 }) [.ref (b 0)] G ES (cW G b ad (v) (pd) (rv) (Ns)) (cW G b ad (v) (pd) (rv) (va_up (Ns) 0 (mLose ov (Ns 0)))) (nI (mLose ov (Ns 0) 6)) := by
  refine MI.of (own := RX3) rfl rfl (Nat.le_of_ble_eq_true rfl) ?_
  intro pP eE sS mM below meth cC ls AA E hw hl hr hlk hE
  replace hl : lv_has ls 2 [(0, .ref (b 0))] := hl
  refine lv_aload_n E.1 E.2.1 dX3_carryOutOrder_0 rfl (lv_at hl 0 rfl) ?_
  refine gX3_9 E hw mw_2_1 dX3_carryOutOrder_1 ?_
  refine gC0_2 E hw mw_30_16 dX3_carryOutOrder_4 ?_
  refine lv_eqi (y := nI (ov)) (h2) ?_
  refine lv_istore_n (lv' := [(1, .int (nI (ov))), (0, .ref (b 0))]) E.1 E.2.1 dX3_carryOutOrder_7 rfl hl (by decide) rfl (fun ls hl => ?_)
  refine lv_aload_n E.1 E.2.1 dX3_carryOutOrder_8 rfl (lv_at hl 1 rfl) ?_
  refine gX3_9 E hw mw_2_1 dX3_carryOutOrder_9 ?_
  refine gC0_1 E hw mw_30_17 dX3_carryOutOrder_12 ?_
  refine lv_eqi (y := nI (108)) (h1) ?_
  refine lv_lookup (off := 75) (tgt := 90) E.1 E.2.1 dX3_carryOutOrder_15 (by decide) (by decide) (by decide) ?_
  refine lv_aload_n E.1 E.2.1 dX3_carryOutOrder_90 rfl (lv_at hl 1 rfl) ?_
  refine gX3_0 E hw mw_1_16 dX3_carryOutOrder_91 ?_
  refine lv_iload_n E.1 E.2.1 dX3_carryOutOrder_94 rfl (lv_at hl 0 rfl) ?_
  refine callVIp E (c_X2_dropMessage_ok l G (ad 0) (Ns 0) ov hp hI.1.1) ES.eb (fun _ _ _ => trivial) mw_13_1 YX2_dropMessage ⟨rfl, rfl⟩ ⟨Nat.le_of_ble_eq_true rfl, Nat.le_of_ble_eq_true rfl⟩ ⟨Nat.zero_le _, Nat.zero_le _⟩ hw (cW_p0 (rfl) (by omega)) (cW_p (mLose ov (Ns 0)) (by omega)) 0 rfl rfl rfl hl rfl (Nat.le_of_ble_eq_true rfl) dX3_carryOutOrder_95 (fun H locs hw => ?_)
  exact rI E hr hlk (HB.eq hw (rfl)) (rfl) dX3_carryOutOrder_98
set_option maxHeartbeats 4000000 in
set_option maxRecDepth 100000 in
theorem c_X3_carryOutOrder_lb (l : Launch) (G : GP) (b : Nat → Nat) (ad : Nat → Nat → Nat) (v pd rv : Nat → Int32) (Ns : Nat → NS) (ov ow : Nat) (hI : Inv (Ns 0)) (h1 : rv 1 = nI 108) (h2 : rv 2 = nI ov) (hp : ¬ ov < Ns 0 6) (hv9 : ov ≤ 99) : MI l yX3_carryOutOrder (.code yX3_carryOutOrder cX3_carryOutOrder 2 (some .int) :: GW) ({ frames := 6, cells := 0, slots := 0, locals := 130 }) [.ref (b 0)] G ES (cW G b ad (v) (pd) (rv) (Ns)) (cW G b ad (v) (pd) (rv) (Ns)) (-1) := by
  refine MI.of (own := RX3) rfl rfl (Nat.le_of_ble_eq_true rfl) ?_
  intro pP eE sS mM below meth cC ls AA E hw hl hr hlk hE
  replace hl : lv_has ls 2 [(0, .ref (b 0))] := hl
  refine lv_aload_n E.1 E.2.1 dX3_carryOutOrder_0 rfl (lv_at hl 0 rfl) ?_
  refine gX3_9 E hw mw_2_1 dX3_carryOutOrder_1 ?_
  refine gC0_2 E hw mw_30_16 dX3_carryOutOrder_4 ?_
  refine lv_eqi (y := nI (ov)) (h2) ?_
  refine lv_istore_n (lv' := [(1, .int (nI (ov))), (0, .ref (b 0))]) E.1 E.2.1 dX3_carryOutOrder_7 rfl hl (by decide) rfl (fun ls hl => ?_)
  refine lv_aload_n E.1 E.2.1 dX3_carryOutOrder_8 rfl (lv_at hl 1 rfl) ?_
  refine gX3_9 E hw mw_2_1 dX3_carryOutOrder_9 ?_
  refine gC0_1 E hw mw_30_17 dX3_carryOutOrder_12 ?_
  refine lv_eqi (y := nI (108)) (h1) ?_
  refine lv_lookup (off := 75) (tgt := 90) E.1 E.2.1 dX3_carryOutOrder_15 (by decide) (by decide) (by decide) ?_
  refine lv_aload_n E.1 E.2.1 dX3_carryOutOrder_90 rfl (lv_at hl 1 rfl) ?_
  refine gX3_0 E hw mw_1_16 dX3_carryOutOrder_91 ?_
  refine lv_iload_n E.1 E.2.1 dX3_carryOutOrder_94 rfl (lv_at hl 0 rfl) ?_
  refine callVIp E (c_X2_dropMessage_bad l G (ad 0) (Ns 0) (nI ov) (fun z => hp ((nI_ltI (by omega) (by have := hI.1.1; omega)).mp z.2))) ES.eb (fun _ _ _ => trivial) mw_13_1 YX2_dropMessage ⟨rfl, rfl⟩ ⟨Nat.le_of_ble_eq_true rfl, Nat.le_of_ble_eq_true rfl⟩ ⟨Nat.zero_le _, Nat.zero_le _⟩ hw (cW_p0 (rfl) (by omega)) (cW_p0 (rfl) (by omega)) 0 rfl rfl rfl hl rfl (Nat.le_of_ble_eq_true rfl) dX3_carryOutOrder_95 (fun H locs hw => ?_)
  exact rI E hr hlk (HB.eq hw (rfl)) (rfl) dX3_carryOutOrder_98
set_option maxHeartbeats 4000000 in
set_option maxRecDepth 100000 in
theorem c_X3_carryOutOrder_r (l : Launch) (G : GP) (b : Nat → Nat) (ad : Nat → Nat → Nat) (v pd rv : Nat → Int32) (Ns : Nat → NS) (ov ow : Nat) (hI : Inv (Ns 0)) (h1 : rv 1 = nI 114) (h2 : rv 2 = nI ov) (hv5 : ov < 5) : MI l yX3_carryOutOrder (.code yX3_carryOutOrder cX3_carryOutOrder 2 (some .int) :: GW) ({ frames := 6, cells := 0, slots := 0, locals := 130 }) [.ref (b 0)] G ES (cW G b ad (v) (pd) (rv) (Ns)) (cW G b ad (v) (pd) (rv) (va_up (Ns) 0 (nRis ov (Ns 0)))) (rRis ov (Ns 0)) := by
  refine MI.of (own := RX3) rfl rfl (Nat.le_of_ble_eq_true rfl) ?_
  intro pP eE sS mM below meth cC ls AA E hw hl hr hlk hE
  replace hl : lv_has ls 2 [(0, .ref (b 0))] := hl
  refine lv_aload_n E.1 E.2.1 dX3_carryOutOrder_0 rfl (lv_at hl 0 rfl) ?_
  refine gX3_9 E hw mw_2_1 dX3_carryOutOrder_1 ?_
  refine gC0_2 E hw mw_30_16 dX3_carryOutOrder_4 ?_
  refine lv_eqi (y := nI (ov)) (h2) ?_
  refine lv_istore_n (lv' := [(1, .int (nI (ov))), (0, .ref (b 0))]) E.1 E.2.1 dX3_carryOutOrder_7 rfl hl (by decide) rfl (fun ls hl => ?_)
  refine lv_aload_n E.1 E.2.1 dX3_carryOutOrder_8 rfl (lv_at hl 1 rfl) ?_
  refine gX3_9 E hw mw_2_1 dX3_carryOutOrder_9 ?_
  refine gC0_1 E hw mw_30_17 dX3_carryOutOrder_12 ?_
  refine lv_eqi (y := nI (114)) (h1) ?_
  refine lv_lookup (off := 93) (tgt := 108) E.1 E.2.1 dX3_carryOutOrder_15 (by decide) (by decide) (by decide) ?_
  refine lv_aload_n E.1 E.2.1 dX3_carryOutOrder_108 rfl (lv_at hl 1 rfl) ?_
  refine gX3_0 E hw mw_1_16 dX3_carryOutOrder_109 ?_
  refine lv_iload_n E.1 E.2.1 dX3_carryOutOrder_112 rfl (lv_at hl 0 rfl) ?_
  refine callVIp E (c_X2_getWell_ok l G (ad 0) (Ns 0) ov hv5 hI.1) ES.eb (fun _ _ _ => trivial) mw_15_19 YX2_getWell ⟨rfl, rfl⟩ ⟨Nat.le_of_ble_eq_true rfl, Nat.le_of_ble_eq_true rfl⟩ ⟨Nat.zero_le _, Nat.zero_le _⟩ hw (cW_p0 (rfl) (by omega)) (cW_p (nRis ov (Ns 0)) (by omega)) 0 rfl rfl rfl hl rfl (Nat.le_of_ble_eq_true rfl) dX3_carryOutOrder_113 (fun H locs hw => ?_)
  exact rI E hr hlk (HB.eq hw (rfl)) (rfl) dX3_carryOutOrder_116
set_option maxHeartbeats 4000000 in
set_option maxRecDepth 100000 in
theorem c_X3_carryOutOrder_x (l : Launch) (G : GP) (b : Nat → Nat) (ad : Nat → Nat → Nat) (v pd rv : Nat → Int32) (Ns : Nat → NS) (ov ow : Nat) (hI : Inv (Ns 0)) (h1 : rv 1 = nI 120) (h2 : rv 2 = nI ov) (hv5 : ov < 5) : MI l yX3_carryOutOrder (.code yX3_carryOutOrder cX3_carryOutOrder 2 (some .int) :: GW) ({ frames := 6, cells := 0, slots := 0, locals := 130 }) [.ref (b 0)] G ES (cW G b ad (v) (pd) (rv) (Ns)) (cW G b ad (v) (pd) (rv) (va_up (Ns) 0 (nFal ov (Ns 0)))) (rFal ov (Ns 0)) := by
  refine MI.of (own := RX3) rfl rfl (Nat.le_of_ble_eq_true rfl) ?_
  intro pP eE sS mM below meth cC ls AA E hw hl hr hlk hE
  replace hl : lv_has ls 2 [(0, .ref (b 0))] := hl
  refine lv_aload_n E.1 E.2.1 dX3_carryOutOrder_0 rfl (lv_at hl 0 rfl) ?_
  refine gX3_9 E hw mw_2_1 dX3_carryOutOrder_1 ?_
  refine gC0_2 E hw mw_30_16 dX3_carryOutOrder_4 ?_
  refine lv_eqi (y := nI (ov)) (h2) ?_
  refine lv_istore_n (lv' := [(1, .int (nI (ov))), (0, .ref (b 0))]) E.1 E.2.1 dX3_carryOutOrder_7 rfl hl (by decide) rfl (fun ls hl => ?_)
  refine lv_aload_n E.1 E.2.1 dX3_carryOutOrder_8 rfl (lv_at hl 1 rfl) ?_
  refine gX3_9 E hw mw_2_1 dX3_carryOutOrder_9 ?_
  refine gC0_1 E hw mw_30_17 dX3_carryOutOrder_12 ?_
  refine lv_eqi (y := nI (120)) (h1) ?_
  refine lv_lookup (off := 84) (tgt := 99) E.1 E.2.1 dX3_carryOutOrder_15 (by decide) (by decide) (by decide) ?_
  refine lv_aload_n E.1 E.2.1 dX3_carryOutOrder_99 rfl (lv_at hl 1 rfl) ?_
  refine gX3_0 E hw mw_1_16 dX3_carryOutOrder_100 ?_
  refine lv_iload_n E.1 E.2.1 dX3_carryOutOrder_103 rfl (lv_at hl 0 rfl) ?_
  refine callVIp E (c_X2_fallIll_ok l G (ad 0) (Ns 0) ov hv5 hI.1) ES.eb (fun _ _ _ => trivial) mw_14_9 YX2_fallIll ⟨rfl, rfl⟩ ⟨Nat.le_of_ble_eq_true rfl, Nat.le_of_ble_eq_true rfl⟩ ⟨Nat.zero_le _, Nat.zero_le _⟩ hw (cW_p0 (rfl) (by omega)) (cW_p (nFal ov (Ns 0)) (by omega)) 0 rfl rfl rfl hl rfl (Nat.le_of_ble_eq_true rfl) dX3_carryOutOrder_104 (fun H locs hw => ?_)
  exact rI E hr hlk (HB.eq hw (rfl)) (rfl) dX3_carryOutOrder_107
set_option maxHeartbeats 4000000 in
set_option maxRecDepth 100000 in
theorem c_X3_carryOutOrder_w (l : Launch) (G : GP) (b : Nat → Nat) (ad : Nat → Nat → Nat) (v pd rv : Nat → Int32) (Ns : Nat → NS) (ov ow : Nat) (hI : Inv (Ns 0)) (h1 : rv 1 = nI 119) (h2 : rv 2 = nI ov) (hv4 : ov < 4) (hw1 : ow ≤ 1) (hw2 : rv 3 = nI ow) : MI l yX3_carryOutOrder (.code yX3_carryOutOrder cX3_carryOutOrder 2 (some .int) :: GW) ({ frames := 6, cells := 0, slots := 0, locals := 130 }) [.ref (b 0)] G ES (cW G b ad (v) (pd) (rv) (Ns)) (cW G b ad (v) (pd) (rv) (va_up (Ns) 0 (un (Ns 0) (15 + ov) ow))) (nI (Ns 0 (15 + ov))) := by
  refine MI.of (own := RX3) rfl rfl (Nat.le_of_ble_eq_true rfl) ?_
  intro pP eE sS mM below meth cC ls AA E hw hl hr hlk hE
  replace hl : lv_has ls 2 [(0, .ref (b 0))] := hl
  refine lv_aload_n E.1 E.2.1 dX3_carryOutOrder_0 rfl (lv_at hl 0 rfl) ?_
  refine gX3_9 E hw mw_2_1 dX3_carryOutOrder_1 ?_
  refine gC0_2 E hw mw_30_16 dX3_carryOutOrder_4 ?_
  refine lv_eqi (y := nI (ov)) (h2) ?_
  refine lv_istore_n (lv' := [(1, .int (nI (ov))), (0, .ref (b 0))]) E.1 E.2.1 dX3_carryOutOrder_7 rfl hl (by decide) rfl (fun ls hl => ?_)
  refine lv_aload_n E.1 E.2.1 dX3_carryOutOrder_8 rfl (lv_at hl 1 rfl) ?_
  refine gX3_9 E hw mw_2_1 dX3_carryOutOrder_9 ?_
  refine gC0_1 E hw mw_30_17 dX3_carryOutOrder_12 ?_
  refine lv_eqi (y := nI (119)) (h1) ?_
  refine lv_lookup (off := 102) (tgt := 117) E.1 E.2.1 dX3_carryOutOrder_15 (by decide) (by decide) (by decide) ?_
  refine lv_aload_n E.1 E.2.1 dX3_carryOutOrder_117 rfl (lv_at hl 1 rfl) ?_
  refine gX3_0 E hw mw_1_16 dX3_carryOutOrder_118 ?_
  refine lv_iload_n E.1 E.2.1 dX3_carryOutOrder_121 rfl (lv_at hl 0 rfl) ?_
  refine lv_aload_n E.1 E.2.1 dX3_carryOutOrder_122 rfl (lv_at hl 1 rfl) ?_
  refine gX3_9 E hw mw_2_1 dX3_carryOutOrder_123 ?_
  refine gC0_3 E hw mw_30_18 dX3_carryOutOrder_126 ?_
  refine lv_eqi (y := nI (ow)) (hw2) ?_
  refine callVIp E (c_X2_makeWilling_ok l G (ad 0) (Ns 0) ov ow hv4 hw1 hI.1) ES.eb (fun _ _ _ => trivial) mw_6_2 YX2_makeWilling ⟨rfl, rfl⟩ ⟨Nat.le_of_ble_eq_true rfl, Nat.le_of_ble_eq_true rfl⟩ ⟨Nat.zero_le _, Nat.zero_le _⟩ hw (cW_p0 (rfl) (by omega)) (cW_p (un (Ns 0) (15 + ov) ow) (by omega)) 0 rfl rfl rfl hl rfl (Nat.le_of_ble_eq_true rfl) dX3_carryOutOrder_129 (fun H locs hw => ?_)
  exact rI E hr hlk (HB.eq hw (rfl)) (rfl) dX3_carryOutOrder_132
set_option maxHeartbeats 4000000 in
set_option maxRecDepth 100000 in
theorem c_X3_carryOutOrder_t (l : Launch) (G : GP) (b : Nat → Nat) (ad : Nat → Nat → Nat) (v pd rv : Nat → Int32) (Ns : Nat → NS) (ov ow : Nat) (hI : Inv (Ns 0)) (h1 : rv 1 = nI 116) (h2 : rv 2 = nI ov) (hvt : 1 ≤ ov ∧ ov ≤ 100) : MI l yX3_carryOutOrder (.code yX3_carryOutOrder cX3_carryOutOrder 2 (some .int) :: GW) ({ frames := 6, cells := 0, slots := 0, locals := 130 }) [.ref (b 0)] G ES (cW G b ad (v) (pd) (rv) (Ns)) (cW G b ad (v) (pd) (rv) (va_up (Ns) 0 (mTicks ov (Ns 0)))) (nI (mTicks ov (Ns 0) 4)) := by
  refine MI.of (own := RX3) rfl rfl (Nat.le_of_ble_eq_true rfl) ?_
  intro pP eE sS mM below meth cC ls AA E hw hl hr hlk hE
  replace hl : lv_has ls 2 [(0, .ref (b 0))] := hl
  refine lv_aload_n E.1 E.2.1 dX3_carryOutOrder_0 rfl (lv_at hl 0 rfl) ?_
  refine gX3_9 E hw mw_2_1 dX3_carryOutOrder_1 ?_
  refine gC0_2 E hw mw_30_16 dX3_carryOutOrder_4 ?_
  refine lv_eqi (y := nI (ov)) (h2) ?_
  refine lv_istore_n (lv' := [(1, .int (nI (ov))), (0, .ref (b 0))]) E.1 E.2.1 dX3_carryOutOrder_7 rfl hl (by decide) rfl (fun ls hl => ?_)
  refine lv_aload_n E.1 E.2.1 dX3_carryOutOrder_8 rfl (lv_at hl 1 rfl) ?_
  refine gX3_9 E hw mw_2_1 dX3_carryOutOrder_9 ?_
  refine gC0_1 E hw mw_30_17 dX3_carryOutOrder_12 ?_
  refine lv_eqi (y := nI (116)) (h1) ?_
  refine lv_lookup (off := 118) (tgt := 133) E.1 E.2.1 dX3_carryOutOrder_15 (by decide) (by decide) (by decide) ?_
  refine lv_aload_n E.1 E.2.1 dX3_carryOutOrder_133 rfl (lv_at hl 1 rfl) ?_
  refine gX3_0 E hw mw_1_16 dX3_carryOutOrder_134 ?_
  refine lv_iload_n E.1 E.2.1 dX3_carryOutOrder_137 rfl (lv_at hl 0 rfl) ?_
  refine callVIp E (c_X2_passTicks_ok l G (ad 0) (Ns 0) ov hvt hI.1) ES.eb (fun _ _ _ => trivial) mw_16_7 YX2_passTicks ⟨rfl, rfl⟩ ⟨Nat.le_of_ble_eq_true rfl, Nat.le_of_ble_eq_true rfl⟩ ⟨Nat.zero_le _, Nat.zero_le _⟩ hw (cW_p0 (rfl) (by omega)) (cW_p (mTicks ov (Ns 0)) (by omega)) 0 rfl rfl rfl hl rfl (Nat.le_of_ble_eq_true rfl) dX3_carryOutOrder_138 (fun H locs hw => ?_)
  exact rI E hr hlk (HB.eq hw (rfl)) (rfl) dX3_carryOutOrder_141
set_option maxHeartbeats 4000000 in
set_option maxRecDepth 100000 in
theorem c_X3_carryOutOrder_tb (l : Launch) (G : GP) (b : Nat → Nat) (ad : Nat → Nat → Nat) (v pd rv : Nat → Int32) (Ns : Nat → NS) (ov ow : Nat) (hI : Inv (Ns 0)) (h1 : rv 1 = nI 116) (h2 : rv 2 = nI ov) (hv0 : ov = 0) : MI l yX3_carryOutOrder (.code yX3_carryOutOrder cX3_carryOutOrder 2 (some .int) :: GW) ({ frames := 6, cells := 0, slots := 0, locals := 130 }) [.ref (b 0)] G ES (cW G b ad (v) (pd) (rv) (Ns)) (cW G b ad (v) (pd) (rv) (Ns)) (-2) := by
  refine MI.of (own := RX3) rfl rfl (Nat.le_of_ble_eq_true rfl) ?_
  intro pP eE sS mM below meth cC ls AA E hw hl hr hlk hE
  replace hl : lv_has ls 2 [(0, .ref (b 0))] := hl
  refine lv_aload_n E.1 E.2.1 dX3_carryOutOrder_0 rfl (lv_at hl 0 rfl) ?_
  refine gX3_9 E hw mw_2_1 dX3_carryOutOrder_1 ?_
  refine gC0_2 E hw mw_30_16 dX3_carryOutOrder_4 ?_
  refine lv_eqi (y := nI (ov)) (h2) ?_
  refine lv_istore_n (lv' := [(1, .int (nI (ov))), (0, .ref (b 0))]) E.1 E.2.1 dX3_carryOutOrder_7 rfl hl (by decide) rfl (fun ls hl => ?_)
  refine lv_aload_n E.1 E.2.1 dX3_carryOutOrder_8 rfl (lv_at hl 1 rfl) ?_
  refine gX3_9 E hw mw_2_1 dX3_carryOutOrder_9 ?_
  refine gC0_1 E hw mw_30_17 dX3_carryOutOrder_12 ?_
  refine lv_eqi (y := nI (116)) (h1) ?_
  refine lv_lookup (off := 118) (tgt := 133) E.1 E.2.1 dX3_carryOutOrder_15 (by decide) (by decide) (by decide) ?_
  refine lv_aload_n E.1 E.2.1 dX3_carryOutOrder_133 rfl (lv_at hl 1 rfl) ?_
  refine gX3_0 E hw mw_1_16 dX3_carryOutOrder_134 ?_
  refine lv_iload_n E.1 E.2.1 dX3_carryOutOrder_137 rfl (lv_at hl 0 rfl) ?_
  refine callVIp E (c_X2_passTicks_bad l G (ad 0) (Ns 0) (nI ov) (by rw [hv0]; decide)) ES.eb (fun _ _ _ => trivial) mw_16_7 YX2_passTicks ⟨rfl, rfl⟩ ⟨Nat.le_of_ble_eq_true rfl, Nat.le_of_ble_eq_true rfl⟩ ⟨Nat.zero_le _, Nat.zero_le _⟩ hw (cW_p0 (rfl) (by omega)) (cW_p0 (rfl) (by omega)) 0 rfl rfl rfl hl rfl (Nat.le_of_ble_eq_true rfl) dX3_carryOutOrder_138 (fun H locs hw => ?_)
  exact rI E hr hlk (HB.eq hw (rfl)) (rfl) dX3_carryOutOrder_141
theorem c_X3_carryOutOrder (l : Launch) (G : GP) (b : Nat → Nat) (ad : Nat → Nat → Nat) (v pd rv : Nat → Int32) (Ns : Nat → NS) (o : OQ) (ho : okO o) (hI : Inv (Ns 0)) (h1 : rv 1 = nI o.1) (h2 : rv 2 = nI o.2.1) (h3 : o.1 = 119 → rv 3 = nI o.2.2) : MI l yX3_carryOutOrder (.code yX3_carryOutOrder cX3_carryOutOrder 2 (some .int) :: GW) { frames := 6, cells := 0, slots := 0, locals := 130 } [.ref (b 0)] G ES (cW G b ad v pd rv Ns) (cW G b ad v pd rv (va_up Ns 0 (nO o (Ns 0)))) (rO o (Ns 0)) := by
  obtain ⟨oc, ov, ow⟩ := o
  unfold okO at ho
  simp only [] at ho h1 h2 h3
  by_cases k1 : oc = 111
  · subst k1
    exact c_X3_carryOutOrder_o l G b ad v pd rv Ns ov ow hI h1 h2 (by omega)
  by_cases k2 : oc = 100
  · subst k2
    by_cases hq : ov < Ns 0 6
    · have q := c_X3_carryOutOrder_d l G b ad v pd rv Ns ov ow hI h1 h2 hq
      simpa only [nO, rO, Nat.reduceEqDiff, reduceIte, hq] using q
    · have q := c_X3_carryOutOrder_db l G b ad v pd rv Ns ov ow hI h1 h2 hq (by omega)
      simpa only [nO, rO, Nat.reduceEqDiff, reduceIte, hq, va_up_id] using q
  by_cases k3 : oc = 108
  · subst k3
    by_cases hq : ov < Ns 0 6
    · have q := c_X3_carryOutOrder_l l G b ad v pd rv Ns ov ow hI h1 h2 hq
      simpa only [nO, rO, Nat.reduceEqDiff, reduceIte, hq] using q
    · have q := c_X3_carryOutOrder_lb l G b ad v pd rv Ns ov ow hI h1 h2 hq (by omega)
      simpa only [nO, rO, Nat.reduceEqDiff, reduceIte, hq, va_up_id] using q
  by_cases k4 : oc = 114
  · subst k4
    exact c_X3_carryOutOrder_r l G b ad v pd rv Ns ov ow hI h1 h2 (by omega)
  by_cases k5 : oc = 120
  · subst k5
    exact c_X3_carryOutOrder_x l G b ad v pd rv Ns ov ow hI h1 h2 (by omega)
  by_cases k6 : oc = 119
  · subst k6
    exact c_X3_carryOutOrder_w l G b ad v pd rv Ns ov ow hI h1 h2 (by omega) (by omega) (h3 rfl)
  obtain rfl : oc = 116 := by omega
  by_cases hq : ov = 0
  · have q := c_X3_carryOutOrder_tb l G b ad v pd rv Ns ov ow hI h1 h2 hq
    simpa only [nO, rO, Nat.reduceEqDiff, reduceIte, hq, va_up_id] using q
  · have q := c_X3_carryOutOrder_t l G b ad v pd rv Ns ov ow hI h1 h2 (by omega)
    simpa only [nO, rO, Nat.reduceEqDiff, reduceIte, hq] using q

/-! ===== orders: the answer and the state behind ===== -/
abbrev OQ : Type := Nat × Nat × Nat
def okO (o : OQ) : Prop := (o.1 = 111 ∧ 1 ≤ o.2.1 ∧ o.2.1 < 16) ∨ ((o.1 = 100 ∨ o.1 = 108 ∨ o.1 = 116) ∧ o.2.1 ≤ 99) ∨ ((o.1 = 114 ∨ o.1 = 120) ∧ o.2.1 < 5) ∨ (o.1 = 119 ∧ o.2.1 < 4 ∧ o.2.2 ≤ 1)
def rO (o : OQ) (N : NS) : Int32 := if o.1 = 111 then rOpen N else if o.1 = 100 then (if o.2.1 < N 6 then nI (mDlv o.2.1 N 6) else -1) else if o.1 = 108 then (if o.2.1 < N 6 then nI (mLose o.2.1 N 6) else -1) else if o.1 = 114 then rRis o.2.1 N else if o.1 = 120 then rFal o.2.1 N else if o.1 = 119 then nI (N (15 + o.2.1)) else if o.2.1 = 0 then -2 else nI (mTicks o.2.1 N 4)
def nO (o : OQ) (N : NS) : NS := if o.1 = 111 then nOpen o.2.1 N else if o.1 = 100 then (if o.2.1 < N 6 then mDlv o.2.1 N else N) else if o.1 = 108 then (if o.2.1 < N 6 then mLose o.2.1 N else N) else if o.1 = 114 then nRis o.2.1 N else if o.1 = 120 then nFal o.2.1 N else if o.1 = 119 then un N (15 + o.2.1) o.2.2 else if o.2.1 = 0 then N else mTicks o.2.1 N
def xN (OR : Nat → OQ) (N : NS) : Nat → NS
  | 0 => N
  | j + 1 => nO (OR j) (xN OR N j)
theorem Inv.aOpen {N : NS} (h : Inv N) {S : Nat} (hS : S < 16) : Inv (nOpen S N) := by
  unfold nOpen
  by_cases q : N 5 = 8 ∨ N 14 = 1
  · rw [if_pos q]; exact h
  · rw [if_neg q]; exact h.opn hS (fun z => q (Or.inl z))
theorem Inv.aO {N : NS} (h : Inv N) {o : OQ} (ho : okO o) : Inv (nO o N) := by
  obtain ⟨c, v, w⟩ := o
  have e : nO (c, v, w) N = if c = 111 then nOpen v N else if c = 100 then (if v < N 6 then mDlv v N else N) else if c = 108 then (if v < N 6 then mLose v N else N) else if c = 114 then nRis v N else if c = 120 then nFal v N else if c = 119 then un N (15 + v) w else if v = 0 then N else mTicks v N := rfl
  rw [e]
  unfold okO at ho
  simp only [] at ho
  split
  · exact h.aOpen (by omega)
  split
  · split
    · exact h.dlv (by assumption)
    · exact h
  split
  · split
    · exact h.los (by assumption)
    · exact h
  split
  · unfold nRis; split
    · exact h.rise (by omega)
    · exact h
  split
  · unfold nFal; split
    · exact h
    · exact h.fall (by omega)
  split
  · exact h.uw (by omega) (by omega)
  split
  · exact h
  · exact h.ticks v
theorem rcd_in {u : Nat} {N : NS} {x : MX} (h : x.1 2 = zb True) : rcd u N x = x := by
  unfold rcd
  rw [if_neg (by rw [h]; decide)]
theorem rcd_1k {u : Nat} {N : NS} {x : MX} {k : Nat} (h : k ≠ 0) : (rcd u N x).1 k = x.1 k := by
  unfold rcd
  split
  · exact if_neg h
  · rfl
theorem YX4_wipe : YV yX4_wipe RX4 cX4_wipe 2 (some .int) 0 := ⟨mw_26_13, mw_26_14, mw_1_5, mw_26_15, by decide +kernel⟩
set_option maxHeartbeats 4000000 in
set_option maxRecDepth 100000 in
theorem c_X4_wipe (l : Launch) (G : GP) (a : Nat → Nat) (N : NS) (x : MX) (n : Nat) (h1 : x.1 1 = nI n) : MI l yX4_wipe (.code yX4_wipe cX4_wipe 2 (some .int) :: GW) ({ frames := 0, cells := 0, slots := 0, locals := 0 }) [.ref (a 0)] G ES (mN G a (N) (x)) (mN G a (N) (sx x 1 (nI 0))) (nI n) := by
  refine MI.of (own := RX4) rfl rfl (Nat.le_of_ble_eq_true rfl) ?_
  intro pP eE sS mM below meth cC ls AA E hw hl hr hlk hE
  replace hl : lv_has ls 2 [(0, .ref (a 0))] := hl
  refine lv_aload_n E.1 E.2.1 dX4_wipe_0 rfl (lv_at hl 0 rfl) ?_
  refine gX4_7 E hw mw_21_19 dX4_wipe_1 ?_
  refine lv_eqi (y := nI (n)) (h1) ?_
  refine lv_istore_n (lv' := [(1, .int (nI (n))), (0, .ref (a 0))]) E.1 E.2.1 dX4_wipe_4 rfl hl (by decide) rfl (fun ls hl => ?_)
  refine lv_aload_n E.1 E.2.1 dX4_wipe_5 rfl (lv_at hl 1 rfl) ?_
  refine lv_iconst (v := nI 0) E.1 E.2.1 dX4_wipe_6 (by decide) ?_
  refine pX4_7 E hw mw_21_19 dX4_wipe_7 (fun H locs hw => ?_)
  refine lv_iload_n E.1 E.2.1 dX4_wipe_10 rfl (lv_at hl 0 rfl) ?_
  exact rI E hr hlk (HB.eq hw (rfl)) (rfl) dX4_wipe_11
theorem YX4_fault : YV yX4_fault RX4 cX4_fault 1 (some .int) 0 := ⟨mw_28_18, mw_28_19, mw_1_5, mw_28_20, by decide +kernel⟩
set_option maxHeartbeats 4000000 in
set_option maxRecDepth 100000 in
theorem c_X4_fault (l : Launch) (G : GP) (a : Nat → Nat) (N : NS) (x : MX) (C : Nat → Nat) (n : Nat) (hPd : PadM x C n) (r p w : Int32) (O : Nat → Int32)  : MI l yX4_fault (.code yX4_fault cX4_fault 1 (some .int) :: GW) ({ frames := 7, cells := 0, slots := 0, locals := 170 }) [.ref (a 0)] G ES (mN G a (N) (tX (r) (p) (w) (O) x)) (mN G a (N) (tX (nI ((fF C n O).1)) (nI ((fF C n O).2.1)) (nI ((fF C n O).2.2.1)) ((fF C n O).2.2.2) x)) ((if (fF C n O).2.2.1 = 0 then -6 else nI (fF C n O).2.1)) := by
  refine MI.of (own := RX4) rfl rfl (Nat.le_of_ble_eq_true rfl) ?_
  intro pP eE sS mM below meth cC ls AA E hw hl hr hlk hE
  replace hl : lv_has ls 1 [(0, .ref (a 0))] := hl
  refine lv_aload_n E.1 E.2.1 dX4_fault_0 rfl (lv_at hl 0 rfl) ?_
  refine callVI E (c_X4_faultOf l G a N x C n hPd (r) (p) (w) (O)) mw_28_21 YX4_faultOf ⟨rfl, rfl⟩ ⟨Nat.le_of_ble_eq_true rfl, Nat.le_of_ble_eq_true rfl⟩ ⟨Nat.zero_le _, Nat.zero_le _⟩ hw 0 rfl rfl rfl hl rfl (Nat.le_of_ble_eq_true rfl) dX4_fault_1 (fun H locs hw => ?_)
  exact rI E hr hlk (HB.eq hw (rfl)) (rfl) dX4_fault_4
theorem YX4_carry : YV yX4_carry RX4 cX4_carry 3 (some .int) 1 := ⟨mw_31_0, mw_31_1, mw_1_5, mw_31_2, by decide +kernel⟩
set_option maxHeartbeats 4000000 in
set_option maxRecDepth 100000 in
theorem c_X4_carry_o (l : Launch) (G : GP) (a : Nat → Nat) (N : NS) (x : MX) (u : Nat) (hu : x.1 0 = nI u) (hu6 : u ≤ 6) (hT : x.1 2 = zb True) (hI : Inv N) (i : Nat) (hi : i + 2 < 180) (v w : Nat) (hv : x.2 5 (i + 1) = nI v) (hl0 : x.2 5 i = nI 111) (hv1 : 1 ≤ v ∧ v < 16) : MI l yX4_carry (.code yX4_carry cX4_carry 3 (some .int) :: GW) ({ frames := 6, cells := 0, slots := 0, locals := 160 }) [.ref (a 0), .int (nI (i))] G ES (mN G a (N) (x)) (mN G a (nOpen v N) (x)) (rOpen N) := by
  refine MI.of (own := RX4) rfl rfl (Nat.le_of_ble_eq_true rfl) ?_
  intro pP eE sS mM below meth cC ls AA E hw hl hr hlk hE
  replace hl : lv_has ls 3 [(0, .ref (a 0)), (1, .int (nI (i)))] := hl
  refine lv_aload_n E.1 E.2.1 dX4_carry_0 rfl (lv_at hl 0 rfl) ?_
  refine gX4_9 E hw mw_3_15 dX4_carry_1 ?_
  refine lv_iload_n E.1 E.2.1 dX4_carry_4 rfl (lv_at hl 1 rfl) ?_
  refine lv_iconst (v := nI 1) E.1 E.2.1 dX4_carry_5 (by decide) ?_
  refine lv_addN E.1 E.2.1 dX4_carry_6 ?_
  refine lX4_6 E hw (by omega) dX4_carry_7 ?_
  refine lv_eqi (y := nI (v)) (hv) ?_
  refine lv_istore_n (lv' := [(2, .int (nI (v))), (0, .ref (a 0)), (1, .int (nI (i)))]) E.1 E.2.1 dX4_carry_8 rfl hl (by decide) rfl (fun ls hl => ?_)
  refine lv_aload_n E.1 E.2.1 dX4_carry_9 rfl (lv_at hl 1 rfl) ?_
  refine gX4_9 E hw mw_3_15 dX4_carry_10 ?_
  refine lv_iload_n E.1 E.2.1 dX4_carry_13 rfl (lv_at hl 2 rfl) ?_
  refine lX4_6 E hw (by omega) dX4_carry_14 ?_
  refine lv_eqi (y := nI (111)) (hl0) ?_
  refine lv_lookup (off := 57) (tgt := 72) E.1 E.2.1 dX4_carry_15 (by decide) (by decide) (by decide) ?_
  refine lv_aload_n E.1 E.2.1 dX4_carry_72 rfl (lv_at hl 1 rfl) ?_
  refine lv_iload_n E.1 E.2.1 dX4_carry_73 rfl (lv_at hl 0 rfl) ?_
  refine callVI E (c_X4_open_ok l G a N x u True hu hT hu6 v hv1 hI.1) mw_31_3 YX4_open ⟨rfl, rfl⟩ ⟨Nat.le_of_ble_eq_true rfl, Nat.le_of_ble_eq_true rfl⟩ ⟨Nat.zero_le _, Nat.zero_le _⟩ hw 0 rfl rfl rfl hl rfl (Nat.le_of_ble_eq_true rfl) dX4_carry_74 (fun H locs hw => ?_)
  exact rI E hr hlk (HB.eq hw (by rw [rcd_in hT, ite_self])) (rfl) dX4_carry_77
set_option maxHeartbeats 4000000 in
set_option maxRecDepth 100000 in
theorem c_X4_carry_d (l : Launch) (G : GP) (a : Nat → Nat) (N : NS) (x : MX) (u : Nat) (hu : x.1 0 = nI u) (hu6 : u ≤ 6) (hT : x.1 2 = zb True) (hI : Inv N) (i : Nat) (hi : i + 2 < 180) (v w : Nat) (hv : x.2 5 (i + 1) = nI v) (hl0 : x.2 5 i = nI 100) (hp : v < N 6) : MI l yX4_carry (.code yX4_carry cX4_carry 3 (some .int) :: GW) ({ frames := 6, cells := 0, slots := 0, locals := 160 }) [.ref (a 0), .int (nI (i))] G ES (mN G a (N) (x)) (mN G a (mDlv v N) (x)) (nI (mDlv v N 6)) := by
  refine MI.of (own := RX4) rfl rfl (Nat.le_of_ble_eq_true rfl) ?_
  intro pP eE sS mM below meth cC ls AA E hw hl hr hlk hE
  replace hl : lv_has ls 3 [(0, .ref (a 0)), (1, .int (nI (i)))] := hl
  refine lv_aload_n E.1 E.2.1 dX4_carry_0 rfl (lv_at hl 0 rfl) ?_
  refine gX4_9 E hw mw_3_15 dX4_carry_1 ?_
  refine lv_iload_n E.1 E.2.1 dX4_carry_4 rfl (lv_at hl 1 rfl) ?_
  refine lv_iconst (v := nI 1) E.1 E.2.1 dX4_carry_5 (by decide) ?_
  refine lv_addN E.1 E.2.1 dX4_carry_6 ?_
  refine lX4_6 E hw (by omega) dX4_carry_7 ?_
  refine lv_eqi (y := nI (v)) (hv) ?_
  refine lv_istore_n (lv' := [(2, .int (nI (v))), (0, .ref (a 0)), (1, .int (nI (i)))]) E.1 E.2.1 dX4_carry_8 rfl hl (by decide) rfl (fun ls hl => ?_)
  refine lv_aload_n E.1 E.2.1 dX4_carry_9 rfl (lv_at hl 1 rfl) ?_
  refine gX4_9 E hw mw_3_15 dX4_carry_10 ?_
  refine lv_iload_n E.1 E.2.1 dX4_carry_13 rfl (lv_at hl 2 rfl) ?_
  refine lX4_6 E hw (by omega) dX4_carry_14 ?_
  refine lv_eqi (y := nI (100)) (hl0) ?_
  refine lv_lookup (off := 63) (tgt := 78) E.1 E.2.1 dX4_carry_15 (by decide) (by decide) (by decide) ?_
  refine lv_aload_n E.1 E.2.1 dX4_carry_78 rfl (lv_at hl 1 rfl) ?_
  refine lv_iload_n E.1 E.2.1 dX4_carry_79 rfl (lv_at hl 0 rfl) ?_
  refine callVI E (c_X4_deliver_ok l G a N x u True hu hT hu6 v hp hI.1 (hI.mk hp)) mw_31_4 YX4_deliver ⟨rfl, rfl⟩ ⟨Nat.le_of_ble_eq_true rfl, Nat.le_of_ble_eq_true rfl⟩ ⟨Nat.zero_le _, Nat.zero_le _⟩ hw 0 rfl rfl rfl hl rfl (Nat.le_of_ble_eq_true rfl) dX4_carry_80 (fun H locs hw => ?_)
  exact rI E hr hlk (HB.eq hw (by rw [rcd_in hT])) (rfl) dX4_carry_83
set_option maxHeartbeats 4000000 in
set_option maxRecDepth 100000 in
theorem c_X4_carry_db (l : Launch) (G : GP) (a : Nat → Nat) (N : NS) (x : MX) (u : Nat) (hu : x.1 0 = nI u) (hu6 : u ≤ 6) (hT : x.1 2 = zb True) (hI : Inv N) (i : Nat) (hi : i + 2 < 180) (v w : Nat) (hv : x.2 5 (i + 1) = nI v) (hl0 : x.2 5 i = nI 100) (hp : ¬ v < N 6) (hv9 : v ≤ 99) : MI l yX4_carry (.code yX4_carry cX4_carry 3 (some .int) :: GW) ({ frames := 6, cells := 0, slots := 0, locals := 160 }) [.ref (a 0), .int (nI (i))] G ES (mN G a (N) (x)) (mN G a (N) (x)) (-1) := by
  refine MI.of (own := RX4) rfl rfl (Nat.le_of_ble_eq_true rfl) ?_
  intro pP eE sS mM below meth cC ls AA E hw hl hr hlk hE
  replace hl : lv_has ls 3 [(0, .ref (a 0)), (1, .int (nI (i)))] := hl
  refine lv_aload_n E.1 E.2.1 dX4_carry_0 rfl (lv_at hl 0 rfl) ?_
  refine gX4_9 E hw mw_3_15 dX4_carry_1 ?_
  refine lv_iload_n E.1 E.2.1 dX4_carry_4 rfl (lv_at hl 1 rfl) ?_
  refine lv_iconst (v := nI 1) E.1 E.2.1 dX4_carry_5 (by decide) ?_
  refine lv_addN E.1 E.2.1 dX4_carry_6 ?_
  refine lX4_6 E hw (by omega) dX4_carry_7 ?_
  refine lv_eqi (y := nI (v)) (hv) ?_
  refine lv_istore_n (lv' := [(2, .int (nI (v))), (0, .ref (a 0)), (1, .int (nI (i)))]) E.1 E.2.1 dX4_carry_8 rfl hl (by decide) rfl (fun ls hl => ?_)
  refine lv_aload_n E.1 E.2.1 dX4_carry_9 rfl (lv_at hl 1 rfl) ?_
  refine gX4_9 E hw mw_3_15 dX4_carry_10 ?_
  refine lv_iload_n E.1 E.2.1 dX4_carry_13 rfl (lv_at hl 2 rfl) ?_
  refine lX4_6 E hw (by omega) dX4_carry_14 ?_
  refine lv_eqi (y := nI (100)) (hl0) ?_
  refine lv_lookup (off := 63) (tgt := 78) E.1 E.2.1 dX4_carry_15 (by decide) (by decide) (by decide) ?_
  refine lv_aload_n E.1 E.2.1 dX4_carry_78 rfl (lv_at hl 1 rfl) ?_
  refine lv_iload_n E.1 E.2.1 dX4_carry_79 rfl (lv_at hl 0 rfl) ?_
  refine callVI E (c_X4_deliver_bad l G a N x (nI v) hI.1.1 (fun z => hp ((nI_ltI (by omega) (by have := hI.1.1; omega)).mp z.2))) mw_31_4 YX4_deliver ⟨rfl, rfl⟩ ⟨Nat.le_of_ble_eq_true rfl, Nat.le_of_ble_eq_true rfl⟩ ⟨Nat.zero_le _, Nat.zero_le _⟩ hw 0 rfl rfl rfl hl rfl (Nat.le_of_ble_eq_true rfl) dX4_carry_80 (fun H locs hw => ?_)
  exact rI E hr hlk (HB.eq hw (rfl)) (rfl) dX4_carry_83
set_option maxHeartbeats 4000000 in
set_option maxRecDepth 100000 in
theorem c_X4_carry_l (l : Launch) (G : GP) (a : Nat → Nat) (N : NS) (x : MX) (u : Nat) (hu : x.1 0 = nI u) (hu6 : u ≤ 6) (hT : x.1 2 = zb True) (hI : Inv N) (i : Nat) (hi : i + 2 < 180) (v w : Nat) (hv : x.2 5 (i + 1) = nI v) (hl0 : x.2 5 i = nI 108) (hp : v < N 6) : MI l yX4_carry (.code yX4_carry cX4_carry 3 (some .int) :: GW) ({ frames := 6, cells := 0, slots := 0, locals := 160 }) [.ref (a 0), .int (nI (i))] G ES (mN G a (N) (x)) (mN G a (mLose v N) (x)) (nI (mLose v N 6)) := by
  refine MI.of (own := RX4) rfl rfl (Nat.le_of_ble_eq_true rfl) ?_
  intro pP eE sS mM below meth cC ls AA E hw hl hr hlk hE
  replace hl : lv_has ls 3 [(0, .ref (a 0)), (1, .int (nI (i)))] := hl
  refine lv_aload_n E.1 E.2.1 dX4_carry_0 rfl (lv_at hl 0 rfl) ?_
  refine gX4_9 E hw mw_3_15 dX4_carry_1 ?_
  refine lv_iload_n E.1 E.2.1 dX4_carry_4 rfl (lv_at hl 1 rfl) ?_
  refine lv_iconst (v := nI 1) E.1 E.2.1 dX4_carry_5 (by decide) ?_
  refine lv_addN E.1 E.2.1 dX4_carry_6 ?_
  refine lX4_6 E hw (by omega) dX4_carry_7 ?_
  refine lv_eqi (y := nI (v)) (hv) ?_
  refine lv_istore_n (lv' := [(2, .int (nI (v))), (0, .ref (a 0)), (1, .int (nI (i)))]) E.1 E.2.1 dX4_carry_8 rfl hl (by decide) rfl (fun ls hl => ?_)
  refine lv_aload_n E.1 E.2.1 dX4_carry_9 rfl (lv_at hl 1 rfl) ?_
  refine gX4_9 E hw mw_3_15 dX4_carry_10 ?_
  refine lv_iload_n E.1 E.2.1 dX4_carry_13 rfl (lv_at hl 2 rfl) ?_
  refine lX4_6 E hw (by omega) dX4_carry_14 ?_
  refine lv_eqi (y := nI (108)) (hl0) ?_
  refine lv_lookup (off := 69) (tgt := 84) E.1 E.2.1 dX4_carry_15 (by decide) (by decide) (by decide) ?_
  refine lv_aload_n E.1 E.2.1 dX4_carry_84 rfl (lv_at hl 1 rfl) ?_
  refine lv_iload_n E.1 E.2.1 dX4_carry_85 rfl (lv_at hl 0 rfl) ?_
  refine callVI E (c_X4_lose_ok l G a N x u True hu hT hu6 v hp hI.1) mw_31_5 YX4_lose ⟨rfl, rfl⟩ ⟨Nat.le_of_ble_eq_true rfl, Nat.le_of_ble_eq_true rfl⟩ ⟨Nat.zero_le _, Nat.zero_le _⟩ hw 0 rfl rfl rfl hl rfl (Nat.le_of_ble_eq_true rfl) dX4_carry_86 (fun H locs hw => ?_)
  exact rI E hr hlk (HB.eq hw (by rw [rcd_in hT])) (rfl) dX4_carry_89
set_option maxHeartbeats 4000000 in
set_option maxRecDepth 100000 in
theorem c_X4_carry_lb (l : Launch) (G : GP) (a : Nat → Nat) (N : NS) (x : MX) (u : Nat) (hu : x.1 0 = nI u) (hu6 : u ≤ 6) (hT : x.1 2 = zb True) (hI : Inv N) (i : Nat) (hi : i + 2 < 180) (v w : Nat) (hv : x.2 5 (i + 1) = nI v) (hl0 : x.2 5 i = nI 108) (hp : ¬ v < N 6) (hv9 : v ≤ 99) : MI l yX4_carry (.code yX4_carry cX4_carry 3 (some .int) :: GW) ({ frames := 6, cells := 0, slots := 0, locals := 160 }) [.ref (a 0), .int (nI (i))] G ES (mN G a (N) (x)) (mN G a (N) (x)) (-1) := by
  refine MI.of (own := RX4) rfl rfl (Nat.le_of_ble_eq_true rfl) ?_
  intro pP eE sS mM below meth cC ls AA E hw hl hr hlk hE
  replace hl : lv_has ls 3 [(0, .ref (a 0)), (1, .int (nI (i)))] := hl
  refine lv_aload_n E.1 E.2.1 dX4_carry_0 rfl (lv_at hl 0 rfl) ?_
  refine gX4_9 E hw mw_3_15 dX4_carry_1 ?_
  refine lv_iload_n E.1 E.2.1 dX4_carry_4 rfl (lv_at hl 1 rfl) ?_
  refine lv_iconst (v := nI 1) E.1 E.2.1 dX4_carry_5 (by decide) ?_
  refine lv_addN E.1 E.2.1 dX4_carry_6 ?_
  refine lX4_6 E hw (by omega) dX4_carry_7 ?_
  refine lv_eqi (y := nI (v)) (hv) ?_
  refine lv_istore_n (lv' := [(2, .int (nI (v))), (0, .ref (a 0)), (1, .int (nI (i)))]) E.1 E.2.1 dX4_carry_8 rfl hl (by decide) rfl (fun ls hl => ?_)
  refine lv_aload_n E.1 E.2.1 dX4_carry_9 rfl (lv_at hl 1 rfl) ?_
  refine gX4_9 E hw mw_3_15 dX4_carry_10 ?_
  refine lv_iload_n E.1 E.2.1 dX4_carry_13 rfl (lv_at hl 2 rfl) ?_
  refine lX4_6 E hw (by omega) dX4_carry_14 ?_
  refine lv_eqi (y := nI (108)) (hl0) ?_
  refine lv_lookup (off := 69) (tgt := 84) E.1 E.2.1 dX4_carry_15 (by decide) (by decide) (by decide) ?_
  refine lv_aload_n E.1 E.2.1 dX4_carry_84 rfl (lv_at hl 1 rfl) ?_
  refine lv_iload_n E.1 E.2.1 dX4_carry_85 rfl (lv_at hl 0 rfl) ?_
  refine callVI E (c_X4_lose_bad l G a N x (nI v) hI.1.1 (fun z => hp ((nI_ltI (by omega) (by have := hI.1.1; omega)).mp z.2))) mw_31_5 YX4_lose ⟨rfl, rfl⟩ ⟨Nat.le_of_ble_eq_true rfl, Nat.le_of_ble_eq_true rfl⟩ ⟨Nat.zero_le _, Nat.zero_le _⟩ hw 0 rfl rfl rfl hl rfl (Nat.le_of_ble_eq_true rfl) dX4_carry_86 (fun H locs hw => ?_)
  exact rI E hr hlk (HB.eq hw (rfl)) (rfl) dX4_carry_89
set_option maxHeartbeats 4000000 in
set_option maxRecDepth 100000 in
theorem c_X4_carry_r (l : Launch) (G : GP) (a : Nat → Nat) (N : NS) (x : MX) (u : Nat) (hu : x.1 0 = nI u) (hu6 : u ≤ 6) (hT : x.1 2 = zb True) (hI : Inv N) (i : Nat) (hi : i + 2 < 180) (v w : Nat) (hv : x.2 5 (i + 1) = nI v) (hl0 : x.2 5 i = nI 114) (hv5 : v < 5) : MI l yX4_carry (.code yX4_carry cX4_carry 3 (some .int) :: GW) ({ frames := 6, cells := 0, slots := 0, locals := 160 }) [.ref (a 0), .int (nI (i))] G ES (mN G a (N) (x)) (mN G a (nRis v N) (x)) (rRis v N) := by
  refine MI.of (own := RX4) rfl rfl (Nat.le_of_ble_eq_true rfl) ?_
  intro pP eE sS mM below meth cC ls AA E hw hl hr hlk hE
  replace hl : lv_has ls 3 [(0, .ref (a 0)), (1, .int (nI (i)))] := hl
  refine lv_aload_n E.1 E.2.1 dX4_carry_0 rfl (lv_at hl 0 rfl) ?_
  refine gX4_9 E hw mw_3_15 dX4_carry_1 ?_
  refine lv_iload_n E.1 E.2.1 dX4_carry_4 rfl (lv_at hl 1 rfl) ?_
  refine lv_iconst (v := nI 1) E.1 E.2.1 dX4_carry_5 (by decide) ?_
  refine lv_addN E.1 E.2.1 dX4_carry_6 ?_
  refine lX4_6 E hw (by omega) dX4_carry_7 ?_
  refine lv_eqi (y := nI (v)) (hv) ?_
  refine lv_istore_n (lv' := [(2, .int (nI (v))), (0, .ref (a 0)), (1, .int (nI (i)))]) E.1 E.2.1 dX4_carry_8 rfl hl (by decide) rfl (fun ls hl => ?_)
  refine lv_aload_n E.1 E.2.1 dX4_carry_9 rfl (lv_at hl 1 rfl) ?_
  refine gX4_9 E hw mw_3_15 dX4_carry_10 ?_
  refine lv_iload_n E.1 E.2.1 dX4_carry_13 rfl (lv_at hl 2 rfl) ?_
  refine lX4_6 E hw (by omega) dX4_carry_14 ?_
  refine lv_eqi (y := nI (114)) (hl0) ?_
  refine lv_lookup (off := 81) (tgt := 96) E.1 E.2.1 dX4_carry_15 (by decide) (by decide) (by decide) ?_
  refine lv_aload_n E.1 E.2.1 dX4_carry_96 rfl (lv_at hl 1 rfl) ?_
  refine lv_iload_n E.1 E.2.1 dX4_carry_97 rfl (lv_at hl 0 rfl) ?_
  refine callVI E (c_X4_rise_ok l G a N x u True hu hT hu6 v hv5 hI.1) mw_31_7 YX4_rise ⟨rfl, rfl⟩ ⟨Nat.le_of_ble_eq_true rfl, Nat.le_of_ble_eq_true rfl⟩ ⟨Nat.zero_le _, Nat.zero_le _⟩ hw 0 rfl rfl rfl hl rfl (Nat.le_of_ble_eq_true rfl) dX4_carry_98 (fun H locs hw => ?_)
  exact rI E hr hlk (HB.eq hw (by rw [rcd_in hT, ite_self])) (rfl) dX4_carry_101
set_option maxHeartbeats 4000000 in
set_option maxRecDepth 100000 in
theorem c_X4_carry_x (l : Launch) (G : GP) (a : Nat → Nat) (N : NS) (x : MX) (u : Nat) (hu : x.1 0 = nI u) (hu6 : u ≤ 6) (hT : x.1 2 = zb True) (hI : Inv N) (i : Nat) (hi : i + 2 < 180) (v w : Nat) (hv : x.2 5 (i + 1) = nI v) (hl0 : x.2 5 i = nI 120) (hv5 : v < 5) : MI l yX4_carry (.code yX4_carry cX4_carry 3 (some .int) :: GW) ({ frames := 6, cells := 0, slots := 0, locals := 160 }) [.ref (a 0), .int (nI (i))] G ES (mN G a (N) (x)) (mN G a (nFal v N) (x)) (rFal v N) := by
  refine MI.of (own := RX4) rfl rfl (Nat.le_of_ble_eq_true rfl) ?_
  intro pP eE sS mM below meth cC ls AA E hw hl hr hlk hE
  replace hl : lv_has ls 3 [(0, .ref (a 0)), (1, .int (nI (i)))] := hl
  refine lv_aload_n E.1 E.2.1 dX4_carry_0 rfl (lv_at hl 0 rfl) ?_
  refine gX4_9 E hw mw_3_15 dX4_carry_1 ?_
  refine lv_iload_n E.1 E.2.1 dX4_carry_4 rfl (lv_at hl 1 rfl) ?_
  refine lv_iconst (v := nI 1) E.1 E.2.1 dX4_carry_5 (by decide) ?_
  refine lv_addN E.1 E.2.1 dX4_carry_6 ?_
  refine lX4_6 E hw (by omega) dX4_carry_7 ?_
  refine lv_eqi (y := nI (v)) (hv) ?_
  refine lv_istore_n (lv' := [(2, .int (nI (v))), (0, .ref (a 0)), (1, .int (nI (i)))]) E.1 E.2.1 dX4_carry_8 rfl hl (by decide) rfl (fun ls hl => ?_)
  refine lv_aload_n E.1 E.2.1 dX4_carry_9 rfl (lv_at hl 1 rfl) ?_
  refine gX4_9 E hw mw_3_15 dX4_carry_10 ?_
  refine lv_iload_n E.1 E.2.1 dX4_carry_13 rfl (lv_at hl 2 rfl) ?_
  refine lX4_6 E hw (by omega) dX4_carry_14 ?_
  refine lv_eqi (y := nI (120)) (hl0) ?_
  refine lv_lookup (off := 75) (tgt := 90) E.1 E.2.1 dX4_carry_15 (by decide) (by decide) (by decide) ?_
  refine lv_aload_n E.1 E.2.1 dX4_carry_90 rfl (lv_at hl 1 rfl) ?_
  refine lv_iload_n E.1 E.2.1 dX4_carry_91 rfl (lv_at hl 0 rfl) ?_
  refine callVI E (c_X4_fall_ok l G a N x u True hu hT hu6 v hv5 hI.1) mw_31_6 YX4_fall ⟨rfl, rfl⟩ ⟨Nat.le_of_ble_eq_true rfl, Nat.le_of_ble_eq_true rfl⟩ ⟨Nat.zero_le _, Nat.zero_le _⟩ hw 0 rfl rfl rfl hl rfl (Nat.le_of_ble_eq_true rfl) dX4_carry_92 (fun H locs hw => ?_)
  exact rI E hr hlk (HB.eq hw (by rw [rcd_in hT, ite_self])) (rfl) dX4_carry_95
set_option maxHeartbeats 4000000 in
set_option maxRecDepth 100000 in
theorem c_X4_carry_w (l : Launch) (G : GP) (a : Nat → Nat) (N : NS) (x : MX) (u : Nat) (hu : x.1 0 = nI u) (hu6 : u ≤ 6) (hT : x.1 2 = zb True) (hI : Inv N) (i : Nat) (hi : i + 2 < 180) (v w : Nat) (hv : x.2 5 (i + 1) = nI v) (hl0 : x.2 5 i = nI 119) (hv4 : v < 4) (hw1 : w ≤ 1) (hw2 : x.2 5 (i + 2) = nI w) : MI l yX4_carry (.code yX4_carry cX4_carry 3 (some .int) :: GW) ({ frames := 6, cells := 0, slots := 0, locals := 160 }) [.ref (a 0), .int (nI (i))] G ES (mN G a (N) (x)) (mN G a (un N (15 + v) w) (x)) (nI (N (15 + v))) := by
  refine MI.of (own := RX4) rfl rfl (Nat.le_of_ble_eq_true rfl) ?_
  intro pP eE sS mM below meth cC ls AA E hw hl hr hlk hE
  replace hl : lv_has ls 3 [(0, .ref (a 0)), (1, .int (nI (i)))] := hl
  refine lv_aload_n E.1 E.2.1 dX4_carry_0 rfl (lv_at hl 0 rfl) ?_
  refine gX4_9 E hw mw_3_15 dX4_carry_1 ?_
  refine lv_iload_n E.1 E.2.1 dX4_carry_4 rfl (lv_at hl 1 rfl) ?_
  refine lv_iconst (v := nI 1) E.1 E.2.1 dX4_carry_5 (by decide) ?_
  refine lv_addN E.1 E.2.1 dX4_carry_6 ?_
  refine lX4_6 E hw (by omega) dX4_carry_7 ?_
  refine lv_eqi (y := nI (v)) (hv) ?_
  refine lv_istore_n (lv' := [(2, .int (nI (v))), (0, .ref (a 0)), (1, .int (nI (i)))]) E.1 E.2.1 dX4_carry_8 rfl hl (by decide) rfl (fun ls hl => ?_)
  refine lv_aload_n E.1 E.2.1 dX4_carry_9 rfl (lv_at hl 1 rfl) ?_
  refine gX4_9 E hw mw_3_15 dX4_carry_10 ?_
  refine lv_iload_n E.1 E.2.1 dX4_carry_13 rfl (lv_at hl 2 rfl) ?_
  refine lX4_6 E hw (by omega) dX4_carry_14 ?_
  refine lv_eqi (y := nI (119)) (hl0) ?_
  refine lv_lookup (off := 87) (tgt := 102) E.1 E.2.1 dX4_carry_15 (by decide) (by decide) (by decide) ?_
  refine lv_aload_n E.1 E.2.1 dX4_carry_102 rfl (lv_at hl 1 rfl) ?_
  refine lv_iload_n E.1 E.2.1 dX4_carry_103 rfl (lv_at hl 0 rfl) ?_
  refine lv_aload_n E.1 E.2.1 dX4_carry_104 rfl (lv_at hl 1 rfl) ?_
  refine gX4_9 E hw mw_3_15 dX4_carry_105 ?_
  refine lv_iload_n E.1 E.2.1 dX4_carry_108 rfl (lv_at hl 2 rfl) ?_
  refine lv_iconst (v := nI 2) E.1 E.2.1 dX4_carry_109 (by decide) ?_
  refine lv_addN E.1 E.2.1 dX4_carry_110 ?_
  refine lX4_6 E hw (by omega) dX4_carry_111 ?_
  refine lv_eqi (y := nI (w)) (hw2) ?_
  refine callVI E (c_X4_willing_ok l G a N x u True hu hT hu6 v w hv4 hw1) mw_31_8 YX4_willing ⟨rfl, rfl⟩ ⟨Nat.le_of_ble_eq_true rfl, Nat.le_of_ble_eq_true rfl⟩ ⟨Nat.zero_le _, Nat.zero_le _⟩ hw 0 rfl rfl rfl hl rfl (Nat.le_of_ble_eq_true rfl) dX4_carry_112 (fun H locs hw => ?_)
  exact rI E hr hlk (HB.eq hw (by rw [rcd_in hT])) (rfl) dX4_carry_115
set_option maxHeartbeats 4000000 in
set_option maxRecDepth 100000 in
theorem c_X4_carry_t (l : Launch) (G : GP) (a : Nat → Nat) (N : NS) (x : MX) (u : Nat) (hu : x.1 0 = nI u) (hu6 : u ≤ 6) (hT : x.1 2 = zb True) (hI : Inv N) (i : Nat) (hi : i + 2 < 180) (v w : Nat) (hv : x.2 5 (i + 1) = nI v) (hl0 : x.2 5 i = nI 116) (hvt : 1 ≤ v ∧ v ≤ 100) : MI l yX4_carry (.code yX4_carry cX4_carry 3 (some .int) :: GW) ({ frames := 6, cells := 0, slots := 0, locals := 160 }) [.ref (a 0), .int (nI (i))] G ES (mN G a (N) (x)) (mN G a (mTicks v N) (x)) (nI (mTicks v N 4)) := by
  refine MI.of (own := RX4) rfl rfl (Nat.le_of_ble_eq_true rfl) ?_
  intro pP eE sS mM below meth cC ls AA E hw hl hr hlk hE
  replace hl : lv_has ls 3 [(0, .ref (a 0)), (1, .int (nI (i)))] := hl
  refine lv_aload_n E.1 E.2.1 dX4_carry_0 rfl (lv_at hl 0 rfl) ?_
  refine gX4_9 E hw mw_3_15 dX4_carry_1 ?_
  refine lv_iload_n E.1 E.2.1 dX4_carry_4 rfl (lv_at hl 1 rfl) ?_
  refine lv_iconst (v := nI 1) E.1 E.2.1 dX4_carry_5 (by decide) ?_
  refine lv_addN E.1 E.2.1 dX4_carry_6 ?_
  refine lX4_6 E hw (by omega) dX4_carry_7 ?_
  refine lv_eqi (y := nI (v)) (hv) ?_
  refine lv_istore_n (lv' := [(2, .int (nI (v))), (0, .ref (a 0)), (1, .int (nI (i)))]) E.1 E.2.1 dX4_carry_8 rfl hl (by decide) rfl (fun ls hl => ?_)
  refine lv_aload_n E.1 E.2.1 dX4_carry_9 rfl (lv_at hl 1 rfl) ?_
  refine gX4_9 E hw mw_3_15 dX4_carry_10 ?_
  refine lv_iload_n E.1 E.2.1 dX4_carry_13 rfl (lv_at hl 2 rfl) ?_
  refine lX4_6 E hw (by omega) dX4_carry_14 ?_
  refine lv_eqi (y := nI (116)) (hl0) ?_
  refine lv_lookup (off := 101) (tgt := 116) E.1 E.2.1 dX4_carry_15 (by decide) (by decide) (by decide) ?_
  refine lv_aload_n E.1 E.2.1 dX4_carry_116 rfl (lv_at hl 1 rfl) ?_
  refine lv_iload_n E.1 E.2.1 dX4_carry_117 rfl (lv_at hl 0 rfl) ?_
  refine callVI E (c_X4_ticks_ok l G a N x u True hu hT hu6 v hvt hI.1) mw_31_9 YX4_ticks ⟨rfl, rfl⟩ ⟨Nat.le_of_ble_eq_true rfl, Nat.le_of_ble_eq_true rfl⟩ ⟨Nat.zero_le _, Nat.zero_le _⟩ hw 0 rfl rfl rfl hl rfl (Nat.le_of_ble_eq_true rfl) dX4_carry_118 (fun H locs hw => ?_)
  exact rI E hr hlk (HB.eq hw (by rw [rcd_in hT])) (rfl) dX4_carry_121
set_option maxHeartbeats 4000000 in
set_option maxRecDepth 100000 in
theorem c_X4_carry_tb (l : Launch) (G : GP) (a : Nat → Nat) (N : NS) (x : MX) (u : Nat) (hu : x.1 0 = nI u) (hu6 : u ≤ 6) (hT : x.1 2 = zb True) (hI : Inv N) (i : Nat) (hi : i + 2 < 180) (v w : Nat) (hv : x.2 5 (i + 1) = nI v) (hl0 : x.2 5 i = nI 116) (hv0 : v = 0) : MI l yX4_carry (.code yX4_carry cX4_carry 3 (some .int) :: GW) ({ frames := 6, cells := 0, slots := 0, locals := 160 }) [.ref (a 0), .int (nI (i))] G ES (mN G a (N) (x)) (mN G a (N) (x)) (-2) := by
  refine MI.of (own := RX4) rfl rfl (Nat.le_of_ble_eq_true rfl) ?_
  intro pP eE sS mM below meth cC ls AA E hw hl hr hlk hE
  replace hl : lv_has ls 3 [(0, .ref (a 0)), (1, .int (nI (i)))] := hl
  refine lv_aload_n E.1 E.2.1 dX4_carry_0 rfl (lv_at hl 0 rfl) ?_
  refine gX4_9 E hw mw_3_15 dX4_carry_1 ?_
  refine lv_iload_n E.1 E.2.1 dX4_carry_4 rfl (lv_at hl 1 rfl) ?_
  refine lv_iconst (v := nI 1) E.1 E.2.1 dX4_carry_5 (by decide) ?_
  refine lv_addN E.1 E.2.1 dX4_carry_6 ?_
  refine lX4_6 E hw (by omega) dX4_carry_7 ?_
  refine lv_eqi (y := nI (v)) (hv) ?_
  refine lv_istore_n (lv' := [(2, .int (nI (v))), (0, .ref (a 0)), (1, .int (nI (i)))]) E.1 E.2.1 dX4_carry_8 rfl hl (by decide) rfl (fun ls hl => ?_)
  refine lv_aload_n E.1 E.2.1 dX4_carry_9 rfl (lv_at hl 1 rfl) ?_
  refine gX4_9 E hw mw_3_15 dX4_carry_10 ?_
  refine lv_iload_n E.1 E.2.1 dX4_carry_13 rfl (lv_at hl 2 rfl) ?_
  refine lX4_6 E hw (by omega) dX4_carry_14 ?_
  refine lv_eqi (y := nI (116)) (hl0) ?_
  refine lv_lookup (off := 101) (tgt := 116) E.1 E.2.1 dX4_carry_15 (by decide) (by decide) (by decide) ?_
  refine lv_aload_n E.1 E.2.1 dX4_carry_116 rfl (lv_at hl 1 rfl) ?_
  refine lv_iload_n E.1 E.2.1 dX4_carry_117 rfl (lv_at hl 0 rfl) ?_
  refine callVI E (c_X4_ticks_bad l G a N x (nI v) (by rw [hv0]; decide)) mw_31_9 YX4_ticks ⟨rfl, rfl⟩ ⟨Nat.le_of_ble_eq_true rfl, Nat.le_of_ble_eq_true rfl⟩ ⟨Nat.zero_le _, Nat.zero_le _⟩ hw 0 rfl rfl rfl hl rfl (Nat.le_of_ble_eq_true rfl) dX4_carry_118 (fun H locs hw => ?_)
  exact rI E hr hlk (HB.eq hw (rfl)) (rfl) dX4_carry_121
theorem c_X4_carry (l : Launch) (G : GP) (a : Nat → Nat) (N : NS) (x : MX) (u : Nat) (hu : x.1 0 = nI u) (hu6 : u ≤ 6) (hT : x.1 2 = zb True) (hI : Inv N) (i : Nat) (hi : i + 2 < 180) (o : OQ) (ho : okO o) (h0 : x.2 5 i = nI o.1) (h1 : x.2 5 (i + 1) = nI o.2.1) (h2 : o.1 = 119 → x.2 5 (i + 2) = nI o.2.2) : MI l yX4_carry (.code yX4_carry cX4_carry 3 (some .int) :: GW) { frames := 6, cells := 0, slots := 0, locals := 160 } [.ref (a 0), .int (nI i)] G ES (mN G a N x) (mN G a (nO o N) x) (rO o N) := by
  obtain ⟨c, v, w⟩ := o
  unfold okO at ho
  simp only [] at ho h0 h1 h2
  by_cases k1 : c = 111
  · subst k1
    exact c_X4_carry_o l G a N x u hu hu6 hT hI i hi v w h1 h0 (by omega)
  by_cases k2 : c = 100
  · subst k2
    by_cases q : v < N 6
    · have := c_X4_carry_d l G a N x u hu hu6 hT hI i hi v w h1 h0 q
      simpa only [nO, rO, Nat.reduceEqDiff, reduceIte, q] using this
    · have := c_X4_carry_db l G a N x u hu hu6 hT hI i hi v w h1 h0 q (by omega)
      simpa only [nO, rO, Nat.reduceEqDiff, reduceIte, q] using this
  by_cases k3 : c = 108
  · subst k3
    by_cases q : v < N 6
    · have := c_X4_carry_l l G a N x u hu hu6 hT hI i hi v w h1 h0 q
      simpa only [nO, rO, Nat.reduceEqDiff, reduceIte, q] using this
    · have := c_X4_carry_lb l G a N x u hu hu6 hT hI i hi v w h1 h0 q (by omega)
      simpa only [nO, rO, Nat.reduceEqDiff, reduceIte, q] using this
  by_cases k4 : c = 114
  · subst k4
    exact c_X4_carry_r l G a N x u hu hu6 hT hI i hi v w h1 h0 (by omega)
  by_cases k5 : c = 120
  · subst k5
    exact c_X4_carry_x l G a N x u hu hu6 hT hI i hi v w h1 h0 (by omega)
  by_cases k6 : c = 119
  · subst k6
    exact c_X4_carry_w l G a N x u hu hu6 hT hI i hi v w h1 h0 (by omega) (by omega) (h2 rfl)
  obtain rfl : c = 116 := by omega
  by_cases q : v = 0
  · have := c_X4_carry_tb l G a N x u hu hu6 hT hI i hi v w h1 h0 q
    simpa only [nO, rO, Nat.reduceEqDiff, reduceIte, q] using this
  · have := c_X4_carry_t l G a N x u hu hu6 hT hI i hi v w h1 h0 (by omega)
    simpa only [nO, rO, Nat.reduceEqDiff, reduceIte, q] using this

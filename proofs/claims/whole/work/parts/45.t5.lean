/-- the orders end at ks: there they all are carried, or the one at ks is refused -/
def endO (OR : Nat → OQ) (N : NS) (r ks : Nat) : Prop := ks ≤ r ∧ (∀ j, j < ks → ¬ rO (OR j) (xN OR N j) < 0) ∧ (ks = r ∨ rO (OR ks) (xN OR N ks) < 0)
def finO (OR : Nat → OQ) (N : NS) (r ks : Nat) : NS := if ks = r then xN OR N ks else xN OR N (ks + 1)
theorem Inv.aX {OR : Nat → OQ} {N : NS} {r : Nat} (h : Inv N) (ho : ∀ j, j < r → okO (OR j)) : ∀ j, j ≤ r → Inv (xN OR N j)
  | 0, _ => h
  | j + 1, hj => (Inv.aX h ho j (by omega)).aO (ho j (by omega))
theorem endO.up {OR : Nat → OQ} {N : NS} {r ks j : Nat} (h : endO OR N r ks) (hj : j ≤ ks) (hr : j < r) (hn : ¬ rO (OR j) (xN OR N j) < 0) : j + 1 ≤ ks := by
  obtain ⟨h1, h2, h3⟩ := h
  rcases Nat.lt_or_ge j ks with q | q
  · exact q
  · obtain rfl : j = ks := by omega
    rcases h3 with z | z
    · omega
    · exact absurd z hn
theorem endO.st {OR : Nat → OQ} {N : NS} {r ks j : Nat} (h : endO OR N r ks) (hj : j ≤ ks) (hr : j < r) (hn : rO (OR j) (xN OR N j) < 0) : j = ks ∧ finO OR N r ks = xN OR N (j + 1) := by
  obtain ⟨h1, h2, h3⟩ := h
  rcases Nat.lt_or_ge j ks with q | q
  · exact absurd hn (h2 j q)
  · obtain rfl : j = ks := by omega
    exact ⟨rfl, if_neg (by omega)⟩
theorem endO.en {OR : Nat → OQ} {N : NS} {r ks j : Nat} (h : endO OR N r ks) (hj : j ≤ ks) (hr : ¬ j < r) : j = ks ∧ finO OR N r ks = xN OR N j := by
  obtain ⟨h1, h2, h3⟩ := h
  obtain rfl : j = ks := by omega
  exact ⟨rfl, if_pos (by omega)⟩
theorem endO_ex (OR : Nat → OQ) (N : NS) (r : Nat) : ∃ ks, endO OR N r ks := by
  obtain ⟨k, h1, h2⟩ := pk_least (fun m => m = r ∨ rO (OR m) (xN OR N m) < 0) ⟨r, Or.inl rfl⟩
  refine ⟨k, ?_, fun j hj z => h2 j hj (Or.inr z), h1⟩
  rcases Nat.lt_or_ge r k with q | q
  · exact absurd (Or.inl rfl) (h2 r q)
  · exact q
theorem nI_no6 {k : Nat} (h : k ≤ 60) : ¬ nI k = -6 := fun z => by
  have := congrArg Int32.toInt z
  rw [nI_toInt (by omega), show (-6 : Int32).toInt = -6 by decide] at this
  omega
theorem rcd_u {u : Nat} {N : NS} {x : MX} (h : x.1 0 = nI u) (h6 : u ≤ 6) : ∃ u2 : Nat, u2 ≤ 6 ∧ (rcd u N x).1 0 = nI u2 := by
  unfold rcd
  split
  · exact ⟨if u = 6 then 6 else u + 1, by split <;> omega, rfl⟩
  · exact ⟨u, h6, h⟩
theorem YX4_carryOut : YV yX4_carryOut RX4 cX4_carryOut 2 (some .int) 0 := ⟨mw_30_20, mw_30_21, mw_1_5, mw_30_22, by decide +kernel⟩
set_option maxHeartbeats 4000000 in
set_option maxRecDepth 100000 in
theorem c_X4_carryOut_bad (l : Launch) (G : GP) (a : Nat → Nat) (N : NS) (x : MX) (C : Nat → Nat) (n : Nat) (hPd : PadM x C n) (r p w : Int32) (O : Nat → Int32) (h : ¬ (fF C n O).2.2.1 = 0) (hpl : (fF C n O).2.1 ≤ 60) : MI l yX4_carryOut (.code yX4_carryOut cX4_carryOut 2 (some .int) :: GW) ({ frames := 8, cells := 0, slots := 0, locals := 300 }) [.ref (a 0)] G ES (mN G a (N) (tX (r) (p) (w) (O) x)) (mN G a (N) (tX (nI ((fF C n O).1)) (nI ((fF C n O).2.1)) (nI ((fF C n O).2.2.1)) ((fF C n O).2.2.2) x)) (-3) := by
  refine MI.of (own := RX4) rfl rfl (Nat.le_of_ble_eq_true rfl) ?_
  intro pP eE sS mM below meth cC ls AA E hw hl hr hlk hE
  replace hl : lv_has ls 2 [(0, .ref (a 0))] := hl
  have hn6 := hPd.2.1
  have hsl := fun i => hPd.lt i
  refine lv_aload_n E.1 E.2.1 dX4_carryOut_0 rfl (lv_at hl 0 rfl) ?_
  refine callVI E (c_X4_faultOf l G a N x C n hPd (r) (p) (w) (O)) mw_28_21 YX4_faultOf ⟨rfl, rfl⟩ ⟨Nat.le_of_ble_eq_true rfl, Nat.le_of_ble_eq_true rfl⟩ ⟨Nat.zero_le _, Nat.zero_le _⟩ hw 0 rfl rfl rfl hl rfl (Nat.le_of_ble_eq_true rfl) dX4_carryOut_1 (fun H locs hw => ?_)
  refine lv_eqi (y := nI ((fF C n O).2.1)) (if_neg h) ?_
  refine lv_bipush (v := -6) E.1 E.2.1 dX4_carryOut_4 (by decide) ?_
  refine lv_icmp_eq (tgt := 12) E.1 E.2.1 dX4_carryOut_6 (by decide) (fun c6 => ?_) (fun c6 => ?_)
  · exact absurd c6 (nI_no6 hpl)
  · skip
    refine lv_bipush (v := -3) E.1 E.2.1 dX4_carryOut_9 (by decide) ?_
    exact rI E hr hlk (HB.eq hw (rfl)) (rfl) dX4_carryOut_11
set_option maxHeartbeats 4000000 in
set_option maxRecDepth 100000 in
theorem c_X4_carryOut_ok (l : Launch) (G : GP) (a : Nat → Nat) (N : NS) (x : MX) (C : Nat → Nat) (n : Nat) (hPd : PadM x C n) (r p w : Int32) (O : Nat → Int32) (h : (fF C n O).2.2.1 = 0) (u : Nat) (hu : x.1 0 = nI u) (hu6 : u ≤ 6) (hT : x.1 2 = zb False) (hI : Inv N) (hr6 : (fF C n O).1 ≤ 60) (OR : Nat → OQ) (ho : ∀ j, j < (fF C n O).1 → okO (OR j)) (hO : ∀ j, j < (fF C n O).1 → (fF C n O).2.2.2 (3 * j) = nI (OR j).1 ∧ (fF C n O).2.2.2 (3 * j + 1) = nI (OR j).2.1 ∧ ((OR j).1 = 119 → (fF C n O).2.2.2 (3 * j + 2) = nI (OR j).2.2)) (ks : Nat) (hks : endO OR N (fF C n O).1 ks) : MI l yX4_carryOut (.code yX4_carryOut cX4_carryOut 2 (some .int) :: GW) ({ frames := 8, cells := 0, slots := 0, locals := 300 }) [.ref (a 0)] G ES (mN G a (N) (tX (r) (p) (w) (O) x)) (mN G a (finO OR N (fF C n O).1 ks) (sx (sx (sx (rcd u N (tX (nI ((fF C n O).1)) (nI ((fF C n O).2.1)) (nI ((fF C n O).2.2.1)) ((fF C n O).2.2.2) x)) 2 (nI 1)) 2 (nI 0)) 1 (nI 0))) (nI ks) := by
  refine MI.of (own := RX4) rfl rfl (Nat.le_of_ble_eq_true rfl) ?_
  intro pP eE sS mM below meth cC ls AA E hw hl hr hlk hE
  replace hl : lv_has ls 2 [(0, .ref (a 0))] := hl
  have hn6 := hPd.2.1
  have hsl := fun i => hPd.lt i
  refine lv_aload_n E.1 E.2.1 dX4_carryOut_0 rfl (lv_at hl 0 rfl) ?_
  refine callVI E (c_X4_faultOf l G a N x C n hPd (r) (p) (w) (O)) mw_28_21 YX4_faultOf ⟨rfl, rfl⟩ ⟨Nat.le_of_ble_eq_true rfl, Nat.le_of_ble_eq_true rfl⟩ ⟨Nat.zero_le _, Nat.zero_le _⟩ hw 0 rfl rfl rfl hl rfl (Nat.le_of_ble_eq_true rfl) dX4_carryOut_1 (fun H locs hw => ?_)
  refine lv_eqi (y := -6) (if_pos h) ?_
  refine lv_bipush (v := -6) E.1 E.2.1 dX4_carryOut_4 (by decide) ?_
  refine lv_icmp_eq (tgt := 12) E.1 E.2.1 dX4_carryOut_6 (by decide) (fun c6 => ?_) (fun c6 => ?_)
  · skip
    refine lv_aload_n E.1 E.2.1 dX4_carryOut_12 rfl (lv_at hl 0 rfl) ?_
    refine callVV E (c_X4_record l G a N (tX (nI ((fF C n O).1)) (nI ((fF C n O).2.1)) (nI ((fF C n O).2.2.1)) ((fF C n O).2.2.2) x) u False hu hT hu6) mw_5_16 YX4_record ⟨rfl, rfl⟩ ⟨Nat.le_of_ble_eq_true rfl, Nat.le_of_ble_eq_true rfl⟩ ⟨Nat.zero_le _, Nat.zero_le _⟩ hw 0 rfl rfl rfl hl rfl (Nat.le_of_ble_eq_true rfl) dX4_carryOut_13 (fun H locs hw => ?_)
    refine lv_aload_n E.1 E.2.1 dX4_carryOut_16 rfl (lv_at hl 0 rfl) ?_
    refine lv_iconst (v := nI 1) E.1 E.2.1 dX4_carryOut_17 (by decide) ?_
    refine pX4_8 E hw mw_5_20 rfl rfl dX4_carryOut_18 (fun H locs hw => ?_)
    refine lv_iconst (v := nI 0) E.1 E.2.1 dX4_carryOut_21 (by decide) ?_
    refine lv_istore_n (lv' := [(1, .int (nI (0))), (0, .ref (a 0))]) E.1 E.2.1 dX4_carryOut_22 rfl hl (by decide) rfl (fun ls hl => ?_)
    obtain ⟨Xc, hXe⟩ : ∃ Xc, Xc = sx (rcd u N (tX (nI ((fF C n O).1)) (nI ((fF C n O).2.1)) (nI ((fF C n O).2.2.1)) ((fF C n O).2.2.2) x)) 2 (nI 1) := ⟨_, rfl⟩
    have hX3 : Xc.1 3 = nI (fF C n O).1 := by rw [hXe]; exact rcd_1k (by decide)
    have hXT : Xc.1 2 = zb True := by rw [hXe]; rfl
    have hu2 : ∃ u2 : Nat, u2 ≤ 6 ∧ (rcd u N (tX (nI ((fF C n O).1)) (nI ((fF C n O).2.1)) (nI ((fF C n O).2.2.1)) ((fF C n O).2.2.2) x)).1 0 = nI u2 := rcd_u hu hu6
    obtain ⟨u2, hu26, hu2e⟩ := hu2
    have hXu : Xc.1 0 = nI u2 := by rw [hXe]; exact hu2e
    have hXo : ∀ i, Xc.2 5 i = (fF C n O).2.2.2 i := fun i => by rw [hXe]; exact congrFun (rcd_2 (by decide)) i
    have hX0 : ∀ j, j < (fF C n O).1 → Xc.2 5 (3 * j) = nI (OR j).1 := fun j hj => (hXo _).trans (hO j hj).1
    have hX1 : ∀ j, j < (fF C n O).1 → Xc.2 5 (3 * j + 1) = nI (OR j).2.1 := fun j hj => (hXo _).trans (hO j hj).2.1
    have hX2 : ∀ j, j < (fF C n O).1 → (OR j).1 = 119 → Xc.2 5 (3 * j + 2) = nI (OR j).2.2 := fun j hj z => (hXo _).trans ((hO j hj).2.2 z)
    have hIx : ∀ j, j ≤ (fF C n O).1 → Inv (xN OR N j) := fun j hj => hI.aX ho j hj
    have hk6 := hks.1
    refine W_ind1 (nL := 2) (P := fun j => j ≤ ks) (μ := fun j => ks - j) (I := fun j => mN G a (xN OR N j) (Xc)) (L := fun j => [(0, .ref (a 0)), (1, .int (nI (j)))]) ?_ (0) (Nat.zero_le _) (HB.eq hw (by rw [hXe]; rfl)) (lvh_eq (l := [(0, .ref (a 0)), (1, .int (nI (0)))]) (lv_sub hl [1, 0] rfl) (rfl))
    intro j hP ih H locs ls hw hl
    replace hw : HB G AA sS.heap (mN G a (xN OR N j) (Xc)) H locs := hw
    replace hl : lv_has ls 2 [(0, .ref (a 0)), (1, .int (nI (j)))] := hl
    refine lv_iload_n E.1 E.2.1 dX4_carryOut_23 rfl (lv_at hl 1 rfl) ?_
    refine lv_aload_n E.1 E.2.1 dX4_carryOut_24 rfl (lv_at hl 0 rfl) ?_
    refine gX4_10 E hw mw_29_2 dX4_carryOut_25 ?_
    refine lv_eqi (y := nI ((fF C n O).1)) (hX3) ?_
    refine lv_icmp_geN (tgt := 47) E.1 E.2.1 (by omega) (by omega) dX4_carryOut_28 (by decide) (fun c28 => ?_) (fun c28 => ?_)
    · skip
      have hke := hks.en hP (by omega)
      refine lv_aload_n E.1 E.2.1 dX4_carryOut_47 rfl (lv_at hl 0 rfl) ?_
      refine lv_iconst (v := nI 0) E.1 E.2.1 dX4_carryOut_48 (by decide) ?_
      refine pX4_8 E hw mw_5_20 rfl rfl dX4_carryOut_49 (fun H locs hw => ?_)
      refine lv_aload_n E.1 E.2.1 dX4_carryOut_52 rfl (lv_at hl 0 rfl) ?_
      refine lv_iconst (v := nI 0) E.1 E.2.1 dX4_carryOut_53 (by decide) ?_
      refine pX4_7 E hw mw_21_19 dX4_carryOut_54 (fun H locs hw => ?_)
      refine lv_iload_n E.1 E.2.1 dX4_carryOut_57 rfl (lv_at hl 1 rfl) ?_
      exact rI E hr hlk (HB.eq hw (by rw [hke.2, hXe])) (by rw [hke.1]) dX4_carryOut_58
    · skip
      refine lv_aload_n E.1 E.2.1 dX4_carryOut_31 rfl (lv_at hl 0 rfl) ?_
      refine lv_iconst (v := nI 3) E.1 E.2.1 dX4_carryOut_32 (by decide) ?_
      refine lv_iload_n E.1 E.2.1 dX4_carryOut_33 rfl (lv_at hl 1 rfl) ?_
      refine lv_mulN E.1 E.2.1 dX4_carryOut_34 ?_
      refine callVI E (c_X4_carry l G a (xN OR N j) Xc u2 hXu hu26 hXT (hIx j (by omega)) (3 * j) (by omega) (OR j) (ho j (by omega)) (hX0 j (by omega)) (hX1 j (by omega)) (hX2 j (by omega))) mw_30_23 YX4_carry ⟨rfl, rfl⟩ ⟨Nat.le_of_ble_eq_true rfl, Nat.le_of_ble_eq_true rfl⟩ ⟨Nat.zero_le _, Nat.zero_le _⟩ hw 0 rfl rfl rfl hl rfl (Nat.le_of_ble_eq_true rfl) dX4_carryOut_35 (fun H locs hw => ?_)
      refine lv_if_lt (tgt := 47) E.1 E.2.1 dX4_carryOut_38 (by decide) (fun c38 => ?_) (fun c38 => ?_)
      · skip
        have hke := hks.st hP (by omega) c38
        refine lv_aload_n E.1 E.2.1 dX4_carryOut_47 rfl (lv_at hl 0 rfl) ?_
        refine lv_iconst (v := nI 0) E.1 E.2.1 dX4_carryOut_48 (by decide) ?_
        refine pX4_8 E hw mw_5_20 rfl rfl dX4_carryOut_49 (fun H locs hw => ?_)
        refine lv_aload_n E.1 E.2.1 dX4_carryOut_52 rfl (lv_at hl 0 rfl) ?_
        refine lv_iconst (v := nI 0) E.1 E.2.1 dX4_carryOut_53 (by decide) ?_
        refine pX4_7 E hw mw_21_19 dX4_carryOut_54 (fun H locs hw => ?_)
        refine lv_iload_n E.1 E.2.1 dX4_carryOut_57 rfl (lv_at hl 1 rfl) ?_
        exact rI E hr hlk (HB.eq hw (by rw [hke.2, hXe]; rfl)) (by rw [hke.1]) dX4_carryOut_58
      · skip
        refine lv_iincN (k := 1) (lv' := [(1, .int (nI (j + 1))), (0, .ref (a 0))]) E.1 E.2.1 dX4_carryOut_41 hl rfl (by decide) rfl (fun ls hl => ?_)
        refine lv_goto (tgt := 23) E.1 E.2.1 dX4_carryOut_44 (by decide) ?_
        exact ih (j + 1) (hks.up hP (by omega) c38) (by have := hks.up hP (by omega) c38; omega) _ _ _ (HB.eq hw (rfl)) (lvh_eq (l := [(0, .ref (a 0)), (1, .int (nI (j + 1)))]) (lv_sub hl [1, 0] rfl) (rfl))
  · exact absurd c6 (by decide)

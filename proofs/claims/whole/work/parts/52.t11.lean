theorem cE_le {C : Nat → Nat} : ∀ i, cE C i ≤ i
  | 0 => Nat.le_refl _
  | i + 1 => by
    have := cE_le (C := C) i
    rw [cE]
    split <;> omega
theorem jJ_up {C : Nat → Nat} {n i : Nat} (hi : i ≤ n) (h : i = n ∨ C i = 59) : jJ C n (i + 1) = jJ C n i + 1 := by
  unfold jJ
  rw [if_pos hi]
  by_cases q : i + 1 ≤ n
  · rw [if_pos q, cE, if_pos (by rcases h with z | z; omega; exact z)]
  · rw [if_neg q, show i = n by omega]
theorem jJ_st {C : Nat → Nat} {n i : Nat} (hi : i < n) (h : ¬ C i = 59) : jJ C n (i + 1) = jJ C n i := by
  unfold jJ
  rw [if_pos (by omega), if_pos (by omega), cE, if_neg h]
/-- where the reader stands when the orders end at ks -/
def stO (C : Nat → Nat) (n ks iz : Nat) : Prop := iz ≤ n ∧ (ks = cE C n + 1 → iz = n) ∧ (ks < cE C n + 1 → (iz = n ∨ C iz = 59) ∧ cE C iz = ks)
theorem stO_ex {C : Nat → Nat} (n ks : Nat) (h : ks ≤ cE C n + 1) : ∃ iz, stO C n ks iz := by
  by_cases q : ks = cE C n + 1
  · exact ⟨n, Nat.le_refl _, fun _ => rfl, fun z => by omega⟩
  · have key : ∀ m, ks < cE C m → ∃ i, i < m ∧ C i = 59 ∧ cE C i = ks := by
      intro m
      induction m with
      | zero => intro z; exact absurd z (Nat.not_lt_zero _)
      | succ m ih =>
        intro z
        rw [cE] at z
        by_cases h59 : C m = 59
        · rw [if_pos h59] at z
          rcases Nat.lt_or_ge ks (cE C m) with y | y
          · obtain ⟨i, g1, g2, g3⟩ := ih y
            exact ⟨i, by omega, g2, g3⟩
          · exact ⟨m, by omega, h59, by omega⟩
        · rw [if_neg h59] at z
          obtain ⟨i, g1, g2, g3⟩ := ih z
          exact ⟨i, by omega, g2, g3⟩
    rcases Nat.lt_or_ge ks (cE C n) with y | y
    · obtain ⟨i, g1, g2, g3⟩ := key n y
      exact ⟨i, by omega, fun z => by omega, fun _ => ⟨Or.inr g2, g3⟩⟩
    · exact ⟨n, Nat.le_refl _, fun _ => rfl, fun _ => ⟨Or.inl rfl, by omega⟩⟩
theorem YX3_carryOutOrders : YV yX3_carryOutOrders RX3 cX3_carryOutOrders 4 (some .int) 0 := ⟨mw_30_9, mw_30_10, mw_1_2, mw_30_11, by decide +kernel⟩
set_option maxHeartbeats 4000000 in
set_option maxRecDepth 100000 in
theorem c_X3_carryOutOrders (l : Launch) (G : GP) (b : Nat → Nat) (ad : Nat → Nat → Nat) (v pd : Nat → Int32) (Ns : Nat → NS) (s : AS) (hs : rB s) (C : Nat → Nat) (pl : Nat) (hl0 : v 3 = nI pl) (hpl : pl ≤ 60) (hpd : ∀ j, j < pl → pd j = nI (C j)) (hC : ∀ j, j < pl → C j < 127) (OR : Nat → OQ) (hOR : ∀ i, i ≤ pl → (i = pl ∨ C i = 59) → oFit (OR (cE C i)) (rg C s i)) (hI : Inv (Ns 0)) (ks : Nat) (hks : endO OR (Ns 0) (cE C pl + 1) ks) (iz : Nat) (hiz : stO C pl ks iz)  : MI l yX3_carryOutOrders (.code yX3_carryOutOrders cX3_carryOutOrders 4 (some .int) :: GW) ({ frames := 7, cells := 0, slots := 0, locals := 160 }) [.ref (b 0)] G ES (cW G b ad (v) (pd) (rvO (s)) (Ns)) (cW G b ad (v) (pd) (rvO (rg C s iz)) (va_up (Ns) 0 (finO OR (Ns 0) (cE C pl + 1) ks))) (nI ks) := by
  refine MI.of (own := RX3) rfl rfl (Nat.le_of_ble_eq_true rfl) ?_
  intro pP eE sS mM below meth cC ls AA E hw hl hr hlk hE
  replace hl : lv_has ls 4 [(0, .ref (b 0))] := hl
  have hrb := rg_b hC hs
  have hkl := hks.1
  have hor : ∀ j, j < cE C pl + 1 → okO (OR j) := fun j hj => by obtain ⟨iq, g1, g2, g3⟩ := stO_ex (C := C) pl j (by omega); obtain ⟨g4, g5⟩ := g3 hj; rw [← g5]; exact (hOR iq g1 g4).1
  have hIx : ∀ j, j ≤ cE C pl + 1 → Inv (xN OR (Ns 0) j) := fun j hj => hI.aX hor j hj
  have hcn : cE C pl ≤ pl := cE_le pl
  refine lv_iconst (v := nI 0) E.1 E.2.1 dX3_carryOutOrders_0 (by decide) ?_
  refine lv_istore_n (lv' := [(1, .int (nI (0))), (0, .ref (b 0))]) E.1 E.2.1 dX3_carryOutOrders_1 rfl hl (by decide) rfl (fun ls hl => ?_)
  refine lv_aload_n E.1 E.2.1 dX3_carryOutOrders_2 rfl (lv_at hl 1 rfl) ?_
  refine gX3_9 E hw mw_2_1 dX3_carryOutOrders_3 ?_
  refine callVVp E (c_X0_begin l G (b 4) (s).1 (s).2.1 (s).2.2.1 (s).2.2.2 (hs).1 (hs).2) ES.eb (fun _ _ _ => trivial) mw_27_0 YX0_begin ⟨rfl, rfl⟩ ⟨Nat.le_of_ble_eq_true rfl, Nat.le_of_ble_eq_true rfl⟩ ⟨Nat.zero_le _, Nat.zero_le _⟩ hw (cW_o _) (cW_o (rvO (0, (s).2))) 0 rfl rfl rfl hl rfl (Nat.le_of_ble_eq_true rfl) dX3_carryOutOrders_6 (fun H locs hw => ?_)
  refine lv_iconst (v := nI 0) E.1 E.2.1 dX3_carryOutOrders_9 (by decide) ?_
  refine lv_istore_n (lv' := [(2, .int (nI (0))), (1, .int (nI (0))), (0, .ref (b 0))]) E.1 E.2.1 dX3_carryOutOrders_10 rfl hl (by decide) rfl (fun ls hl => ?_)
  refine W_ind1 (nL := 4) (P := fun i => i ≤ pl + 1 ∧ jJ C pl i ≤ ks) (μ := fun i => pl + 1 - i) (I := fun i => cW G b ad (v) (pd) (rvO (rg C s (min i pl))) (va_up (Ns) 0 (xN OR (Ns 0) (jJ C pl i)))) (L := fun i => [(0, .ref (b 0)), (1, .int (nI (jJ C pl i))), (2, .int (nI (i)))]) ?_ (0) (⟨Nat.zero_le _, by rw [show jJ C pl 0 = 0 from if_pos (Nat.zero_le _)]; exact Nat.zero_le _⟩) (HB.eq hw (by rw [show jJ C pl 0 = 0 from if_pos (Nat.zero_le _), Nat.zero_min]; exact congrArg (cW G b ad v pd (rvO (rg C s 0))) va_up_id.symm)) (lvh_eq (l := [(0, .ref (b 0)), (1, .int (nI (0))), (2, .int (nI (0)))]) (lv_sub hl [2, 1, 0] rfl) (by rw [show jJ C pl 0 = 0 from if_pos (Nat.zero_le _)]))
  intro i hP ih H locs ls hw hl
  replace hw : HB G AA sS.heap (cW G b ad (v) (pd) (rvO (rg C s (min i pl))) (va_up (Ns) 0 (xN OR (Ns 0) (jJ C pl i)))) H locs := hw
  replace hl : lv_has ls 4 [(0, .ref (b 0)), (1, .int (nI (jJ C pl i))), (2, .int (nI (i)))] := hl
  obtain ⟨hP1, hP2⟩ := hP
  refine lv_iload_n E.1 E.2.1 dX3_carryOutOrders_11 rfl (lv_at hl 2 rfl) ?_
  refine lv_aload_n E.1 E.2.1 dX3_carryOutOrders_12 rfl (lv_at hl 0 rfl) ?_
  refine gX3_8 E hw mw_21_2 dX3_carryOutOrders_13 ?_
  refine lv_eqi (y := nI (pl)) (hl0) ?_
  refine lv_icmp_gtN (tgt := 88) E.1 E.2.1 (by omega) (by omega) dX3_carryOutOrders_16 (by decide) (fun c16 => ?_) (fun c16 => ?_)
  · skip
    have hin : i = pl + 1 := by omega
    have hjn : jJ C pl i = cE C pl + 1 := by rw [hin]; exact if_neg (by omega)
    rw [hjn] at hP2
    have hke := hks.en (j := cE C pl + 1) hP2 (by omega)
    have hzn := hiz.2.1 hke.1.symm
    have hmn : min i pl = pl := Nat.min_eq_right (by omega)
    refine lv_iload_n E.1 E.2.1 dX3_carryOutOrders_88 rfl (lv_at hl 1 rfl) ?_
    exact rI E hr hlk (HB.eq hw (by rw [hjn, hmn, hke.2, hzn])) (by rw [hjn, hke.1]) dX3_carryOutOrders_89
  · skip
    have hil : i ≤ pl := by omega
    have hjc : jJ C pl i = cE C i := if_pos hil
    have hmi : min i pl = i := Nat.min_eq_left hil
    have hcm := cE_mono (C := C) hil
    rw [hjc] at hP2
    rw [hmi, hjc] at hw
    rw [hjc] at hl
    refine lv_iload_n E.1 E.2.1 dX3_carryOutOrders_19 rfl (lv_at hl 2 rfl) ?_
    refine lv_aload_n E.1 E.2.1 dX3_carryOutOrders_20 rfl (lv_at hl 0 rfl) ?_
    refine gX3_8 E hw mw_21_2 dX3_carryOutOrders_21 ?_
    refine lv_eqi (y := nI (pl)) (hl0) ?_
    refine lv_icmp_eqN (tgt := 38) E.1 E.2.1 (by omega) (by omega) dX3_carryOutOrders_24 (by decide) (fun c24 => ?_) (fun c24 => ?_)
    · skip
      have hie : i = pl ∨ C i = 59 := Or.inl (by omega)
      have hoF := hOR i hil hie
      refine lv_iconst (v := nI 1) E.1 E.2.1 dX3_carryOutOrders_38 (by decide) ?_
      refine lv_goto (tgt := 43) E.1 E.2.1 dX3_carryOutOrders_39 (by decide) ?_
      refine lv_istore_n (lv' := [(3, .int (nI (1))), (0, .ref (b 0)), (1, .int (nI (cE C i))), (2, .int (nI (i)))]) E.1 E.2.1 dX3_carryOutOrders_43 rfl hl (by decide) rfl (fun ls hl => ?_)
      refine lv_iload_n E.1 E.2.1 dX3_carryOutOrders_44 rfl (lv_at hl 0 rfl) ?_
      refine lv_if_eqN (tgt := 60) E.1 E.2.1 (by omega) dX3_carryOutOrders_45 (by decide) (fun c45 => ?_) (fun c45 => ?_)
      · exact absurd c45 (by decide)
      · skip
        refine lv_aload_n E.1 E.2.1 dX3_carryOutOrders_48 rfl (lv_at hl 1 rfl) ?_
        refine callVI E (c_X3_carryOutOrder l G b ad (v) (pd) (rvO (rg C s i)) (va_up (Ns) 0 (xN OR (Ns 0) (cE C i))) (OR (cE C i)) (hoF.1) (hIx (cE C i) (by omega)) (by rw [← hoF.2.1]; rfl) hoF.2.2.1 (fun z => by rw [← hoF.2.2.2 z]; rfl)) mw_30_12 YX3_carryOutOrder ⟨rfl, rfl⟩ ⟨Nat.le_of_ble_eq_true rfl, Nat.le_of_ble_eq_true rfl⟩ ⟨Nat.zero_le _, Nat.zero_le _⟩ hw 0 rfl rfl rfl hl rfl (Nat.le_of_ble_eq_true rfl) dX3_carryOutOrders_49 (fun H locs hw => ?_)
        refine lv_if_ge (tgt := 57) E.1 E.2.1 dX3_carryOutOrders_52 (by decide) (fun c52 => ?_) (fun c52 => ?_)
        · skip
          have hku := hks.up hP2 (by omega) (Int32.not_lt.mpr c52)
          have hj2 : jJ C pl (i + 1) = cE C i + 1 := by rw [jJ_up hil hie, hjc]
          have hj1 : jJ C pl (i + 1) ≤ ks := by rw [hj2]; exact hku
          refine lv_iincN (k := 2) (lv' := [(1, .int (nI (cE C i + 1))), (3, .int (nI (1))), (0, .ref (b 0)), (2, .int (nI (i)))]) E.1 E.2.1 dX3_carryOutOrders_57 hl rfl (by decide) rfl (fun ls hl => ?_)
          refine lv_iload_n E.1 E.2.1 dX3_carryOutOrders_60 rfl (lv_at hl 3 rfl) ?_
          refine lv_aload_n E.1 E.2.1 dX3_carryOutOrders_61 rfl (lv_at hl 2 rfl) ?_
          refine gX3_8 E hw mw_21_2 dX3_carryOutOrders_62 ?_
          refine lv_eqi (y := nI (pl)) (hl0) ?_
          refine lv_icmp_geN (tgt := 82) E.1 E.2.1 (by omega) (by omega) dX3_carryOutOrders_65 (by decide) (fun c65 => ?_) (fun c65 => ?_)
          · skip
            refine lv_iincN (k := 3) (lv' := [(2, .int (nI (i + 1))), (1, .int (nI (cE C i + 1))), (3, .int (nI (1))), (0, .ref (b 0))]) E.1 E.2.1 dX3_carryOutOrders_82 hl rfl (by decide) rfl (fun ls hl => ?_)
            refine lv_goto (tgt := 11) E.1 E.2.1 dX3_carryOutOrders_85 (by decide) ?_
            exact ih (i + 1) (⟨by omega, hj1⟩) (by omega) _ _ _ (HB.eq hw (by rw [show min (i + 1) pl = i by omega, hj2, va_uu]; rfl)) (lvh_eq (l := [(0, .ref (b 0)), (1, .int (nI (cE C i + 1))), (2, .int (nI (i + 1)))]) (lv_sub hl [3, 1, 0] rfl) (by rw [hj2]))
          · exfalso; omega
        · skip
          have hke := hks.st hP2 (by omega) (Int32.not_le.mp c52)
          have hii : i = iz := by obtain ⟨g1, g2, g3⟩ := hiz; obtain ⟨g4, g5⟩ := g3 (by omega); exact cE_inj (n := pl) hie g4 hil g1 (by omega)
          refine lv_iload_n E.1 E.2.1 dX3_carryOutOrders_55 rfl (lv_at hl 2 rfl) ?_
          exact rI E hr hlk (HB.eq hw (by rw [hke.2, ← hii, va_uu]; rfl)) (by rw [hke.1]) dX3_carryOutOrders_56
    · skip
      have hC8 : C i < 127 := hC i (by omega)
      refine lv_aload_n E.1 E.2.1 dX3_carryOutOrders_27 rfl (lv_at hl 0 rfl) ?_
      refine gX3_7 E hw mw_1_21 dX3_carryOutOrders_28 ?_
      refine lv_iload_n E.1 E.2.1 dX3_carryOutOrders_31 rfl (lv_at hl 2 rfl) ?_
      refine lX3_p E hw (by omega) dX3_carryOutOrders_32 ?_
      refine lv_eqi (y := nI (C i)) (hpd i (by omega)) ?_
      refine lv_bipush (v := nI 59) E.1 E.2.1 dX3_carryOutOrders_33 (by decide) ?_
      refine lv_icmp_neN (tgt := 42) E.1 E.2.1 (by omega) (by omega) dX3_carryOutOrders_35 (by decide) (fun c35 => ?_) (fun c35 => ?_)
      · skip
        have hne : ¬ C i = 59 := by omega
        have hj2 : jJ C pl (i + 1) = cE C i := (jJ_st (by omega) hne).trans hjc
        have hj1 : jJ C pl (i + 1) ≤ ks := by rw [hj2]; exact hP2
        refine lv_iconst (v := nI 0) E.1 E.2.1 dX3_carryOutOrders_42 (by decide) ?_
        refine lv_istore_n (lv' := [(3, .int (nI (0))), (0, .ref (b 0)), (1, .int (nI (cE C i))), (2, .int (nI (i)))]) E.1 E.2.1 dX3_carryOutOrders_43 rfl hl (by decide) rfl (fun ls hl => ?_)
        refine lv_iload_n E.1 E.2.1 dX3_carryOutOrders_44 rfl (lv_at hl 0 rfl) ?_
        refine lv_if_eqN (tgt := 60) E.1 E.2.1 (by omega) dX3_carryOutOrders_45 (by decide) (fun c45 => ?_) (fun c45 => ?_)
        · skip
          refine lv_iload_n E.1 E.2.1 dX3_carryOutOrders_60 rfl (lv_at hl 3 rfl) ?_
          refine lv_aload_n E.1 E.2.1 dX3_carryOutOrders_61 rfl (lv_at hl 1 rfl) ?_
          refine gX3_8 E hw mw_21_2 dX3_carryOutOrders_62 ?_
          refine lv_eqi (y := nI (pl)) (hl0) ?_
          refine lv_icmp_geN (tgt := 82) E.1 E.2.1 (by omega) (by omega) dX3_carryOutOrders_65 (by decide) (fun c65 => ?_) (fun c65 => ?_)
          · exfalso; omega
          · skip
            refine lv_aload_n E.1 E.2.1 dX3_carryOutOrders_68 rfl (lv_at hl 1 rfl) ?_
            refine gX3_9 E hw mw_2_1 dX3_carryOutOrders_69 ?_
            refine lv_aload_n E.1 E.2.1 dX3_carryOutOrders_72 rfl (lv_at hl 1 rfl) ?_
            refine gX3_7 E hw mw_1_21 dX3_carryOutOrders_73 ?_
            refine lv_iload_n E.1 E.2.1 dX3_carryOutOrders_76 rfl (lv_at hl 3 rfl) ?_
            refine lX3_p E hw (by omega) dX3_carryOutOrders_77 ?_
            refine lv_eqi (y := nI (C i)) (hpd i (by omega)) ?_
            refine callVIp E (c_X0_takes l G (b 4) (rg C s i).1 (rg C s i).2.1 (rg C s i).2.2.1 (rg C s i).2.2.2 (hrb i (by omega)).1 (hrb i (by omega)).2 (C i) (hC _ (by omega))) ES.eb (fun _ _ _ => trivial) mw_27_5 YX0_takes ⟨rfl, rfl⟩ ⟨Nat.le_of_ble_eq_true rfl, Nat.le_of_ble_eq_true rfl⟩ ⟨Nat.zero_le _, Nat.zero_le _⟩ hw (cW_o _) (cW_o (rvO ((tk (rg C s i) (C i)).getD (rg C s i)))) 0 rfl rfl rfl hl rfl (Nat.le_of_ble_eq_true rfl) dX3_carryOutOrders_78 (fun H locs hw => ?_)
            refine lv_pop E.1 E.2.1 dX3_carryOutOrders_81 rfl ?_
            refine lv_iincN (k := 3) (lv' := [(2, .int (nI (i + 1))), (3, .int (nI (0))), (0, .ref (b 0)), (1, .int (nI (cE C i)))]) E.1 E.2.1 dX3_carryOutOrders_82 hl rfl (by decide) rfl (fun ls hl => ?_)
            refine lv_goto (tgt := 11) E.1 E.2.1 dX3_carryOutOrders_85 (by decide) ?_
            exact ih (i + 1) (⟨by omega, hj1⟩) (by omega) _ _ _ (HB.eq hw (by rw [show min (i + 1) pl = i + 1 by omega, hj2]; rfl)) (lvh_eq (l := [(0, .ref (b 0)), (1, .int (nI (cE C i))), (2, .int (nI (i + 1)))]) (lv_sub hl [2, 3, 0] rfl) (by rw [hj2]))
        · exact absurd c45 (by decide)
      · skip
        have hie : i = pl ∨ C i = 59 := Or.inr (by omega)
        have hoF := hOR i hil hie
        refine lv_iconst (v := nI 1) E.1 E.2.1 dX3_carryOutOrders_38 (by decide) ?_
        refine lv_goto (tgt := 43) E.1 E.2.1 dX3_carryOutOrders_39 (by decide) ?_
        refine lv_istore_n (lv' := [(3, .int (nI (1))), (0, .ref (b 0)), (1, .int (nI (cE C i))), (2, .int (nI (i)))]) E.1 E.2.1 dX3_carryOutOrders_43 rfl hl (by decide) rfl (fun ls hl => ?_)
        refine lv_iload_n E.1 E.2.1 dX3_carryOutOrders_44 rfl (lv_at hl 0 rfl) ?_
        refine lv_if_eqN (tgt := 60) E.1 E.2.1 (by omega) dX3_carryOutOrders_45 (by decide) (fun c45 => ?_) (fun c45 => ?_)
        · exact absurd c45 (by decide)
        · skip
          refine lv_aload_n E.1 E.2.1 dX3_carryOutOrders_48 rfl (lv_at hl 1 rfl) ?_
          refine callVI E (c_X3_carryOutOrder l G b ad (v) (pd) (rvO (rg C s i)) (va_up (Ns) 0 (xN OR (Ns 0) (cE C i))) (OR (cE C i)) (hoF.1) (hIx (cE C i) (by omega)) (by rw [← hoF.2.1]; rfl) hoF.2.2.1 (fun z => by rw [← hoF.2.2.2 z]; rfl)) mw_30_12 YX3_carryOutOrder ⟨rfl, rfl⟩ ⟨Nat.le_of_ble_eq_true rfl, Nat.le_of_ble_eq_true rfl⟩ ⟨Nat.zero_le _, Nat.zero_le _⟩ hw 0 rfl rfl rfl hl rfl (Nat.le_of_ble_eq_true rfl) dX3_carryOutOrders_49 (fun H locs hw => ?_)
          refine lv_if_ge (tgt := 57) E.1 E.2.1 dX3_carryOutOrders_52 (by decide) (fun c52 => ?_) (fun c52 => ?_)
          · skip
            have hku := hks.up hP2 (by omega) (Int32.not_lt.mpr c52)
            have hj2 : jJ C pl (i + 1) = cE C i + 1 := by rw [jJ_up hil hie, hjc]
            have hj1 : jJ C pl (i + 1) ≤ ks := by rw [hj2]; exact hku
            refine lv_iincN (k := 2) (lv' := [(1, .int (nI (cE C i + 1))), (3, .int (nI (1))), (0, .ref (b 0)), (2, .int (nI (i)))]) E.1 E.2.1 dX3_carryOutOrders_57 hl rfl (by decide) rfl (fun ls hl => ?_)
            refine lv_iload_n E.1 E.2.1 dX3_carryOutOrders_60 rfl (lv_at hl 3 rfl) ?_
            refine lv_aload_n E.1 E.2.1 dX3_carryOutOrders_61 rfl (lv_at hl 2 rfl) ?_
            refine gX3_8 E hw mw_21_2 dX3_carryOutOrders_62 ?_
            refine lv_eqi (y := nI (pl)) (hl0) ?_
            refine lv_icmp_geN (tgt := 82) E.1 E.2.1 (by omega) (by omega) dX3_carryOutOrders_65 (by decide) (fun c65 => ?_) (fun c65 => ?_)
            · exfalso; omega
            · skip
              refine lv_aload_n E.1 E.2.1 dX3_carryOutOrders_68 rfl (lv_at hl 2 rfl) ?_
              refine gX3_9 E hw mw_2_1 dX3_carryOutOrders_69 ?_
              refine lv_aload_n E.1 E.2.1 dX3_carryOutOrders_72 rfl (lv_at hl 2 rfl) ?_
              refine gX3_7 E hw mw_1_21 dX3_carryOutOrders_73 ?_
              refine lv_iload_n E.1 E.2.1 dX3_carryOutOrders_76 rfl (lv_at hl 3 rfl) ?_
              refine lX3_p E hw (by omega) dX3_carryOutOrders_77 ?_
              refine lv_eqi (y := nI (C i)) (hpd i (by omega)) ?_
              refine callVIp E (c_X0_takes l G (b 4) (rg C s i).1 (rg C s i).2.1 (rg C s i).2.2.1 (rg C s i).2.2.2 (hrb i (by omega)).1 (hrb i (by omega)).2 (C i) (hC _ (by omega))) ES.eb (fun _ _ _ => trivial) mw_27_5 YX0_takes ⟨rfl, rfl⟩ ⟨Nat.le_of_ble_eq_true rfl, Nat.le_of_ble_eq_true rfl⟩ ⟨Nat.zero_le _, Nat.zero_le _⟩ hw (cW_o _) (cW_o (rvO ((tk (rg C s i) (C i)).getD (rg C s i)))) 0 rfl rfl rfl hl rfl (Nat.le_of_ble_eq_true rfl) dX3_carryOutOrders_78 (fun H locs hw => ?_)
              refine lv_pop E.1 E.2.1 dX3_carryOutOrders_81 rfl ?_
              refine lv_iincN (k := 3) (lv' := [(2, .int (nI (i + 1))), (1, .int (nI (cE C i + 1))), (3, .int (nI (1))), (0, .ref (b 0))]) E.1 E.2.1 dX3_carryOutOrders_82 hl rfl (by decide) rfl (fun ls hl => ?_)
              refine lv_goto (tgt := 11) E.1 E.2.1 dX3_carryOutOrders_85 (by decide) ?_
              exact ih (i + 1) (⟨by omega, hj1⟩) (by omega) _ _ _ (HB.eq hw (by rw [show min (i + 1) pl = i + 1 by omega, hj2, va_uu]; rfl)) (lvh_eq (l := [(0, .ref (b 0)), (1, .int (nI (cE C i + 1))), (2, .int (nI (i + 1)))]) (lv_sub hl [3, 1, 0] rfl) (by rw [hj2]))
          · skip
            have hke := hks.st hP2 (by omega) (Int32.not_le.mp c52)
            have hii : i = iz := by obtain ⟨g1, g2, g3⟩ := hiz; obtain ⟨g4, g5⟩ := g3 (by omega); exact cE_inj (n := pl) hie g4 hil g1 (by omega)
            refine lv_iload_n E.1 E.2.1 dX3_carryOutOrders_55 rfl (lv_at hl 2 rfl) ?_
            exact rI E hr hlk (HB.eq hw (by rw [hke.2, ← hii, va_uu]; rfl)) (by rw [hke.1]) dX3_carryOutOrders_56

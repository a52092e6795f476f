def cQ (G : GP) (b : Nat → Nat) (ad : Nat → Nat → Nat) (v : Nat → Int32) (pd : Nat → Int32) (Ns : Nat → NS) : va_W := (cB G b ad v pd (fun _ => 0)).take 4 ++ cS G ad Ns (List.range 11)
theorem cW_o {G : GP} {b : Nat → Nat} {ad : Nat → Nat → Nat} {v : Nat → Int32} {pd : Nat → Int32} {Ns : Nat → NS} (rv : Nat → Int32) : (oW (b 4) rv ++ cQ G b ad v pd Ns).Perm (cW G b ad v pd rv Ns) := by
  show (oW (b 4) rv ++ ((cB G b ad v pd (fun _ => 0)).take 4 ++ cS G ad Ns (List.range 11))).Perm (((cB G b ad v pd (fun _ => 0)).take 4 ++ oW (b 4) rv) ++ cS G ad Ns (List.range 11))
  rw [← List.append_assoc]
  exact List.Perm.append_right _ List.perm_append_comm
/-- the reader's state after i signs -/
def rg (C : Nat → Nat) (s : AS) : Nat → AS
  | 0 => (0, s.2)
  | i + 1 => (tk (rg C s i) (C i)).getD (rg C s i)
def rB (s : AS) : Prop := s.1 < 6 ∧ s.2.1 < 127
theorem tk_b {s s' : AS} {c : Nat} (hc : c < 127) (hs : rB s) (h : tk s c = some s') : rB s' := by
  obtain ⟨e, lt, v, w⟩ := s
  obtain ⟨h1, h2⟩ := hs
  simp only [] at h1 h2
  unfold tk at h
  split at h
  · unfold tkE at h; split at h
    · cases h; exact ⟨(by decide : 0 < 6), h2⟩
    · cases h
  split at h
  · unfold tkL at h; split at h
    · cases h; exact ⟨(by decide : 1 < 6), hc⟩
    split at h
    · cases h; exact ⟨(by decide : 2 < 6), hc⟩
    split at h
    · cases h; exact ⟨(by decide : 3 < 6), hc⟩
    · cases h
  split at h
  · unfold tkR at h; split at h
    · cases h; exact ⟨h1, h2⟩
    · cases h
  split at h
  · unfold tkD at h; split at h
    · cases h; exact ⟨h1, h2⟩
    · cases h
  split at h
  · have h' : (if 48 ≤ c ∧ c ≤ (if lt = 119 then 51 else 52) then some ((if lt = 119 then 4 else 5), lt, nI (c - 48), w) else none) = some s' := h
    by_cases q : 48 ≤ c ∧ c ≤ (if lt = 119 then 51 else 52)
    · rw [if_pos q] at h'
      cases h'; exact ⟨by show (if lt = 119 then 4 else 5) < 6; split <;> decide, h2⟩
    · rw [if_neg q] at h'
      cases h'
  split at h
  · unfold tkW at h; split at h
    · cases h; exact ⟨(by decide : 5 < 6), h2⟩
    split at h
    · cases h; exact ⟨(by decide : 5 < 6), h2⟩
    · cases h
  · cases h
theorem rg_b {C : Nat → Nat} {s : AS} {n : Nat} (hC : ∀ j, j < n → C j < 127) (hs : rB s) : ∀ i, i ≤ n → rB (rg C s i)
  | 0, _ => ⟨(by decide : 0 < 6), hs.2⟩
  | i + 1, hi => by
    have ih := rg_b hC hs i (by omega)
    show rB ((tk (rg C s i) (C i)).getD (rg C s i))
    cases h : tk (rg C s i) (C i) with
    | none => exact ih
    | some q => exact tk_b (hC i (by omega)) ih h
def endR (C : Nat → Nat) (n : Nat) (s : AS) (k : Nat) : Prop := k ≤ n ∧ (∀ j, j < k → (tk (rg C s j) (C j)).isSome = true) ∧ (k = n ∨ ¬ (tk (rg C s k) (C k)).isSome = true)
def foR (C : Nat → Nat) (n : Nat) (s : AS) (k : Nat) : Int32 := if k = n ∧ mE (rg C s k) then -6 else nI k
theorem endR.up {C : Nat → Nat} {n i k : Nat} {s : AS} (h : endR C n s k) (hi : i ≤ k) (hn : i < n) (ht : (tk (rg C s i) (C i)).isSome = true) : i + 1 ≤ k := by
  rcases Nat.lt_or_ge i k with q | q
  · exact q
  · obtain rfl : i = k := by omega
    rcases h.2.2 with z | z
    · omega
    · exact absurd ht z
theorem endR.st {C : Nat → Nat} {n i k : Nat} {s : AS} (h : endR C n s k) (hi : i ≤ k) (ht : ¬ (tk (rg C s i) (C i)).isSome = true) : i = k := by
  rcases Nat.lt_or_ge i k with q | q
  · exact absurd (h.2.1 i q) ht
  · omega
theorem getD_no {o : Option AS} {s : AS} (h : ¬ o.isSome = true) : o.getD s = s := by
  cases o with
  | none => rfl
  | some q => exact absurd rfl h
theorem endR_ex (C : Nat → Nat) (n : Nat) (s : AS) : ∃ k, endR C n s k := by
  obtain ⟨k, h1, h2⟩ := pk_least (fun m => m = n ∨ ¬ (tk (rg C s m) (C m)).isSome = true) ⟨n, Or.inl rfl⟩
  refine ⟨k, ?_, fun j hj => Decidable.byContradiction fun z => h2 j hj (Or.inr z), h1⟩
  rcases Nat.lt_or_ge n k with q | q
  · exact absurd (Or.inl rfl) (h2 n q)
  · exact q
theorem YX3_faultOfPad : YV yX3_faultOfPad RX3 cX3_faultOfPad 2 (some .int) 0 := ⟨mw_26_21, mw_26_22, mw_1_2, mw_26_23, by decide +kernel⟩
set_option maxHeartbeats 4000000 in
set_option maxRecDepth 100000 in
theorem c_X3_faultOfPad (l : Launch) (G : GP) (b : Nat → Nat) (ad : Nat → Nat → Nat) (v pd : Nat → Int32) (Ns : Nat → NS) (s : AS) (hs : rB s) (C : Nat → Nat) (pl : Nat) (hl0 : v 3 = nI pl) (hpl : pl ≤ 60) (hpd : ∀ j, j < pl → pd j = nI (C j)) (hC : ∀ j, j < pl → C j < 127) (kf : Nat) (hkf : endR C pl s kf)  : MI l yX3_faultOfPad (.code yX3_faultOfPad cX3_faultOfPad 2 (some .int) :: GW) ({ frames := 3, cells := 0, slots := 0, locals := 61 }) [.ref (b 0)] G ES (cW G b ad (v) (pd) (rvO (s)) (Ns)) (cW G b ad (v) (pd) (rvO (rg C s kf)) (Ns)) (foR C pl s kf) := by
  refine MI.of (own := RX3) rfl rfl (Nat.le_of_ble_eq_true rfl) ?_
  intro pP eE sS mM below meth cC ls AA E hw hl hr hlk hE
  replace hl : lv_has ls 2 [(0, .ref (b 0))] := hl
  have hrb := rg_b hC hs
  have hkl := hkf.1
  refine lv_aload_n E.1 E.2.1 dX3_faultOfPad_0 rfl (lv_at hl 0 rfl) ?_
  refine gX3_9 E hw mw_2_1 dX3_faultOfPad_1 ?_
  refine callVVp E (c_X0_begin l G (b 4) (s).1 (s).2.1 (s).2.2.1 (s).2.2.2 (hs).1 (hs).2) ES.eb (fun _ _ _ => trivial) mw_27_0 YX0_begin ⟨rfl, rfl⟩ ⟨Nat.le_of_ble_eq_true rfl, Nat.le_of_ble_eq_true rfl⟩ ⟨Nat.zero_le _, Nat.zero_le _⟩ hw (cW_o _) (cW_o (rvO (0, (s).2))) 0 rfl rfl rfl hl rfl (Nat.le_of_ble_eq_true rfl) dX3_faultOfPad_4 (fun H locs hw => ?_)
  refine lv_iconst (v := nI 0) E.1 E.2.1 dX3_faultOfPad_7 (by decide) ?_
  refine lv_istore_n (lv' := [(1, .int (nI (0))), (0, .ref (b 0))]) E.1 E.2.1 dX3_faultOfPad_8 rfl hl (by decide) rfl (fun ls hl => ?_)
  refine W_ind1 (nL := 2) (P := fun i => i ≤ kf) (μ := fun i => kf - i) (I := fun i => cW G b ad (v) (pd) (rvO (rg C s i)) (Ns)) (L := fun i => [(0, .ref (b 0)), (1, .int (nI (i)))]) ?_ (0) (Nat.zero_le _) (HB.eq hw (rfl)) (lvh_eq (l := [(0, .ref (b 0)), (1, .int (nI (0)))]) (lv_sub hl [1, 0] rfl) (rfl))
  intro i hP ih H locs ls hw hl
  replace hw : HB G AA sS.heap (cW G b ad (v) (pd) (rvO (rg C s i)) (Ns)) H locs := hw
  replace hl : lv_has ls 2 [(0, .ref (b 0)), (1, .int (nI (i)))] := hl
  refine lv_iload_n E.1 E.2.1 dX3_faultOfPad_9 rfl (lv_at hl 1 rfl) ?_
  refine lv_aload_n E.1 E.2.1 dX3_faultOfPad_10 rfl (lv_at hl 0 rfl) ?_
  refine gX3_8 E hw mw_21_2 dX3_faultOfPad_11 ?_
  refine lv_eqi (y := nI (pl)) (hl0) ?_
  refine lv_icmp_geN (tgt := 41) E.1 E.2.1 (by omega) (by omega) dX3_faultOfPad_14 (by decide) (fun c14 => ?_) (fun c14 => ?_)
  · skip
    have hik : i = kf := by omega
    have hin : i = pl := by omega
    subst hik
    refine lv_aload_n E.1 E.2.1 dX3_faultOfPad_41 rfl (lv_at hl 0 rfl) ?_
    refine gX3_9 E hw mw_2_1 dX3_faultOfPad_42 ?_
    refine callVIp E (c_X0_mayEnd l G (b 4) (rg C s i).1 (rg C s i).2.1 (rg C s i).2.2.1 (rg C s i).2.2.2 (hrb i (by omega)).1 (hrb i (by omega)).2) ES.eb (fun _ _ _ => trivial) mw_28_16 YX0_mayEnd ⟨rfl, rfl⟩ ⟨Nat.le_of_ble_eq_true rfl, Nat.le_of_ble_eq_true rfl⟩ ⟨Nat.zero_le _, Nat.zero_le _⟩ hw (cW_o _) (cW_o (rvO (rg C s i))) 0 rfl rfl rfl hl rfl (Nat.le_of_ble_eq_true rfl) dX3_faultOfPad_45 (fun H locs hw => ?_)
    refine lv_if_eqB (tgt := 56) E.1 E.2.1 dX3_faultOfPad_48 (by decide) (fun c48 => ?_) (fun c48 => ?_)
    · skip
      refine lv_aload_n E.1 E.2.1 dX3_faultOfPad_56 rfl (lv_at hl 0 rfl) ?_
      refine gX3_8 E hw mw_21_2 dX3_faultOfPad_57 ?_
      refine lv_eqi (y := nI (pl)) (hl0) ?_
      exact rI E hr hlk (HB.eq hw (rfl)) (by rw [foR, if_neg (fun z => c48 z.2), hin]) dX3_faultOfPad_60
    · skip
      refine lv_bipush (v := -6) E.1 E.2.1 dX3_faultOfPad_51 (by decide) ?_
      refine lv_goto (tgt := 60) E.1 E.2.1 dX3_faultOfPad_53 (by decide) ?_
      exact rI E hr hlk (HB.eq hw (rfl)) (by rw [foR, if_pos ⟨hin, c48⟩]) dX3_faultOfPad_60
  · skip
    refine lv_aload_n E.1 E.2.1 dX3_faultOfPad_17 rfl (lv_at hl 0 rfl) ?_
    refine gX3_9 E hw mw_2_1 dX3_faultOfPad_18 ?_
    refine lv_aload_n E.1 E.2.1 dX3_faultOfPad_21 rfl (lv_at hl 0 rfl) ?_
    refine gX3_7 E hw mw_1_21 dX3_faultOfPad_22 ?_
    refine lv_iload_n E.1 E.2.1 dX3_faultOfPad_25 rfl (lv_at hl 1 rfl) ?_
    refine lX3_p E hw (by omega) dX3_faultOfPad_26 ?_
    refine lv_eqi (y := nI (C i)) (hpd i (by omega)) ?_
    refine callVIp E (c_X0_takes l G (b 4) (rg C s i).1 (rg C s i).2.1 (rg C s i).2.2.1 (rg C s i).2.2.2 (hrb i (by omega)).1 (hrb i (by omega)).2 (C i) (hC _ (by omega))) ES.eb (fun _ _ _ => trivial) mw_27_5 YX0_takes ⟨rfl, rfl⟩ ⟨Nat.le_of_ble_eq_true rfl, Nat.le_of_ble_eq_true rfl⟩ ⟨Nat.zero_le _, Nat.zero_le _⟩ hw (cW_o _) (cW_o (rvO ((tk (rg C s i) (C i)).getD (rg C s i)))) 0 rfl rfl rfl hl rfl (Nat.le_of_ble_eq_true rfl) dX3_faultOfPad_27 (fun H locs hw => ?_)
    refine lv_if_neB (tgt := 35) E.1 E.2.1 dX3_faultOfPad_30 (by decide) (fun c30 => ?_) (fun c30 => ?_)
    · skip
      refine lv_iincN (k := 1) (lv' := [(1, .int (nI (i + 1))), (0, .ref (b 0))]) E.1 E.2.1 dX3_faultOfPad_35 hl rfl (by decide) rfl (fun ls hl => ?_)
      refine lv_goto (tgt := 9) E.1 E.2.1 dX3_faultOfPad_38 (by decide) ?_
      exact ih (i + 1) (hkf.up hP (by omega) c30) (by have := hkf.up hP (by omega) c30; omega) _ _ _ (HB.eq hw (rfl)) (lvh_eq (l := [(0, .ref (b 0)), (1, .int (nI (i + 1)))]) (lv_sub hl [1, 0] rfl) (rfl))
    · skip
      have hik := hkf.st hP c30
      subst hik
      refine lv_iload_n E.1 E.2.1 dX3_faultOfPad_33 rfl (lv_at hl 1 rfl) ?_
      exact rI E hr hlk (HB.eq hw (by rw [getD_no c30])) (by rw [foR, if_neg (fun z => by have := z.1; omega)]) dX3_faultOfPad_34
theorem YX3_fault : YV yX3_fault RX3 cX3_fault 1 (some .int) 0 := ⟨mw_26_17, mw_26_18, mw_1_2, mw_26_19, by decide +kernel⟩
set_option maxHeartbeats 4000000 in
set_option maxRecDepth 100000 in
theorem c_X3_fault (l : Launch) (G : GP) (b : Nat → Nat) (ad : Nat → Nat → Nat) (v pd : Nat → Int32) (Ns : Nat → NS) (s : AS) (hs : rB s) (C : Nat → Nat) (pl : Nat) (hl0 : v 3 = nI pl) (hpl : pl ≤ 60) (hpd : ∀ j, j < pl → pd j = nI (C j)) (hC : ∀ j, j < pl → C j < 127) (kf : Nat) (hkf : endR C pl s kf)  : MI l yX3_fault (.code yX3_fault cX3_fault 1 (some .int) :: GW) ({ frames := 4, cells := 0, slots := 0, locals := 82 }) [.ref (b 0)] G ES (cW G b ad (v) (pd) (rvO (s)) (Ns)) (cW G b ad (v) (pd) (rvO (rg C s kf)) (Ns)) (foR C pl s kf) := by
  refine MI.of (own := RX3) rfl rfl (Nat.le_of_ble_eq_true rfl) ?_
  intro pP eE sS mM below meth cC ls AA E hw hl hr hlk hE
  replace hl : lv_has ls 1 [(0, .ref (b 0))] := hl
  refine lv_aload_n E.1 E.2.1 dX3_fault_0 rfl (lv_at hl 0 rfl) ?_
  refine callVI E (c_X3_faultOfPad l G b ad (v) (pd) (Ns) s hs C pl hl0 hpl hpd hC kf hkf) mw_26_20 YX3_faultOfPad ⟨rfl, rfl⟩ ⟨Nat.le_of_ble_eq_true rfl, Nat.le_of_ble_eq_true rfl⟩ ⟨Nat.zero_le _, Nat.zero_le _⟩ hw 0 rfl rfl rfl hl rfl (Nat.le_of_ble_eq_true rfl) dX3_fault_1 (fun H locs hw => ?_)
  exact rI E hr hlk (HB.eq hw (rfl)) (rfl) dX3_fault_4

theorem pow_lt32 : ∀ c, c < 5 → 2 ^ c < 32 := by decide +kernel
theorem lt_le5 {w : Int32} (h : w < nI 5) : w ≤ nI 4 := by
  rw [Int32.lt_iff_toInt_lt] at h
  rw [Int32.le_iff_toInt_le]
  have h4 : (nI 4).toInt = 4 := by decide
  have h3 : (nI 5).toInt = 5 := by decide
  omega
theorem le3_lt4 {w : Int32} (h : w ≤ nI 3) : w < nI 4 := by
  rw [Int32.le_iff_toInt_le] at h
  rw [Int32.lt_iff_toInt_lt]
  have h4 : (nI 4).toInt = 4 := by decide
  have h3 : (nI 3).toInt = 3 := by decide
  omega
theorem stl_iff {N : NS} {d : Nat} (hF : FI N) (hd : d < 8) : cOf d 2 N ||| cOf d 3 N = N (30 + 14 * d + 0) ↔ cOf d 0 N = 0 ∧ cOf d 1 N = 0 := by
  have h16 := hF.f0 hd
  have hz : ∀ s, cOf d s N = 0 ↔ ∀ c, c < 4 → ¬ ((N (30 + 14 * d + 0)).testBit c = true ∧ N (30 + 14 * d + (6 + c)) = s) := by
    intro s
    constructor
    · intro h c hc z
      have := (cOf_t hc).mpr z
      rw [h, Nat.zero_testBit] at this
      cases this
    · intro h
      apply Nat.eq_of_testBit_eq
      intro i
      rw [Nat.zero_testBit]
      by_cases hi : i < 4
      · exact Bool.eq_false_iff.mpr (fun z => h i hi ((cOf_t hi).mp z))
      · exact cOf_hi hi
  rw [hz 0, hz 1]
  constructor
  · intro h
    have key : ∀ c, c < 4 → (N (30 + 14 * d + 0)).testBit c = true → N (30 + 14 * d + (6 + c)) = 2 ∨ N (30 + 14 * d + (6 + c)) = 3 := by
      intro c hc hb
      rw [← h, Nat.testBit_or, Bool.or_eq_true, cOf_t hc, cOf_t hc] at hb
      rcases hb with z | z
      · exact Or.inl z.2
      · exact Or.inr z.2
    exact ⟨fun c hc z => by have := key c hc z.1; omega, fun c hc z => by have := key c hc z.1; omega⟩
  · intro h
    apply Nat.eq_of_testBit_eq
    intro i
    by_cases hi : i < 4
    · apply Bool.eq_iff_iff.mpr
      rw [Nat.testBit_or, Bool.or_eq_true, cOf_t hi, cOf_t hi]
      constructor
      · rintro (z | z) <;> exact z.1
      · intro hb
        have h4 := hF.f6 hd hi
        have a0 := h.1 i hi
        have a1 := h.2 i hi
        by_cases z2 : N (30 + 14 * d + (6 + i)) = 2
        · exact Or.inl ⟨hb, z2⟩
        · refine Or.inr ⟨hb, ?_⟩
          have : ¬ N (30 + 14 * d + (6 + i)) = 0 := fun z => a0 ⟨hb, z⟩
          have : ¬ N (30 + 14 * d + (6 + i)) = 1 := fun z => a1 ⟨hb, z⟩
          omega
    · rw [Nat.testBit_or, cOf_hi hi, cOf_hi hi]
      exact (Nat.testBit_lt_two_pow (Nat.lt_of_lt_of_le h16 (show 2 ^ 4 ≤ 2 ^ i from Nat.pow_le_pow_right (by decide) (by omega)))).symm
theorem mFgt_no {w d : Nat} {N : NS} (h4 : ¬ w = 4) (h : ¬ ((N (30 + 14 * d + 0)).testBit w = true ∧ N (30 + 14 * d + (6 + w)) = 0)) : N = mFgt w d N := by
  rw [mFgt, if_neg h4]
  by_cases h0 : N (30 + 14 * d + (6 + w)) = 0
  · rw [if_pos h0, if_neg (fun z => h ⟨z, h0⟩), un_same h0]
  · rw [if_neg h0]
theorem mFgt4_0 {w d : Nat} {N : NS} (h4 : w = 4) (h : N (30 + 14 * d + 1) = 0) : un N (30 + 14 * d + 1) 2 = mFgt w d N := by
  rw [mFgt, if_pos h4, if_neg (by omega), if_pos h, un_id]
theorem mFgt4_1 {w d : Nat} {N : NS} (h4 : w = 4) (h : N (30 + 14 * d + 1) = 1) : un N (30 + 14 * d + 5) 0 = mFgt w d N := by
  rw [mFgt, if_pos h4, if_pos h, if_neg (by omega)]
  exact (un_same (un_n (by omega))).symm
theorem mFgt4_n {w d : Nat} {N : NS} (h4 : w = 4) (h : ¬ N (30 + 14 * d + 1) = 0) (h1 : ¬ N (30 + 14 * d + 1) = 1) : N = mFgt w d N := by
  rw [mFgt, if_pos h4, if_neg h1, if_neg h, un_id, un_id]
theorem popc_ill {N : NS} (hF : FI N) : popc (illS N) = illN N := by
  have h0 : N 10 ≤ 1 := hF.il (w := 0) (by decide)
  have h1 : N 11 ≤ 1 := hF.il (w := 1) (by decide)
  have h2 : N 12 ≤ 1 := hF.il (w := 2) (by decide)
  have h3 : N 13 ≤ 1 := hF.il (w := 3) (by decide)
  have h4 : N 14 ≤ 1 := hF.il (w := 4) (by decide)
  have e : illS N = bitsI (fun w => decide ((fun q => if q = 0 then N 10 else if q = 1 then N 11 else if q = 2 then N 12 else if q = 3 then N 13 else N 14) w = 1)) 5 := by
    refine bitsI_c 5 (fun c hc => ?_)
    rcases (by omega : c = 0 ∨ c = 1 ∨ c = 2 ∨ c = 3 ∨ c = 4) with rfl | rfl | rfl | rfl | rfl <;> rfl
  have e2 : illN N = N 10 + N 11 + N 12 + N 13 + N 14 := by
    show 0 + N (10 + 0) + N (10 + 1) + N (10 + 2) + N (10 + 3) + N (10 + 4) = _
    simp only [Nat.zero_add, Nat.add_zero, Nat.reduceAdd]
  rw [e, e2]
  generalize N 10 = x0 at *
  generalize N 11 = x1 at *
  generalize N 12 = x2 at *
  generalize N 13 = x3 at *
  generalize N 14 = x4 at *
  rcases (by omega : x0 = 0 ∨ x0 = 1) with rfl | rfl <;> rcases (by omega : x1 = 0 ∨ x1 = 1) with rfl | rfl <;> rcases (by omega : x2 = 0 ∨ x2 = 1) with rfl | rfl <;> rcases (by omega : x3 = 0 ∨ x3 = 1) with rfl | rfl <;> rcases (by omega : x4 = 0 ∨ x4 = 1) with rfl | rfl <;> rfl
theorem YX2_passTick : YV yX2_passTick RX2 cX2_passTick 2 none 0 := ⟨mw_16_12, mw_16_13, mw_1_15, mw_16_14, by decide +kernel⟩
set_option maxHeartbeats 4000000 in
set_option maxRecDepth 100000 in
theorem c_X2_passTick (l : Launch) (G : GP) (a : Nat → Nat) (N : NS) (hF : FI N) : MV l yX2_passTick (.code yX2_passTick cX2_passTick 2 none :: GW) ({ frames := 3, cells := 0, slots := 0, locals := 72 }) [.ref (a 0)] G ES (sN G a (N)) (sN G a (mPass N)) := by
  refine MV.of (own := RX2) rfl rfl (Nat.le_of_ble_eq_true rfl) ?_
  intro pP eE sS mM below meth cC ls AA E hw hl hr hlk hE
  replace hl : lv_has ls 2 [(0, .ref (a 0))] := hl
  have h5 := hF.2.1
  have hi4 : N 14 ≤ 1 := hF.il (w := 4) (by decide)
  refine lv_aload_n E.1 E.2.1 dX2_passTick_0 rfl (lv_at hl 0 rfl) ?_
  refine lv_iconst (v := nI 4) E.1 E.2.1 dX2_passTick_1 (by decide) ?_
  refine callVI E (c_X2_isIll l G a (N) 4 (N 14) (by omega) (rfl)) mw_6_23 YX2_isIll ⟨rfl, rfl⟩ ⟨Nat.le_of_ble_eq_true rfl, Nat.le_of_ble_eq_true rfl⟩ ⟨Nat.zero_le _, Nat.zero_le _⟩ hw 0 rfl rfl rfl hl rfl (Nat.le_of_ble_eq_true rfl) dX2_passTick_2 (fun H locs hw => ?_)
  refine lv_if_neB (tgt := 29) E.1 E.2.1 dX2_passTick_5 (by decide) (fun c5 => ?_) (fun c5 => ?_)
  · skip
    refine lv_iconst (v := nI 0) E.1 E.2.1 dX2_passTick_29 (by decide) ?_
    refine lv_istore_n (lv' := [(1, .int (nI (0))), (0, .ref (a 0))]) E.1 E.2.1 dX2_passTick_30 rfl hl (by decide) rfl (fun ls hl => ?_)
    refine W_ind1 (nL := 2) (P := fun c => c ≤ 4) (μ := fun c => 4 - c) (I := fun c => sN G a (pcl c (if N 14 = 1 then N else pbs (N 5) N))) (L := fun c => [(0, .ref (a 0)), (1, .int (nI (c)))]) ?_ (0) (Nat.zero_le _) (HB.eq hw (by rw [pcl, if_pos c5])) (lvh_eq (l := [(0, .ref (a 0)), (1, .int (nI (0)))]) (lv_sub hl [1, 0] rfl) (rfl))
    intro c hP2 ih2 H locs ls hw hl
    replace hw : HB G AA sS.heap (sN G a (pcl c (if N 14 = 1 then N else pbs (N 5) N))) H locs := hw
    replace hl : lv_has ls 2 [(0, .ref (a 0)), (1, .int (nI (c)))] := hl
    have hM0 := hF_p0 hF
    have hM := hM0.pl4 c hP2
    refine lv_iload_n E.1 E.2.1 dX2_passTick_31 rfl (lv_at hl 1 rfl) ?_
    refine lv_iconst (v := nI 4) E.1 E.2.1 dX2_passTick_32 (by decide) ?_
    refine lv_icmp_geN (tgt := 55) E.1 E.2.1 (by omega) (by omega) dX2_passTick_33 (by decide) (fun c33 => ?_) (fun c33 => ?_)
    · skip
      refine lv_aload_n E.1 E.2.1 dX2_passTick_55 rfl (lv_at hl 0 rfl) ?_
      refine lv_dup E.1 E.2.1 dX2_passTick_56 rfl ?_
      refine gX2_0 E hw mw_4_5 dX2_passTick_57 ?_
      refine lv_eqi (y := nI (N 4)) (congrArg nI ((pcl_n hM0 (by decide) _ (by omega)).trans (hF_p0n hF (by decide)))) ?_
      refine lv_iconst (v := nI 1) E.1 E.2.1 dX2_passTick_60 (by decide) ?_
      refine lv_addN E.1 E.2.1 dX2_passTick_61 ?_
      refine pN2_0 E hw mw_4_5 dX2_passTick_62 (fun H locs hw => ?_)
      exact rV E hr hlk (HB.eq hw (by rw [show c = 4 by omega]; rfl)) dX2_passTick_65
    · skip
      refine lv_aload_n E.1 E.2.1 dX2_passTick_36 rfl (lv_at hl 0 rfl) ?_
      refine lv_iload_n E.1 E.2.1 dX2_passTick_37 rfl (lv_at hl 1 rfl) ?_
      refine callVI E (c_X2_isIll l G a (pcl c (if N 14 = 1 then N else pbs (N 5) N)) c (pcl c (if N 14 = 1 then N else pbs (N 5) N) (10 + c)) (by omega) (rfl)) mw_6_23 YX2_isIll ⟨rfl, rfl⟩ ⟨Nat.le_of_ble_eq_true rfl, Nat.le_of_ble_eq_true rfl⟩ ⟨Nat.zero_le _, Nat.zero_le _⟩ hw 0 rfl rfl rfl hl rfl (Nat.le_of_ble_eq_true rfl) dX2_passTick_38 (fun H locs hw => ?_)
      refine lv_if_neB (tgt := 49) E.1 E.2.1 dX2_passTick_41 (by decide) (fun c41 => ?_) (fun c41 => ?_)
      · skip
        refine lv_iincN (k := 1) (lv' := [(1, .int (nI (c + 1))), (0, .ref (a 0))]) E.1 E.2.1 dX2_passTick_49 hl rfl (by decide) rfl (fun ls hl => ?_)
        refine lv_goto (tgt := 31) E.1 E.2.1 dX2_passTick_52 (by decide) ?_
        exact ih2 (c + 1) (by omega) (by omega) _ _ _ (HB.eq hw (by rw [pcl, if_pos c41])) (lvh_eq (l := [(0, .ref (a 0)), (1, .int (nI (c + 1)))]) (lv_sub hl [1, 0] rfl) (rfl))
      · skip
        refine lv_aload_n E.1 E.2.1 dX2_passTick_44 rfl (lv_at hl 0 rfl) ?_
        refine lv_iload_n E.1 E.2.1 dX2_passTick_45 rfl (lv_at hl 1 rfl) ?_
        refine callVV E (c_X2_askInDoubt l G a (pcl c (if N 14 = 1 then N else pbs (N 5) N)) c (by omega) (hM)) mw_16_23 YX2_askInDoubt ⟨rfl, rfl⟩ ⟨Nat.le_of_ble_eq_true rfl, Nat.le_of_ble_eq_true rfl⟩ ⟨Nat.zero_le _, Nat.zero_le _⟩ hw 0 rfl rfl rfl hl rfl (Nat.le_of_ble_eq_true rfl) dX2_passTick_46 (fun H locs hw => ?_)
        refine lv_iincN (k := 1) (lv' := [(1, .int (nI (c + 1))), (0, .ref (a 0))]) E.1 E.2.1 dX2_passTick_49 hl rfl (by decide) rfl (fun ls hl => ?_)
        refine lv_goto (tgt := 31) E.1 E.2.1 dX2_passTick_52 (by decide) ?_
        exact ih2 (c + 1) (by omega) (by omega) _ _ _ (HB.eq hw (by rw [pcl, if_neg c41, pcl_n hM0 (by decide) c (by omega)])) (lvh_eq (l := [(0, .ref (a 0)), (1, .int (nI (c + 1)))]) (lv_sub hl [1, 0] rfl) (rfl))
  · skip
    refine lv_iconst (v := nI 0) E.1 E.2.1 dX2_passTick_8 (by decide) ?_
    refine lv_istore_n (lv' := [(1, .int (nI (0))), (0, .ref (a 0))]) E.1 E.2.1 dX2_passTick_9 rfl hl (by decide) rfl (fun ls hl => ?_)
    refine W_ind1 (nL := 2) (P := fun d => d ≤ N 5) (μ := fun d => N 5 - d) (I := fun d => sN G a (pbs d N)) (L := fun d => [(0, .ref (a 0)), (1, .int (nI (d)))]) ?_ (0) (Nat.zero_le _) (HB.eq hw (rfl)) (lvh_eq (l := [(0, .ref (a 0)), (1, .int (nI (0)))]) (lv_sub hl [1, 0] rfl) (rfl))
    intro d hP1 ih1 H locs ls hw hl
    replace hw : HB G AA sS.heap (sN G a (pbs d N)) H locs := hw
    replace hl : lv_has ls 2 [(0, .ref (a 0)), (1, .int (nI (d)))] := hl
    have hd8 : d ≤ 8 := Nat.le_trans hP1 h5
    refine lv_iload_n E.1 E.2.1 dX2_passTick_10 rfl (lv_at hl 1 rfl) ?_
    refine lv_aload_n E.1 E.2.1 dX2_passTick_11 rfl (lv_at hl 0 rfl) ?_
    refine gX2_3 E hw mw_4_8 dX2_passTick_12 ?_
    refine lv_eqi (y := nI (N 5)) (congrArg nI (pbs_n hF (by decide) _ hd8)) ?_
    refine lv_icmp_geN (tgt := 29) E.1 E.2.1 (by omega) (by omega) dX2_passTick_15 (by decide) (fun c15 => ?_) (fun c15 => ?_)
    · skip
      refine lv_iconst (v := nI 0) E.1 E.2.1 dX2_passTick_29 (by decide) ?_
      refine lv_istore_n (lv' := [(1, .int (nI (0))), (0, .ref (a 0))]) E.1 E.2.1 dX2_passTick_30 rfl hl (by decide) rfl (fun ls hl => ?_)
      refine W_ind1 (nL := 2) (P := fun c => c ≤ 4) (μ := fun c => 4 - c) (I := fun c => sN G a (pcl c (if N 14 = 1 then N else pbs (N 5) N))) (L := fun c => [(0, .ref (a 0)), (1, .int (nI (c)))]) ?_ (0) (Nat.zero_le _) (HB.eq hw (by rw [pcl, if_neg c5, show d = N 5 by omega])) (lvh_eq (l := [(0, .ref (a 0)), (1, .int (nI (0)))]) (lv_sub hl [1, 0] rfl) (rfl))
      intro c hP2 ih2 H locs ls hw hl
      replace hw : HB G AA sS.heap (sN G a (pcl c (if N 14 = 1 then N else pbs (N 5) N))) H locs := hw
      replace hl : lv_has ls 2 [(0, .ref (a 0)), (1, .int (nI (c)))] := hl
      have hM0 := hF_p0 hF
      have hM := hM0.pl4 c hP2
      refine lv_iload_n E.1 E.2.1 dX2_passTick_31 rfl (lv_at hl 1 rfl) ?_
      refine lv_iconst (v := nI 4) E.1 E.2.1 dX2_passTick_32 (by decide) ?_
      refine lv_icmp_geN (tgt := 55) E.1 E.2.1 (by omega) (by omega) dX2_passTick_33 (by decide) (fun c33 => ?_) (fun c33 => ?_)
      · skip
        refine lv_aload_n E.1 E.2.1 dX2_passTick_55 rfl (lv_at hl 0 rfl) ?_
        refine lv_dup E.1 E.2.1 dX2_passTick_56 rfl ?_
        refine gX2_0 E hw mw_4_5 dX2_passTick_57 ?_
        refine lv_eqi (y := nI (N 4)) (congrArg nI ((pcl_n hM0 (by decide) _ (by omega)).trans (hF_p0n hF (by decide)))) ?_
        refine lv_iconst (v := nI 1) E.1 E.2.1 dX2_passTick_60 (by decide) ?_
        refine lv_addN E.1 E.2.1 dX2_passTick_61 ?_
        refine pN2_0 E hw mw_4_5 dX2_passTick_62 (fun H locs hw => ?_)
        exact rV E hr hlk (HB.eq hw (by rw [show c = 4 by omega]; rfl)) dX2_passTick_65
      · skip
        refine lv_aload_n E.1 E.2.1 dX2_passTick_36 rfl (lv_at hl 0 rfl) ?_
        refine lv_iload_n E.1 E.2.1 dX2_passTick_37 rfl (lv_at hl 1 rfl) ?_
        refine callVI E (c_X2_isIll l G a (pcl c (if N 14 = 1 then N else pbs (N 5) N)) c (pcl c (if N 14 = 1 then N else pbs (N 5) N) (10 + c)) (by omega) (rfl)) mw_6_23 YX2_isIll ⟨rfl, rfl⟩ ⟨Nat.le_of_ble_eq_true rfl, Nat.le_of_ble_eq_true rfl⟩ ⟨Nat.zero_le _, Nat.zero_le _⟩ hw 0 rfl rfl rfl hl rfl (Nat.le_of_ble_eq_true rfl) dX2_passTick_38 (fun H locs hw => ?_)
        refine lv_if_neB (tgt := 49) E.1 E.2.1 dX2_passTick_41 (by decide) (fun c41 => ?_) (fun c41 => ?_)
        · skip
          refine lv_iincN (k := 1) (lv' := [(1, .int (nI (c + 1))), (0, .ref (a 0))]) E.1 E.2.1 dX2_passTick_49 hl rfl (by decide) rfl (fun ls hl => ?_)
          refine lv_goto (tgt := 31) E.1 E.2.1 dX2_passTick_52 (by decide) ?_
          exact ih2 (c + 1) (by omega) (by omega) _ _ _ (HB.eq hw (by rw [pcl, if_pos c41])) (lvh_eq (l := [(0, .ref (a 0)), (1, .int (nI (c + 1)))]) (lv_sub hl [1, 0] rfl) (rfl))
        · skip
          refine lv_aload_n E.1 E.2.1 dX2_passTick_44 rfl (lv_at hl 0 rfl) ?_
          refine lv_iload_n E.1 E.2.1 dX2_passTick_45 rfl (lv_at hl 1 rfl) ?_
          refine callVV E (c_X2_askInDoubt l G a (pcl c (if N 14 = 1 then N else pbs (N 5) N)) c (by omega) (hM)) mw_16_23 YX2_askInDoubt ⟨rfl, rfl⟩ ⟨Nat.le_of_ble_eq_true rfl, Nat.le_of_ble_eq_true rfl⟩ ⟨Nat.zero_le _, Nat.zero_le _⟩ hw 0 rfl rfl rfl hl rfl (Nat.le_of_ble_eq_true rfl) dX2_passTick_46 (fun H locs hw => ?_)
          refine lv_iincN (k := 1) (lv' := [(1, .int (nI (c + 1))), (0, .ref (a 0))]) E.1 E.2.1 dX2_passTick_49 hl rfl (by decide) rfl (fun ls hl => ?_)
          refine lv_goto (tgt := 31) E.1 E.2.1 dX2_passTick_52 (by decide) ?_
          exact ih2 (c + 1) (by omega) (by omega) _ _ _ (HB.eq hw (by rw [pcl, if_neg c41, pcl_n hM0 (by decide) c (by omega)])) (lvh_eq (l := [(0, .ref (a 0)), (1, .int (nI (c + 1)))]) (lv_sub hl [1, 0] rfl) (rfl))
    · skip
      refine lv_aload_n E.1 E.2.1 dX2_passTick_18 rfl (lv_at hl 0 rfl) ?_
      refine lv_iload_n E.1 E.2.1 dX2_passTick_19 rfl (lv_at hl 1 rfl) ?_
      refine callVV E (c_X2_pressOn l G a (pbs d N) d (by omega) (hF.pb8 d (by omega))) mw_16_15 YX2_pressOn ⟨rfl, rfl⟩ ⟨Nat.le_of_ble_eq_true rfl, Nat.le_of_ble_eq_true rfl⟩ ⟨Nat.zero_le _, Nat.zero_le _⟩ hw 0 rfl rfl rfl hl rfl (Nat.le_of_ble_eq_true rfl) dX2_passTick_20 (fun H locs hw => ?_)
      refine lv_iincN (k := 1) (lv' := [(1, .int (nI (d + 1))), (0, .ref (a 0))]) E.1 E.2.1 dX2_passTick_23 hl rfl (by decide) rfl (fun ls hl => ?_)
      refine lv_goto (tgt := 10) E.1 E.2.1 dX2_passTick_26 (by decide) ?_
      exact ih1 (d + 1) (by omega) (by omega) _ _ _ (HB.eq hw (rfl)) (lvh_eq (l := [(0, .ref (a 0)), (1, .int (nI (d + 1)))]) (lv_sub hl [1, 0] rfl) (rfl))
theorem YX2_passTicks : YV yX2_passTicks RX2 cX2_passTicks 3 (some .int) 1 := ⟨mw_16_8, mw_16_9, mw_1_15, mw_16_10, by decide +kernel⟩
set_option maxHeartbeats 4000000 in
set_option maxRecDepth 100000 in
theorem c_X2_passTicks_bad (l : Launch) (G : GP) (a : Nat → Nat) (N : NS) (v : Int32) (h : ¬ (nI 1 ≤ v ∧ v ≤ nI 100)) : MI l yX2_passTicks (.code yX2_passTicks cX2_passTicks 3 (some .int) :: GW) ({ frames := 0, cells := 0, slots := 0, locals := 0 }) [.ref (a 0), .int (v)] G ES (sN G a (N)) (sN G a (N)) (-2) := by
  refine MI.of (own := RX2) rfl rfl (Nat.le_of_ble_eq_true rfl) ?_
  intro pP eE sS mM below meth cC ls AA E hw hl hr hlk hE
  replace hl : lv_has ls 3 [(0, .ref (a 0)), (1, .int (v))] := hl
  refine lv_iload_n E.1 E.2.1 dX2_passTicks_0 rfl (lv_at hl 1 rfl) ?_
  refine lv_iconst (v := nI 1) E.1 E.2.1 dX2_passTicks_1 (by decide) ?_
  refine lv_icmp_lt (tgt := 11) E.1 E.2.1 dX2_passTicks_2 (by decide) (fun c2 => ?_) (fun c2 => ?_)
  · skip
    refine lv_bipush (v := -2) E.1 E.2.1 dX2_passTicks_11 (by decide) ?_
    exact rI E hr hlk (HB.eq hw (rfl)) (rfl) dX2_passTicks_13
  · skip
    refine lv_iload_n E.1 E.2.1 dX2_passTicks_5 rfl (lv_at hl 1 rfl) ?_
    refine lv_bipush (v := nI 100) E.1 E.2.1 dX2_passTicks_6 (by decide) ?_
    refine lv_icmp_le (tgt := 14) E.1 E.2.1 dX2_passTicks_8 (by decide) (fun c8 => ?_) (fun c8 => ?_)
    · exact absurd ⟨Int32.not_lt.mp c2, c8⟩ h
    · skip
      refine lv_bipush (v := -2) E.1 E.2.1 dX2_passTicks_11 (by decide) ?_
      exact rI E hr hlk (HB.eq hw (rfl)) (rfl) dX2_passTicks_13
set_option maxHeartbeats 4000000 in
set_option maxRecDepth 100000 in
theorem c_X2_passTicks_ok (l : Launch) (G : GP) (a : Nat → Nat) (N : NS) (t : Nat) (ht : 1 ≤ t ∧ t ≤ 100) (hF : FI N) : MI l yX2_passTicks (.code yX2_passTicks cX2_passTicks 3 (some .int) :: GW) ({ frames := 4, cells := 0, slots := 0, locals := 93 }) [.ref (a 0), .int (nI (t))] G ES (sN G a (N)) (sN G a (mTicks t N)) (nI (mTicks t N 4)) := by
  refine MI.of (own := RX2) rfl rfl (Nat.le_of_ble_eq_true rfl) ?_
  intro pP eE sS mM below meth cC ls AA E hw hl hr hlk hE
  replace hl : lv_has ls 3 [(0, .ref (a 0)), (1, .int (nI (t)))] := hl
  refine lv_iload_n E.1 E.2.1 dX2_passTicks_0 rfl (lv_at hl 1 rfl) ?_
  refine lv_iconst (v := nI 1) E.1 E.2.1 dX2_passTicks_1 (by decide) ?_
  refine lv_icmp_ltN (tgt := 11) E.1 E.2.1 (by omega) (by omega) dX2_passTicks_2 (by decide) (fun c2 => ?_) (fun c2 => ?_)
  · omega
  · skip
    refine lv_iload_n E.1 E.2.1 dX2_passTicks_5 rfl (lv_at hl 1 rfl) ?_
    refine lv_bipush (v := nI 100) E.1 E.2.1 dX2_passTicks_6 (by decide) ?_
    refine lv_icmp_leN (tgt := 14) E.1 E.2.1 (by omega) (by omega) dX2_passTicks_8 (by decide) (fun c8 => ?_) (fun c8 => ?_)
    · skip
      refine lv_iconst (v := nI 0) E.1 E.2.1 dX2_passTicks_14 (by decide) ?_
      refine lv_istore_n (lv' := [(2, .int (nI (0))), (0, .ref (a 0)), (1, .int (nI (t)))]) E.1 E.2.1 dX2_passTicks_15 rfl hl (by decide) rfl (fun ls hl => ?_)
      refine W_ind1 (nL := 3) (P := fun k => k ≤ t) (μ := fun k => t - k) (I := fun k => sN G a (mTicks k N)) (L := fun k => [(0, .ref (a 0)), (1, .int (nI (t))), (2, .int (nI (k)))]) ?_ (0) (Nat.zero_le _) (HB.eq hw (rfl)) (lvh_eq (l := [(0, .ref (a 0)), (1, .int (nI (t))), (2, .int (nI (0)))]) (lv_sub hl [1, 2, 0] rfl) (rfl))
      intro k hP ih H locs ls hw hl
      replace hw : HB G AA sS.heap (sN G a (mTicks k N)) H locs := hw
      replace hl : lv_has ls 3 [(0, .ref (a 0)), (1, .int (nI (t))), (2, .int (nI (k)))] := hl
      refine lv_iload_n E.1 E.2.1 dX2_passTicks_16 rfl (lv_at hl 2 rfl) ?_
      refine lv_iload_n E.1 E.2.1 dX2_passTicks_17 rfl (lv_at hl 1 rfl) ?_
      refine lv_icmp_geN (tgt := 31) E.1 E.2.1 (by omega) (by omega) dX2_passTicks_18 (by decide) (fun c18 => ?_) (fun c18 => ?_)
      · skip
        refine lv_aload_n E.1 E.2.1 dX2_passTicks_31 rfl (lv_at hl 0 rfl) ?_
        refine gX2_0 E hw mw_4_5 dX2_passTicks_32 ?_
        refine lv_eqi (y := nI (mTicks k N 4)) (congrArg nI (rfl)) ?_
        exact rI E hr hlk (HB.eq hw (by rw [show k = t by omega])) (by rw [show k = t by omega]) dX2_passTicks_35
      · skip
        refine lv_aload_n E.1 E.2.1 dX2_passTicks_21 rfl (lv_at hl 0 rfl) ?_
        refine callVV E (c_X2_passTick l G a (mTicks k N) (hF.ticks k)) mw_16_11 YX2_passTick ⟨rfl, rfl⟩ ⟨Nat.le_of_ble_eq_true rfl, Nat.le_of_ble_eq_true rfl⟩ ⟨Nat.zero_le _, Nat.zero_le _⟩ hw 0 rfl rfl rfl hl rfl (Nat.le_of_ble_eq_true rfl) dX2_passTicks_22 (fun H locs hw => ?_)
        refine lv_iincN (k := 2) (lv' := [(2, .int (nI (k + 1))), (0, .ref (a 0)), (1, .int (nI (t)))]) E.1 E.2.1 dX2_passTicks_25 hl rfl (by decide) rfl (fun ls hl => ?_)
        refine lv_goto (tgt := 16) E.1 E.2.1 dX2_passTicks_28 (by decide) ?_
        exact ih (k + 1) (by omega) (by omega) _ _ _ (HB.eq hw (rfl)) (lvh_eq (l := [(0, .ref (a 0)), (1, .int (nI (t))), (2, .int (nI (k + 1)))]) (lv_sub hl [1, 2, 0] rfl) (rfl))
    · omega
theorem YX2_dropMessage : YV yX2_dropMessage RX2 cX2_dropMessage 2 (some .int) 1 := ⟨mw_13_2, mw_13_3, mw_1_15, mw_13_4, by decide +kernel⟩
set_option maxHeartbeats 4000000 in
set_option maxRecDepth 100000 in
theorem c_X2_dropMessage_bad (l : Launch) (G : GP) (a : Nat → Nat) (N : NS) (p : Int32) (h : ¬ (0 ≤ p ∧ p < nI (N 6))) : MI l yX2_dropMessage (.code yX2_dropMessage cX2_dropMessage 2 (some .int) :: GW) ({ frames := 1, cells := 0, slots := 0, locals := 21 }) [.ref (a 0), .int (p)] G ES (sN G a (N)) (sN G a (N)) (-1) := by
  refine MI.of (own := RX2) rfl rfl (Nat.le_of_ble_eq_true rfl) ?_
  intro pP eE sS mM below meth cC ls AA E hw hl hr hlk hE
  replace hl : lv_has ls 2 [(0, .ref (a 0)), (1, .int (p))] := hl
  refine lv_aload_n E.1 E.2.1 dX2_dropMessage_0 rfl (lv_at hl 0 rfl) ?_
  refine gX2_5 E hw mw_2_10 dX2_dropMessage_1 ?_
  refine lv_iload_n E.1 E.2.1 dX2_dropMessage_4 rfl (lv_at hl 1 rfl) ?_
  refine callVI E (c_X1_has l G a (N) (p)) mw_8_21 YX1_has ⟨rfl, rfl⟩ ⟨Nat.le_of_ble_eq_true rfl, Nat.le_of_ble_eq_true rfl⟩ ⟨Nat.zero_le _, Nat.zero_le _⟩ hw 2 rfl rfl rfl hl rfl (Nat.le_of_ble_eq_true rfl) dX2_dropMessage_5 (fun H locs hw => ?_)
  refine lv_if_neB (tgt := 13) E.1 E.2.1 dX2_dropMessage_8 (by decide) (fun c8 => ?_) (fun c8 => ?_)
  · exact absurd c8 h
  · skip
    refine lv_iconst (v := -1) E.1 E.2.1 dX2_dropMessage_11 (by decide) ?_
    exact rI E hr hlk (HB.eq hw (rfl)) (rfl) dX2_dropMessage_12
set_option maxHeartbeats 4000000 in
set_option maxRecDepth 100000 in
theorem c_X2_dropMessage_ok (l : Launch) (G : GP) (a : Nat → Nat) (N : NS) (p : Nat) (hp : p < N 6) (h6 : N 6 ≤ 60) : MI l yX2_dropMessage (.code yX2_dropMessage cX2_dropMessage 2 (some .int) :: GW) ({ frames := 2, cells := 0, slots := 0, locals := 40 }) [.ref (a 0), .int (nI (p))] G ES (sN G a (N)) (sN G a (mLose p N)) (nI (mLose p N 6)) := by
  refine MI.of (own := RX2) rfl rfl (Nat.le_of_ble_eq_true rfl) ?_
  intro pP eE sS mM below meth cC ls AA E hw hl hr hlk hE
  replace hl : lv_has ls 2 [(0, .ref (a 0)), (1, .int (nI (p)))] := hl
  refine lv_aload_n E.1 E.2.1 dX2_dropMessage_0 rfl (lv_at hl 0 rfl) ?_
  refine gX2_5 E hw mw_2_10 dX2_dropMessage_1 ?_
  refine lv_iload_n E.1 E.2.1 dX2_dropMessage_4 rfl (lv_at hl 1 rfl) ?_
  refine callVI E (c_X1_has l G a (N) (nI (p))) mw_8_21 YX1_has ⟨rfl, rfl⟩ ⟨Nat.le_of_ble_eq_true rfl, Nat.le_of_ble_eq_true rfl⟩ ⟨Nat.zero_le _, Nat.zero_le _⟩ hw 2 rfl rfl rfl hl rfl (Nat.le_of_ble_eq_true rfl) dX2_dropMessage_5 (fun H locs hw => ?_)
  refine lv_if_neB (tgt := 13) E.1 E.2.1 dX2_dropMessage_8 (by decide) (fun c8 => ?_) (fun c8 => ?_)
  · skip
    refine lv_aload_n E.1 E.2.1 dX2_dropMessage_13 rfl (lv_at hl 0 rfl) ?_
    refine gX2_5 E hw mw_2_10 dX2_dropMessage_14 ?_
    refine lv_iload_n E.1 E.2.1 dX2_dropMessage_17 rfl (lv_at hl 1 rfl) ?_
    refine callVV E (c_X1_remove l G a (N) p (by omega) (by omega)) mw_9_5 YX1_remove ⟨rfl, rfl⟩ ⟨Nat.le_of_ble_eq_true rfl, Nat.le_of_ble_eq_true rfl⟩ ⟨Nat.zero_le _, Nat.zero_le _⟩ hw 2 rfl rfl rfl hl rfl (Nat.le_of_ble_eq_true rfl) dX2_dropMessage_18 (fun H locs hw => ?_)
    refine lv_aload_n E.1 E.2.1 dX2_dropMessage_21 rfl (lv_at hl 0 rfl) ?_
    refine gX2_5 E hw mw_2_10 dX2_dropMessage_22 ?_
    refine lv_dup E.1 E.2.1 dX2_dropMessage_25 rfl ?_
    refine gX1_1 E hw mw_8_18 dX2_dropMessage_26 ?_
    refine lv_eqi (y := nI (mDrop p N 8)) (congrArg nI (rfl)) ?_
    refine lv_iconst (v := nI 1) E.1 E.2.1 dX2_dropMessage_29 (by decide) ?_
    refine lv_addN E.1 E.2.1 dX2_dropMessage_30 ?_
    refine pN2_5 E hw mw_8_18 dX2_dropMessage_31 (fun H locs hw => ?_)
    refine lv_aload_n E.1 E.2.1 dX2_dropMessage_34 rfl (lv_at hl 0 rfl) ?_
    refine gX2_5 E hw mw_2_10 dX2_dropMessage_35 ?_
    refine gX1_0 E hw mw_8_19 dX2_dropMessage_38 ?_
    refine lv_eqi (y := nI (mLose p N 6)) (congrArg nI (rfl)) ?_
    exact rI E hr hlk (HB.eq hw (rfl)) (rfl) dX2_dropMessage_41
  · exact absurd (in0 (by omega) (by omega)) c8
theorem YX2_repeatMessage : YV yX2_repeatMessage RX2 cX2_repeatMessage 2 (some .int) 1 := ⟨mw_13_18, mw_13_19, mw_1_15, mw_13_20, by decide +kernel⟩
set_option maxHeartbeats 4000000 in
set_option maxRecDepth 100000 in
theorem c_X2_repeatMessage_bad (l : Launch) (G : GP) (a : Nat → Nat) (N : NS) (p : Int32) (h : ¬ (0 ≤ p ∧ p < nI (N 6))) : MI l yX2_repeatMessage (.code yX2_repeatMessage cX2_repeatMessage 2 (some .int) :: GW) ({ frames := 1, cells := 0, slots := 0, locals := 21 }) [.ref (a 0), .int (p)] G ES (sN G a (N)) (sN G a (N)) (-1) := by
  refine MI.of (own := RX2) rfl rfl (Nat.le_of_ble_eq_true rfl) ?_
  intro pP eE sS mM below meth cC ls AA E hw hl hr hlk hE
  replace hl : lv_has ls 2 [(0, .ref (a 0)), (1, .int (p))] := hl
  refine lv_aload_n E.1 E.2.1 dX2_repeatMessage_0 rfl (lv_at hl 0 rfl) ?_
  refine gX2_5 E hw mw_2_10 dX2_repeatMessage_1 ?_
  refine lv_iload_n E.1 E.2.1 dX2_repeatMessage_4 rfl (lv_at hl 1 rfl) ?_
  refine callVI E (c_X1_has l G a (N) (p)) mw_8_21 YX1_has ⟨rfl, rfl⟩ ⟨Nat.le_of_ble_eq_true rfl, Nat.le_of_ble_eq_true rfl⟩ ⟨Nat.zero_le _, Nat.zero_le _⟩ hw 2 rfl rfl rfl hl rfl (Nat.le_of_ble_eq_true rfl) dX2_repeatMessage_5 (fun H locs hw => ?_)
  refine lv_if_neB (tgt := 13) E.1 E.2.1 dX2_repeatMessage_8 (by decide) (fun c8 => ?_) (fun c8 => ?_)
  · exact absurd c8 h
  · skip
    refine lv_iconst (v := -1) E.1 E.2.1 dX2_repeatMessage_11 (by decide) ?_
    exact rI E hr hlk (HB.eq hw (rfl)) (rfl) dX2_repeatMessage_12
set_option maxHeartbeats 4000000 in
set_option maxRecDepth 100000 in
theorem c_X2_repeatMessage_full (l : Launch) (G : GP) (a : Nat → Nat) (N : NS) (p : Nat) (hp : p < N 6) (hL : N 6 = 60) : MI l yX2_repeatMessage (.code yX2_repeatMessage cX2_repeatMessage 2 (some .int) :: GW) ({ frames := 1, cells := 0, slots := 0, locals := 21 }) [.ref (a 0), .int (nI (p))] G ES (sN G a (N)) (sN G a (N)) (-4) := by
  refine MI.of (own := RX2) rfl rfl (Nat.le_of_ble_eq_true rfl) ?_
  intro pP eE sS mM below meth cC ls AA E hw hl hr hlk hE
  replace hl : lv_has ls 2 [(0, .ref (a 0)), (1, .int (nI (p)))] := hl
  refine lv_aload_n E.1 E.2.1 dX2_repeatMessage_0 rfl (lv_at hl 0 rfl) ?_
  refine gX2_5 E hw mw_2_10 dX2_repeatMessage_1 ?_
  refine lv_iload_n E.1 E.2.1 dX2_repeatMessage_4 rfl (lv_at hl 1 rfl) ?_
  refine callVI E (c_X1_has l G a (N) (nI (p))) mw_8_21 YX1_has ⟨rfl, rfl⟩ ⟨Nat.le_of_ble_eq_true rfl, Nat.le_of_ble_eq_true rfl⟩ ⟨Nat.zero_le _, Nat.zero_le _⟩ hw 2 rfl rfl rfl hl rfl (Nat.le_of_ble_eq_true rfl) dX2_repeatMessage_5 (fun H locs hw => ?_)
  refine lv_if_neB (tgt := 13) E.1 E.2.1 dX2_repeatMessage_8 (by decide) (fun c8 => ?_) (fun c8 => ?_)
  · skip
    refine lv_aload_n E.1 E.2.1 dX2_repeatMessage_13 rfl (lv_at hl 0 rfl) ?_
    refine gX2_5 E hw mw_2_10 dX2_repeatMessage_14 ?_
    refine gX1_0 E hw mw_8_19 dX2_repeatMessage_17 ?_
    refine lv_eqi (y := nI (N 6)) (rfl) ?_
    refine lv_bipush (v := nI 60) E.1 E.2.1 dX2_repeatMessage_20 (by decide) ?_
    refine lv_icmp_ltN (tgt := 28) E.1 E.2.1 (by omega) (by omega) dX2_repeatMessage_22 (by decide) (fun c22 => ?_) (fun c22 => ?_)
    · omega
    · skip
      refine lv_bipush (v := -4) E.1 E.2.1 dX2_repeatMessage_25 (by decide) ?_
      exact rI E hr hlk (HB.eq hw (rfl)) (rfl) dX2_repeatMessage_27
  · exact absurd (in0 (by omega) (by omega)) c8
set_option maxHeartbeats 4000000 in
set_option maxRecDepth 100000 in
theorem c_X2_repeatMessage_ok (l : Launch) (G : GP) (a : Nat → Nat) (N : NS) (p : Nat) (hp : p < N 6) (h6 : N 6 ≤ 60) (hL : ¬ N 6 = 60) : MI l yX2_repeatMessage (.code yX2_repeatMessage cX2_repeatMessage 2 (some .int) :: GW) ({ frames := 2, cells := 0, slots := 0, locals := 39 }) [.ref (a 0), .int (nI (p))] G ES (sN G a (N)) (sN G a (mTwi p N)) (nI (mTwi p N 6)) := by
  refine MI.of (own := RX2) rfl rfl (Nat.le_of_ble_eq_true rfl) ?_
  intro pP eE sS mM below meth cC ls AA E hw hl hr hlk hE
  replace hl : lv_has ls 2 [(0, .ref (a 0)), (1, .int (nI (p)))] := hl
  refine lv_aload_n E.1 E.2.1 dX2_repeatMessage_0 rfl (lv_at hl 0 rfl) ?_
  refine gX2_5 E hw mw_2_10 dX2_repeatMessage_1 ?_
  refine lv_iload_n E.1 E.2.1 dX2_repeatMessage_4 rfl (lv_at hl 1 rfl) ?_
  refine callVI E (c_X1_has l G a (N) (nI (p))) mw_8_21 YX1_has ⟨rfl, rfl⟩ ⟨Nat.le_of_ble_eq_true rfl, Nat.le_of_ble_eq_true rfl⟩ ⟨Nat.zero_le _, Nat.zero_le _⟩ hw 2 rfl rfl rfl hl rfl (Nat.le_of_ble_eq_true rfl) dX2_repeatMessage_5 (fun H locs hw => ?_)
  refine lv_if_neB (tgt := 13) E.1 E.2.1 dX2_repeatMessage_8 (by decide) (fun c8 => ?_) (fun c8 => ?_)
  · skip
    refine lv_aload_n E.1 E.2.1 dX2_repeatMessage_13 rfl (lv_at hl 0 rfl) ?_
    refine gX2_5 E hw mw_2_10 dX2_repeatMessage_14 ?_
    refine gX1_0 E hw mw_8_19 dX2_repeatMessage_17 ?_
    refine lv_eqi (y := nI (N 6)) (rfl) ?_
    refine lv_bipush (v := nI 60) E.1 E.2.1 dX2_repeatMessage_20 (by decide) ?_
    refine lv_icmp_ltN (tgt := 28) E.1 E.2.1 (by omega) (by omega) dX2_repeatMessage_22 (by decide) (fun c22 => ?_) (fun c22 => ?_)
    · skip
      refine lv_aload_n E.1 E.2.1 dX2_repeatMessage_28 rfl (lv_at hl 0 rfl) ?_
      refine gX2_5 E hw mw_2_10 dX2_repeatMessage_29 ?_
      refine lv_iload_n E.1 E.2.1 dX2_repeatMessage_32 rfl (lv_at hl 1 rfl) ?_
      refine callVV E (c_X1_repeat l G a (N) p (by omega) (by omega)) mw_13_21 YX1_repeat ⟨rfl, rfl⟩ ⟨Nat.le_of_ble_eq_true rfl, Nat.le_of_ble_eq_true rfl⟩ ⟨Nat.zero_le _, Nat.zero_le _⟩ hw 2 rfl rfl rfl hl rfl (Nat.le_of_ble_eq_true rfl) dX2_repeatMessage_33 (fun H locs hw => ?_)
      refine lv_aload_n E.1 E.2.1 dX2_repeatMessage_36 rfl (lv_at hl 0 rfl) ?_
      refine gX2_5 E hw mw_2_10 dX2_repeatMessage_37 ?_
      refine gX1_0 E hw mw_8_19 dX2_repeatMessage_40 ?_
      refine lv_eqi (y := nI (mTwi p N 6)) (congrArg nI (rfl)) ?_
      exact rI E hr hlk (HB.eq hw (rfl)) (rfl) dX2_repeatMessage_43
    · omega
  · exact absurd (in0 (by omega) (by omega)) c8
theorem YX2_forget : YV yX2_forget RX2 cX2_forget 3 none 2 := ⟨mw_14_17, mw_14_18, mw_1_15, mw_14_19, by decide +kernel⟩
set_option maxHeartbeats 4000000 in
set_option maxRecDepth 100000 in
theorem c_X2_forget (l : Launch) (G : GP) (a : Nat → Nat) (N : NS) (d w : Nat) (hd : d < 8) (hw : w < 5) (hF : FI N) : MV l yX2_forget (.code yX2_forget cX2_forget 3 none :: GW) ({ frames := 2, cells := 0, slots := 0, locals := 45 }) [.ref (a 0), .int (nI (d)), .int (nI (w))] G ES (sN G a (N)) (sN G a (mFgt w d N)) := by
  have hw5 := hw
  refine MV.of (own := RX2) rfl rfl (Nat.le_of_ble_eq_true rfl) ?_
  intro pP eE sS mM below meth cC ls AA E hw hl hr hlk hE
  replace hl : lv_has ls 3 [(0, .ref (a 0)), (1, .int (nI (d))), (2, .int (nI (w)))] := hl
  have h1 := hF.f1 hd
  have h5x := hF.f5 hd
  refine lv_iload_n E.1 E.2.1 dX2_forget_0 rfl (lv_at hl 2 rfl) ?_
  refine lv_iconst (v := nI 4) E.1 E.2.1 dX2_forget_1 (by decide) ?_
  refine lv_icmp_eqN (tgt := 26) E.1 E.2.1 (by omega) (by omega) dX2_forget_2 (by decide) (fun c2 => ?_) (fun c2 => ?_)
  · skip
    refine lv_aload_n E.1 E.2.1 dX2_forget_26 rfl (lv_at hl 0 rfl) ?_
    refine gX2_7 E hw mw_2_12 dX2_forget_27 ?_
    refine lv_iload_n E.1 E.2.1 dX2_forget_30 rfl (lv_at hl 1 rfl) ?_
    refine lN2_5 E hw (v := N (30 + 14 * d + 1)) (by omega) (rfl) dX2_forget_31 ?_
    refine lv_if_neN (tgt := 45) E.1 E.2.1 (by omega) dX2_forget_32 (by decide) (fun c32 => ?_) (fun c32 => ?_)
    · skip
      refine lv_aload_n E.1 E.2.1 dX2_forget_45 rfl (lv_at hl 0 rfl) ?_
      refine gX2_7 E hw mw_2_12 dX2_forget_46 ?_
      refine lv_iload_n E.1 E.2.1 dX2_forget_49 rfl (lv_at hl 1 rfl) ?_
      refine lN2_5 E hw (v := N (30 + 14 * d + 1)) (by omega) (rfl) dX2_forget_50 ?_
      refine lv_iconst (v := nI 1) E.1 E.2.1 dX2_forget_51 (by decide) ?_
      refine lv_icmp_neN (tgt := 62) E.1 E.2.1 (by omega) (by omega) dX2_forget_52 (by decide) (fun c52 => ?_) (fun c52 => ?_)
      · skip
        exact rV E hr hlk (HB.eq hw (congrArg (fun M => sN G a M) (mFgt4_n c2 c32 c52))) dX2_forget_62
      · skip
        refine lv_aload_n E.1 E.2.1 dX2_forget_55 rfl (lv_at hl 0 rfl) ?_
        refine gX2_11 E hw mw_2_16 dX2_forget_56 ?_
        refine lv_iload_n E.1 E.2.1 dX2_forget_59 rfl (lv_at hl 1 rfl) ?_
        refine lv_iconst (v := nI 0) E.1 E.2.1 dX2_forget_60 (by decide) ?_
        refine sN2_9 E hw (by omega) dX2_forget_61 (fun H locs hw => ?_)
        exact rV E hr hlk (HB.eq hw (congrArg (fun M => sN G a M) (mFgt4_1 c2 c52))) dX2_forget_62
    · skip
      refine lv_aload_n E.1 E.2.1 dX2_forget_35 rfl (lv_at hl 0 rfl) ?_
      refine gX2_7 E hw mw_2_12 dX2_forget_36 ?_
      refine lv_iload_n E.1 E.2.1 dX2_forget_39 rfl (lv_at hl 1 rfl) ?_
      refine lv_iconst (v := nI 2) E.1 E.2.1 dX2_forget_40 (by decide) ?_
      refine sN2_5 E hw (by omega) dX2_forget_41 (fun H locs hw => ?_)
      refine lv_goto (tgt := 62) E.1 E.2.1 dX2_forget_42 (by decide) ?_
      exact rV E hr hlk (HB.eq hw (congrArg (fun M => sN G a M) (mFgt4_0 c2 c32))) dX2_forget_62
  · skip
    have hw4 : w < 4 := by omega
    refine lv_aload_n E.1 E.2.1 dX2_forget_5 rfl (lv_at hl 0 rfl) ?_
    refine lv_iload_n E.1 E.2.1 dX2_forget_6 rfl (lv_at hl 1 rfl) ?_
    refine lv_iload_n E.1 E.2.1 dX2_forget_7 rfl (lv_at hl 2 rfl) ?_
    refine lv_iconst (v := nI 0) E.1 E.2.1 dX2_forget_8 (by decide) ?_
    refine callVI E (c_X2_stands_g l G a (N) d w 0 (by omega) (by omega) (by omega)) mw_9_13 YX2_stands ⟨rfl, rfl⟩ ⟨Nat.le_of_ble_eq_true rfl, Nat.le_of_ble_eq_true rfl⟩ ⟨Nat.zero_le _, Nat.zero_le _⟩ hw 0 rfl rfl rfl hl rfl (Nat.le_of_ble_eq_true rfl) dX2_forget_9 (fun H locs hw => ?_)
    refine lv_if_eqB (tgt := 62) E.1 E.2.1 dX2_forget_12 (by decide) (fun c12 => ?_) (fun c12 => ?_)
    · skip
      exact rV E hr hlk (HB.eq hw (congrArg (fun M => sN G a M) (mFgt_no c2 c12))) dX2_forget_62
    · skip
      obtain ⟨hb, h0⟩ := c12
      refine lv_aload_n E.1 E.2.1 dX2_forget_15 rfl (lv_at hl 0 rfl) ?_
      refine lv_iload_n E.1 E.2.1 dX2_forget_16 rfl (lv_at hl 1 rfl) ?_
      refine lv_iload_n E.1 E.2.1 dX2_forget_17 rfl (lv_at hl 2 rfl) ?_
      refine lv_iconst (v := nI 0) E.1 E.2.1 dX2_forget_18 (by decide) ?_
      refine lv_iconst (v := nI 3) E.1 E.2.1 dX2_forget_19 (by decide) ?_
      refine callVV E (c_X2_move l G a (N) d w 0 3 (by omega) (by omega) (by omega) (by omega) (by omega) hb (by first | assumption | omega)) mw_9_21 YX2_move ⟨rfl, rfl⟩ ⟨Nat.le_of_ble_eq_true rfl, Nat.le_of_ble_eq_true rfl⟩ ⟨Nat.zero_le _, Nat.zero_le _⟩ hw 0 rfl rfl rfl hl rfl (Nat.le_of_ble_eq_true rfl) dX2_forget_20 (fun H locs hw => ?_)
      refine lv_goto (tgt := 62) E.1 E.2.1 dX2_forget_23 (by decide) ?_
      exact rV E hr hlk (HB.eq hw (by rw [mFgt, if_neg c2, if_pos h0, if_pos hb])) dX2_forget_62
theorem YX2_fallIll : YV yX2_fallIll RX2 cX2_fallIll 3 (some .int) 1 := ⟨mw_14_10, mw_14_11, mw_1_15, mw_14_12, by decide +kernel⟩
set_option maxHeartbeats 4000000 in
set_option maxRecDepth 100000 in
theorem c_X2_fallIll_bad (l : Launch) (G : GP) (a : Nat → Nat) (N : NS) (v : Int32) (h : ¬ (nI 0 ≤ v ∧ v ≤ nI 4)) : MI l yX2_fallIll (.code yX2_fallIll cX2_fallIll 3 (some .int) :: GW) ({ frames := 1, cells := 0, slots := 0, locals := 20 }) [.ref (a 0), .int (v)] G ES (sN G a (N)) (sN G a (N)) (-1) := by
  refine MI.of (own := RX2) rfl rfl (Nat.le_of_ble_eq_true rfl) ?_
  intro pP eE sS mM below meth cC ls AA E hw hl hr hlk hE
  replace hl : lv_has ls 3 [(0, .ref (a 0)), (1, .int (v))] := hl
  refine lv_iload_n E.1 E.2.1 dX2_fallIll_0 rfl (lv_at hl 1 rfl) ?_
  refine callSI E (c_X2_isSomebody l G (v)) mw_14_13 YX2_isSomebody ⟨rfl, rfl⟩ ⟨Nat.le_of_ble_eq_true rfl, Nat.le_of_ble_eq_true rfl⟩ ⟨Nat.zero_le _, Nat.zero_le _⟩ hw (w := []) (w' := []) (rr := sN G a (N)) (big' := sN G a (N)) (List.Perm.refl _) (List.Perm.refl _) rfl hl rfl (Nat.le_of_ble_eq_true rfl) dX2_fallIll_1 (fun H locs hw => ?_)
  refine lv_if_neB (tgt := 9) E.1 E.2.1 dX2_fallIll_4 (by decide) (fun c4 => ?_) (fun c4 => ?_)
  · exact absurd ⟨c4.1, lt_le5 c4.2⟩ h
  · skip
    refine lv_iconst (v := -1) E.1 E.2.1 dX2_fallIll_7 (by decide) ?_
    exact rI E hr hlk (HB.eq hw (rfl)) (rfl) dX2_fallIll_8
set_option maxHeartbeats 4000000 in
set_option maxRecDepth 100000 in
theorem c_X2_fallIll_ok (l : Launch) (G : GP) (a : Nat → Nat) (N : NS) (w : Nat) (hw : w < 5) (hF : FI N) : MI l yX2_fallIll (.code yX2_fallIll cX2_fallIll 3 (some .int) :: GW) ({ frames := 3, cells := 0, slots := 0, locals := 67 }) [.ref (a 0), .int (nI (w))] G ES (sN G a (N)) (sN G a (nFal w N)) (rFal w N) := by
  have hw5 := hw
  refine MI.of (own := RX2) rfl rfl (Nat.le_of_ble_eq_true rfl) ?_
  intro pP eE sS mM below meth cC ls AA E hw hl hr hlk hE
  replace hl : lv_has ls 3 [(0, .ref (a 0)), (1, .int (nI (w)))] := hl
  have h5 := hF.2.1
  have hF1 := hF.uw (j := 10 + w) (v := 1) (by omega) (by decide)
  refine lv_iload_n E.1 E.2.1 dX2_fallIll_0 rfl (lv_at hl 1 rfl) ?_
  refine callSI E (c_X2_isSomebody l G (nI (w))) mw_14_13 YX2_isSomebody ⟨rfl, rfl⟩ ⟨Nat.le_of_ble_eq_true rfl, Nat.le_of_ble_eq_true rfl⟩ ⟨Nat.zero_le _, Nat.zero_le _⟩ hw (w := []) (w' := []) (rr := sN G a (N)) (big' := sN G a (N)) (List.Perm.refl _) (List.Perm.refl _) rfl hl rfl (Nat.le_of_ble_eq_true rfl) dX2_fallIll_1 (fun H locs hw => ?_)
  refine lv_if_neB (tgt := 9) E.1 E.2.1 dX2_fallIll_4 (by decide) (fun c4 => ?_) (fun c4 => ?_)
  · skip
    refine lv_aload_n E.1 E.2.1 dX2_fallIll_9 rfl (lv_at hl 0 rfl) ?_
    refine lv_iload_n E.1 E.2.1 dX2_fallIll_10 rfl (lv_at hl 1 rfl) ?_
    refine callVI E (c_X2_isIll l G a (N) w (N (10 + w)) (by omega) (rfl)) mw_6_23 YX2_isIll ⟨rfl, rfl⟩ ⟨Nat.le_of_ble_eq_true rfl, Nat.le_of_ble_eq_true rfl⟩ ⟨Nat.zero_le _, Nat.zero_le _⟩ hw 0 rfl rfl rfl hl rfl (Nat.le_of_ble_eq_true rfl) dX2_fallIll_11 (fun H locs hw => ?_)
    refine lv_if_eqB (tgt := 20) E.1 E.2.1 dX2_fallIll_14 (by decide) (fun c14 => ?_) (fun c14 => ?_)
    · skip
      refine lv_aload_n E.1 E.2.1 dX2_fallIll_20 rfl (lv_at hl 0 rfl) ?_
      refine lv_dup E.1 E.2.1 dX2_fallIll_21 rfl ?_
      refine gX2_1 E hw mw_4_6 dX2_fallIll_22 ?_
      refine lv_eqi (y := nI (illS N)) (rfl) ?_
      refine lv_iconst (v := nI 1) E.1 E.2.1 dX2_fallIll_25 (by decide) ?_
      refine lv_iload_n E.1 E.2.1 dX2_fallIll_26 rfl (lv_at hl 1 rfl) ?_
      refine lv_ishl E.1 E.2.1 dX2_fallIll_27 (lv_eqi (y := nI (2 ^ w)) (shl_1 _ (by omega)) ?_)
      refine lv_ior E.1 E.2.1 dX2_fallIll_28 (lv_eqi (y := nI (illS N ||| 2 ^ w)) (or_nI _ _) ?_)
      refine pN2_1 E hw mw_4_6 (w := w) (v := 1) (by omega) (congrArg nI (illS_1 hw5)) dX2_fallIll_29 (fun H locs hw => ?_)
      refine lv_iconst (v := nI 0) E.1 E.2.1 dX2_fallIll_32 (by decide) ?_
      refine lv_istore_n (lv' := [(2, .int (nI (0))), (0, .ref (a 0)), (1, .int (nI (w)))]) E.1 E.2.1 dX2_fallIll_33 rfl hl (by decide) rfl (fun ls hl => ?_)
      refine W_ind1 (nL := 3) (P := fun d => d ≤ N 5) (μ := fun d => N 5 - d) (I := fun d => sN G a (fgs w d (un N (10 + w) 1))) (L := fun d => [(0, .ref (a 0)), (1, .int (nI (w))), (2, .int (nI (d)))]) ?_ (0) (Nat.zero_le _) (HB.eq hw (rfl)) (lvh_eq (l := [(0, .ref (a 0)), (1, .int (nI (w))), (2, .int (nI (0)))]) (lv_sub hl [1, 2, 0] rfl) (rfl))
      intro d hP ih H locs ls hw hl
      replace hw : HB G AA sS.heap (sN G a (fgs w d (un N (10 + w) 1))) H locs := hw
      replace hl : lv_has ls 3 [(0, .ref (a 0)), (1, .int (nI (w))), (2, .int (nI (d)))] := hl
      have hM := hF1.fgs hw5 d (by omega)
      refine lv_iload_n E.1 E.2.1 dX2_fallIll_34 rfl (lv_at hl 2 rfl) ?_
      refine lv_aload_n E.1 E.2.1 dX2_fallIll_35 rfl (lv_at hl 0 rfl) ?_
      refine gX2_3 E hw mw_4_8 dX2_fallIll_36 ?_
      refine lv_eqi (y := nI (N 5)) (congrArg nI ((fgs_n hw5 (by omega) _ (by omega)).trans (un_n (by omega)))) ?_
      refine lv_icmp_geN (tgt := 54) E.1 E.2.1 (by omega) (by omega) dX2_fallIll_39 (by decide) (fun c39 => ?_) (fun c39 => ?_)
      · skip
        refine lv_aload_n E.1 E.2.1 dX2_fallIll_54 rfl (lv_at hl 0 rfl) ?_
        refine gX2_1 E hw mw_4_6 dX2_fallIll_55 ?_
        refine lv_eqi (y := nI (illS (fgs w d (un N (10 + w) 1)))) (rfl) ?_
        refine callSI E (c_J6_bitCount_0f7a4 l G (illS (fgs w d (un N (10 + w) 1))) (illS_lt)) mw_14_20 YJ6_bitCount_0f7a4 ⟨rfl, rfl⟩ ⟨Nat.le_of_ble_eq_true rfl, Nat.le_of_ble_eq_true rfl⟩ ⟨Nat.zero_le _, Nat.zero_le _⟩ hw (w := []) (w' := []) (rr := sN G a (fgs w d (un N (10 + w) 1))) (big' := sN G a (fgs w d (un N (10 + w) 1))) (List.Perm.refl _) (List.Perm.refl _) rfl hl rfl (Nat.le_of_ble_eq_true rfl) dX2_fallIll_58 (fun H locs hw => ?_)
        exact rI E hr hlk (HB.eq hw (by rw [nFal, if_neg c14, mFall, show d = N 5 by omega])) (by rw [rFal, if_neg c14, popc_ill hM, mFall, show d = N 5 by omega]) dX2_fallIll_61
      · skip
        refine lv_aload_n E.1 E.2.1 dX2_fallIll_42 rfl (lv_at hl 0 rfl) ?_
        refine lv_iload_n E.1 E.2.1 dX2_fallIll_43 rfl (lv_at hl 2 rfl) ?_
        refine lv_iload_n E.1 E.2.1 dX2_fallIll_44 rfl (lv_at hl 1 rfl) ?_
        refine callVV E (c_X2_forget l G a (fgs w d (un N (10 + w) 1)) d w (by omega) (by omega) (hM)) mw_14_16 YX2_forget ⟨rfl, rfl⟩ ⟨Nat.le_of_ble_eq_true rfl, Nat.le_of_ble_eq_true rfl⟩ ⟨Nat.zero_le _, Nat.zero_le _⟩ hw 0 rfl rfl rfl hl rfl (Nat.le_of_ble_eq_true rfl) dX2_fallIll_45 (fun H locs hw => ?_)
        refine lv_iincN (k := 2) (lv' := [(2, .int (nI (d + 1))), (0, .ref (a 0)), (1, .int (nI (w)))]) E.1 E.2.1 dX2_fallIll_48 hl rfl (by decide) rfl (fun ls hl => ?_)
        refine lv_goto (tgt := 34) E.1 E.2.1 dX2_fallIll_51 (by decide) ?_
        exact ih (d + 1) (by omega) (by omega) _ _ _ (HB.eq hw (rfl)) (lvh_eq (l := [(0, .ref (a 0)), (1, .int (nI (w))), (2, .int (nI (d + 1)))]) (lv_sub hl [1, 2, 0] rfl) (rfl))
    · skip
      refine lv_bipush (v := -5) E.1 E.2.1 dX2_fallIll_17 (by decide) ?_
      exact rI E hr hlk (HB.eq hw (by rw [nFal, if_pos c14])) (by rw [rFal, if_pos c14]) dX2_fallIll_19
  · exact absurd (in0 (by omega) (by omega)) c4
theorem YX2_getWell : YV yX2_getWell RX2 cX2_getWell 2 (some .int) 1 := ⟨mw_15_20, mw_15_21, mw_1_15, mw_15_22, by decide +kernel⟩
set_option maxHeartbeats 4000000 in
set_option maxRecDepth 100000 in
theorem c_X2_getWell_bad (l : Launch) (G : GP) (a : Nat → Nat) (N : NS) (v : Int32) (h : ¬ (nI 0 ≤ v ∧ v ≤ nI 4)) : MI l yX2_getWell (.code yX2_getWell cX2_getWell 2 (some .int) :: GW) ({ frames := 1, cells := 0, slots := 0, locals := 20 }) [.ref (a 0), .int (v)] G ES (sN G a (N)) (sN G a (N)) (-1) := by
  refine MI.of (own := RX2) rfl rfl (Nat.le_of_ble_eq_true rfl) ?_
  intro pP eE sS mM below meth cC ls AA E hw hl hr hlk hE
  replace hl : lv_has ls 2 [(0, .ref (a 0)), (1, .int (v))] := hl
  refine lv_iload_n E.1 E.2.1 dX2_getWell_0 rfl (lv_at hl 1 rfl) ?_
  refine callSI E (c_X2_isSomebody l G (v)) mw_14_13 YX2_isSomebody ⟨rfl, rfl⟩ ⟨Nat.le_of_ble_eq_true rfl, Nat.le_of_ble_eq_true rfl⟩ ⟨Nat.zero_le _, Nat.zero_le _⟩ hw (w := []) (w' := []) (rr := sN G a (N)) (big' := sN G a (N)) (List.Perm.refl _) (List.Perm.refl _) rfl hl rfl (Nat.le_of_ble_eq_true rfl) dX2_getWell_1 (fun H locs hw => ?_)
  refine lv_if_neB (tgt := 9) E.1 E.2.1 dX2_getWell_4 (by decide) (fun c4 => ?_) (fun c4 => ?_)
  · exact absurd ⟨c4.1, lt_le5 c4.2⟩ h
  · skip
    refine lv_iconst (v := -1) E.1 E.2.1 dX2_getWell_7 (by decide) ?_
    exact rI E hr hlk (HB.eq hw (rfl)) (rfl) dX2_getWell_8
set_option maxHeartbeats 4000000 in
set_option maxRecDepth 100000 in
theorem c_X2_getWell_ok (l : Launch) (G : GP) (a : Nat → Nat) (N : NS) (w : Nat) (hw : w < 5) (hF : FI N) : MI l yX2_getWell (.code yX2_getWell cX2_getWell 2 (some .int) :: GW) ({ frames := 2, cells := 0, slots := 0, locals := 42 }) [.ref (a 0), .int (nI (w))] G ES (sN G a (N)) (sN G a (nRis w N)) (rRis w N) := by
  have hw5 := hw
  refine MI.of (own := RX2) rfl rfl (Nat.le_of_ble_eq_true rfl) ?_
  intro pP eE sS mM below meth cC ls AA E hw hl hr hlk hE
  replace hl : lv_has ls 2 [(0, .ref (a 0)), (1, .int (nI (w)))] := hl
  have hil := illS_lt (N := N)
  refine lv_iload_n E.1 E.2.1 dX2_getWell_0 rfl (lv_at hl 1 rfl) ?_
  refine callSI E (c_X2_isSomebody l G (nI (w))) mw_14_13 YX2_isSomebody ⟨rfl, rfl⟩ ⟨Nat.le_of_ble_eq_true rfl, Nat.le_of_ble_eq_true rfl⟩ ⟨Nat.zero_le _, Nat.zero_le _⟩ hw (w := []) (w' := []) (rr := sN G a (N)) (big' := sN G a (N)) (List.Perm.refl _) (List.Perm.refl _) rfl hl rfl (Nat.le_of_ble_eq_true rfl) dX2_getWell_1 (fun H locs hw => ?_)
  refine lv_if_neB (tgt := 9) E.1 E.2.1 dX2_getWell_4 (by decide) (fun c4 => ?_) (fun c4 => ?_)
  · skip
    refine lv_aload_n E.1 E.2.1 dX2_getWell_9 rfl (lv_at hl 0 rfl) ?_
    refine lv_iload_n E.1 E.2.1 dX2_getWell_10 rfl (lv_at hl 1 rfl) ?_
    refine callVI E (c_X2_isIll l G a (N) w (N (10 + w)) (by omega) (rfl)) mw_6_23 YX2_isIll ⟨rfl, rfl⟩ ⟨Nat.le_of_ble_eq_true rfl, Nat.le_of_ble_eq_true rfl⟩ ⟨Nat.zero_le _, Nat.zero_le _⟩ hw 0 rfl rfl rfl hl rfl (Nat.le_of_ble_eq_true rfl) dX2_getWell_11 (fun H locs hw => ?_)
    refine lv_if_neB (tgt := 20) E.1 E.2.1 dX2_getWell_14 (by decide) (fun c14 => ?_) (fun c14 => ?_)
    · skip
      refine lv_aload_n E.1 E.2.1 dX2_getWell_20 rfl (lv_at hl 0 rfl) ?_
      refine lv_dup E.1 E.2.1 dX2_getWell_21 rfl ?_
      refine gX2_1 E hw mw_4_6 dX2_getWell_22 ?_
      refine lv_eqi (y := nI (illS N)) (rfl) ?_
      refine lv_iconst (v := nI 1) E.1 E.2.1 dX2_getWell_25 (by decide) ?_
      refine lv_iload_n E.1 E.2.1 dX2_getWell_26 rfl (lv_at hl 1 rfl) ?_
      refine lv_ishl E.1 E.2.1 dX2_getWell_27 (lv_eqi (y := nI (2 ^ w)) (shl_1 _ (by omega)) ?_)
      refine lv_iconst (v := -1) E.1 E.2.1 dX2_getWell_28 (by decide) ?_
      refine lv_ixor E.1 E.2.1 dX2_getWell_29 ?_
      refine lv_iand E.1 E.2.1 dX2_getWell_30 (lv_eqi (y := nI (illS N &&& (31 ^^^ 2 ^ w))) (andn_nI5 _ (by omega) _ (pow_lt32 _ (by omega))) ?_)
      refine pN2_1 E hw mw_4_6 (w := w) (v := 0) (by omega) (congrArg nI (illS_0 hw5)) dX2_getWell_31 (fun H locs hw => ?_)
      refine lv_aload_n E.1 E.2.1 dX2_getWell_34 rfl (lv_at hl 0 rfl) ?_
      refine gX2_1 E hw mw_4_6 dX2_getWell_35 ?_
      refine lv_eqi (y := nI (illS (un (N) (10 + w) (0)))) (rfl) ?_
      refine callSI E (c_J6_bitCount_0f7a4 l G (illS (un (N) (10 + w) (0))) (illS_lt)) mw_14_20 YJ6_bitCount_0f7a4 ⟨rfl, rfl⟩ ⟨Nat.le_of_ble_eq_true rfl, Nat.le_of_ble_eq_true rfl⟩ ⟨Nat.zero_le _, Nat.zero_le _⟩ hw (w := []) (w' := []) (rr := sN G a (un (N) (10 + w) (0))) (big' := sN G a (un (N) (10 + w) (0))) (List.Perm.refl _) (List.Perm.refl _) rfl hl rfl (Nat.le_of_ble_eq_true rfl) dX2_getWell_38 (fun H locs hw => ?_)
      exact rI E hr hlk (HB.eq hw (by rw [nRis, if_pos c14]; rfl)) (by rw [rRis, if_pos c14, popc_ill (hF.uw (by omega) (by decide))]; rfl) dX2_getWell_41
    · skip
      refine lv_bipush (v := -5) E.1 E.2.1 dX2_getWell_17 (by decide) ?_
      exact rI E hr hlk (HB.eq hw (by rw [nRis, if_neg c14])) (by rw [rRis, if_neg c14]) dX2_getWell_19
  · exact absurd (in0 (by omega) (by omega)) c4
theorem YX2_makeWilling : YV yX2_makeWilling RX2 cX2_makeWilling 4 (some .int) 2 := ⟨mw_6_3, mw_6_4, mw_1_15, mw_6_5, by decide +kernel⟩
set_option maxHeartbeats 4000000 in
set_option maxRecDepth 100000 in
theorem c_X2_makeWilling_bad1 (l : Launch) (G : GP) (a : Nat → Nat) (N : NS) (v w : Int32) (h : ¬ (nI 0 ≤ v ∧ v ≤ nI 3)) : MI l yX2_makeWilling (.code yX2_makeWilling cX2_makeWilling 4 (some .int) :: GW) ({ frames := 1, cells := 0, slots := 0, locals := 20 }) [.ref (a 0), .int (v), .int (w)] G ES (sN G a (N)) (sN G a (N)) (-1) := by
  refine MI.of (own := RX2) rfl rfl (Nat.le_of_ble_eq_true rfl) ?_
  intro pP eE sS mM below meth cC ls AA E hw hl hr hlk hE
  replace hl : lv_has ls 4 [(0, .ref (a 0)), (1, .int (v)), (2, .int (w))] := hl
  refine lv_iload_n E.1 E.2.1 dX2_makeWilling_0 rfl (lv_at hl 1 rfl) ?_
  refine callSI E (c_X2_isClerk l G (v)) mw_6_6 YX2_isClerk ⟨rfl, rfl⟩ ⟨Nat.le_of_ble_eq_true rfl, Nat.le_of_ble_eq_true rfl⟩ ⟨Nat.zero_le _, Nat.zero_le _⟩ hw (w := []) (w' := []) (rr := sN G a (N)) (big' := sN G a (N)) (List.Perm.refl _) (List.Perm.refl _) rfl hl rfl (Nat.le_of_ble_eq_true rfl) dX2_makeWilling_1 (fun H locs hw => ?_)
  refine lv_if_neB (tgt := 9) E.1 E.2.1 dX2_makeWilling_4 (by decide) (fun c4 => ?_) (fun c4 => ?_)
  · exact absurd ⟨c4.1, lt4_le3 c4.2⟩ h
  · skip
    refine lv_iconst (v := -1) E.1 E.2.1 dX2_makeWilling_7 (by decide) ?_
    exact rI E hr hlk (HB.eq hw (rfl)) (rfl) dX2_makeWilling_8
set_option maxHeartbeats 4000000 in
set_option maxRecDepth 100000 in
theorem c_X2_makeWilling_bad2 (l : Launch) (G : GP) (a : Nat → Nat) (N : NS) (v w : Int32) (h1 : nI 0 ≤ v ∧ v ≤ nI 3) (h : ¬ (nI 0 ≤ w ∧ w ≤ nI 1)) : MI l yX2_makeWilling (.code yX2_makeWilling cX2_makeWilling 4 (some .int) :: GW) ({ frames := 1, cells := 0, slots := 0, locals := 20 }) [.ref (a 0), .int (v), .int (w)] G ES (sN G a (N)) (sN G a (N)) (-2) := by
  refine MI.of (own := RX2) rfl rfl (Nat.le_of_ble_eq_true rfl) ?_
  intro pP eE sS mM below meth cC ls AA E hw hl hr hlk hE
  replace hl : lv_has ls 4 [(0, .ref (a 0)), (1, .int (v)), (2, .int (w))] := hl
  refine lv_iload_n E.1 E.2.1 dX2_makeWilling_0 rfl (lv_at hl 1 rfl) ?_
  refine callSI E (c_X2_isClerk l G (v)) mw_6_6 YX2_isClerk ⟨rfl, rfl⟩ ⟨Nat.le_of_ble_eq_true rfl, Nat.le_of_ble_eq_true rfl⟩ ⟨Nat.zero_le _, Nat.zero_le _⟩ hw (w := []) (w' := []) (rr := sN G a (N)) (big' := sN G a (N)) (List.Perm.refl _) (List.Perm.refl _) rfl hl rfl (Nat.le_of_ble_eq_true rfl) dX2_makeWilling_1 (fun H locs hw => ?_)
  refine lv_if_neB (tgt := 9) E.1 E.2.1 dX2_makeWilling_4 (by decide) (fun c4 => ?_) (fun c4 => ?_)
  · skip
    refine lv_iload_n E.1 E.2.1 dX2_makeWilling_9 rfl (lv_at hl 2 rfl) ?_
    refine lv_if_eq (tgt := 21) E.1 E.2.1 dX2_makeWilling_10 (by decide) (fun c10 => ?_) (fun c10 => ?_)
    · exact absurd (by rw [c10]; decide) h
    · skip
      refine lv_iload_n E.1 E.2.1 dX2_makeWilling_13 rfl (lv_at hl 2 rfl) ?_
      refine lv_iconst (v := nI 1) E.1 E.2.1 dX2_makeWilling_14 (by decide) ?_
      refine lv_icmp_eq (tgt := 21) E.1 E.2.1 dX2_makeWilling_15 (by decide) (fun c15 => ?_) (fun c15 => ?_)
      · exact absurd (by rw [c15]; decide) h
      · skip
        refine lv_bipush (v := -2) E.1 E.2.1 dX2_makeWilling_18 (by decide) ?_
        exact rI E hr hlk (HB.eq hw (rfl)) (rfl) dX2_makeWilling_20
  · exact absurd ⟨h1.1, le3_lt4 h1.2⟩ c4
set_option maxHeartbeats 4000000 in
set_option maxRecDepth 100000 in
theorem c_X2_makeWilling_ok (l : Launch) (G : GP) (a : Nat → Nat) (N : NS) (k v : Nat) (hk : k < 4) (hv : v ≤ 1) (hF : FI N) : MI l yX2_makeWilling (.code yX2_makeWilling cX2_makeWilling 4 (some .int) :: GW) ({ frames := 1, cells := 0, slots := 0, locals := 21 }) [.ref (a 0), .int (nI (k)), .int (nI (v))] G ES (sN G a (N)) (sN G a (un N (15 + k) v)) (nI (N (15 + k))) := by
  refine MI.of (own := RX2) rfl rfl (Nat.le_of_ble_eq_true rfl) ?_
  intro pP eE sS mM below meth cC ls AA E hw hl hr hlk hE
  replace hl : lv_has ls 4 [(0, .ref (a 0)), (1, .int (nI (k))), (2, .int (nI (v)))] := hl
  have hil := unwS_lt (N := N)
  have hwl := hF.wl hk
  refine lv_iload_n E.1 E.2.1 dX2_makeWilling_0 rfl (lv_at hl 1 rfl) ?_
  refine callSI E (c_X2_isClerk l G (nI (k))) mw_6_6 YX2_isClerk ⟨rfl, rfl⟩ ⟨Nat.le_of_ble_eq_true rfl, Nat.le_of_ble_eq_true rfl⟩ ⟨Nat.zero_le _, Nat.zero_le _⟩ hw (w := []) (w' := []) (rr := sN G a (N)) (big' := sN G a (N)) (List.Perm.refl _) (List.Perm.refl _) rfl hl rfl (Nat.le_of_ble_eq_true rfl) dX2_makeWilling_1 (fun H locs hw => ?_)
  refine lv_if_neB (tgt := 9) E.1 E.2.1 dX2_makeWilling_4 (by decide) (fun c4 => ?_) (fun c4 => ?_)
  · skip
    refine lv_iload_n E.1 E.2.1 dX2_makeWilling_9 rfl (lv_at hl 2 rfl) ?_
    refine lv_if_eqN (tgt := 21) E.1 E.2.1 (by omega) dX2_makeWilling_10 (by decide) (fun c10 => ?_) (fun c10 => ?_)
    · skip
      refine lv_aload_n E.1 E.2.1 dX2_makeWilling_21 rfl (lv_at hl 0 rfl) ?_
      refine gX2_2 E hw mw_4_7 dX2_makeWilling_22 ?_
      refine lv_eqi (y := nI (unwS N)) (rfl) ?_
      refine lv_iload_n E.1 E.2.1 dX2_makeWilling_25 rfl (lv_at hl 1 rfl) ?_
      refine callSNI E (c_X3_isIn l G (unwS N) k (Nat.lt_trans unwS_lt (by decide)) (by omega)) E.2.2.2.2.2.2.1 YX3_isIn ⟨rfl, rfl⟩ ⟨Nat.le_of_ble_eq_true rfl, Nat.le_of_ble_eq_true rfl⟩ ⟨Nat.zero_le _, Nat.zero_le _⟩ hw (w := []) (w' := []) (rr := sN G a (N)) (big' := sN G a (N)) (List.Perm.refl _) (List.Perm.refl _) rfl hl rfl (Nat.le_of_ble_eq_true rfl) dX2_makeWilling_26 (fun H locs hw => ?_)
      refine lv_eqi (y := zb (¬ N (15 + k) = 1)) (zb_c (unwS_t hk)) ?_
      refine lv_if_eqB (tgt := 36) E.1 E.2.1 dX2_makeWilling_29 (by decide) (fun c29 => ?_) (fun c29 => ?_)
      · skip
        refine lv_iconst (v := nI 1) E.1 E.2.1 dX2_makeWilling_36 (by decide) ?_
        refine lv_istore_n (lv' := [(3, .int (nI (1))), (0, .ref (a 0)), (1, .int (nI (k))), (2, .int (nI (v)))]) E.1 E.2.1 dX2_makeWilling_37 rfl hl (by decide) rfl (fun ls hl => ?_)
        refine lv_iload_n E.1 E.2.1 dX2_makeWilling_38 rfl (lv_at hl 3 rfl) ?_
        refine lv_iconst (v := nI 1) E.1 E.2.1 dX2_makeWilling_39 (by decide) ?_
        refine lv_icmp_neN (tgt := 60) E.1 E.2.1 (by omega) (by omega) dX2_makeWilling_40 (by decide) (fun c40 => ?_) (fun c40 => ?_)
        · skip
          refine lv_aload_n E.1 E.2.1 dX2_makeWilling_60 rfl (lv_at hl 1 rfl) ?_
          refine lv_dup E.1 E.2.1 dX2_makeWilling_61 rfl ?_
          refine gX2_2 E hw mw_4_7 dX2_makeWilling_62 ?_
          refine lv_eqi (y := nI (unwS N)) (rfl) ?_
          refine lv_iconst (v := nI 1) E.1 E.2.1 dX2_makeWilling_65 (by decide) ?_
          refine lv_iload_n E.1 E.2.1 dX2_makeWilling_66 rfl (lv_at hl 2 rfl) ?_
          refine lv_ishl E.1 E.2.1 dX2_makeWilling_67 (lv_eqi (y := nI (2 ^ k)) (shl_1 _ (by omega)) ?_)
          refine lv_ior E.1 E.2.1 dX2_makeWilling_68 (lv_eqi (y := nI (unwS N ||| 2 ^ k)) (or_nI _ _) ?_)
          refine pN2_2 E hw mw_4_7 (w := k) (v := 0) (by omega) (congrArg nI (unwS_0 hk)) dX2_makeWilling_69 (fun H locs hw => ?_)
          refine lv_iload_n E.1 E.2.1 dX2_makeWilling_72 rfl (lv_at hl 0 rfl) ?_
          exact rI E hr hlk (HB.eq hw (by rw [show v = 0 by omega])) (congrArg nI (by omega)) dX2_makeWilling_73
        · skip
          refine lv_aload_n E.1 E.2.1 dX2_makeWilling_43 rfl (lv_at hl 1 rfl) ?_
          refine lv_dup E.1 E.2.1 dX2_makeWilling_44 rfl ?_
          refine gX2_2 E hw mw_4_7 dX2_makeWilling_45 ?_
          refine lv_eqi (y := nI (unwS N)) (rfl) ?_
          refine lv_iconst (v := nI 1) E.1 E.2.1 dX2_makeWilling_48 (by decide) ?_
          refine lv_iload_n E.1 E.2.1 dX2_makeWilling_49 rfl (lv_at hl 2 rfl) ?_
          refine lv_ishl E.1 E.2.1 dX2_makeWilling_50 (lv_eqi (y := nI (2 ^ k)) (shl_1 _ (by omega)) ?_)
          refine lv_iconst (v := -1) E.1 E.2.1 dX2_makeWilling_51 (by decide) ?_
          refine lv_ixor E.1 E.2.1 dX2_makeWilling_52 ?_
          refine lv_iand E.1 E.2.1 dX2_makeWilling_53 (lv_eqi (y := nI (unwS N &&& (15 ^^^ 2 ^ k))) (andn_nI _ (by omega) _ (pow_lt16 _ (by omega))) ?_)
          refine pN2_2 E hw mw_4_7 (w := k) (v := 1) (by omega) (congrArg nI (unwS_1 hk)) dX2_makeWilling_54 (fun H locs hw => ?_)
          refine lv_goto (tgt := 72) E.1 E.2.1 dX2_makeWilling_57 (by decide) ?_
          refine lv_iload_n E.1 E.2.1 dX2_makeWilling_72 rfl (lv_at hl 0 rfl) ?_
          exact rI E hr hlk (HB.eq hw (by rw [show v = 1 by omega])) (congrArg nI (by omega)) dX2_makeWilling_73
      · skip
        refine lv_iconst (v := nI 0) E.1 E.2.1 dX2_makeWilling_32 (by decide) ?_
        refine lv_goto (tgt := 37) E.1 E.2.1 dX2_makeWilling_33 (by decide) ?_
        refine lv_istore_n (lv' := [(3, .int (nI (0))), (0, .ref (a 0)), (1, .int (nI (k))), (2, .int (nI (v)))]) E.1 E.2.1 dX2_makeWilling_37 rfl hl (by decide) rfl (fun ls hl => ?_)
        refine lv_iload_n E.1 E.2.1 dX2_makeWilling_38 rfl (lv_at hl 3 rfl) ?_
        refine lv_iconst (v := nI 1) E.1 E.2.1 dX2_makeWilling_39 (by decide) ?_
        refine lv_icmp_neN (tgt := 60) E.1 E.2.1 (by omega) (by omega) dX2_makeWilling_40 (by decide) (fun c40 => ?_) (fun c40 => ?_)
        · skip
          refine lv_aload_n E.1 E.2.1 dX2_makeWilling_60 rfl (lv_at hl 1 rfl) ?_
          refine lv_dup E.1 E.2.1 dX2_makeWilling_61 rfl ?_
          refine gX2_2 E hw mw_4_7 dX2_makeWilling_62 ?_
          refine lv_eqi (y := nI (unwS N)) (rfl) ?_
          refine lv_iconst (v := nI 1) E.1 E.2.1 dX2_makeWilling_65 (by decide) ?_
          refine lv_iload_n E.1 E.2.1 dX2_makeWilling_66 rfl (lv_at hl 2 rfl) ?_
          refine lv_ishl E.1 E.2.1 dX2_makeWilling_67 (lv_eqi (y := nI (2 ^ k)) (shl_1 _ (by omega)) ?_)
          refine lv_ior E.1 E.2.1 dX2_makeWilling_68 (lv_eqi (y := nI (unwS N ||| 2 ^ k)) (or_nI _ _) ?_)
          refine pN2_2 E hw mw_4_7 (w := k) (v := 0) (by omega) (congrArg nI (unwS_0 hk)) dX2_makeWilling_69 (fun H locs hw => ?_)
          refine lv_iload_n E.1 E.2.1 dX2_makeWilling_72 rfl (lv_at hl 0 rfl) ?_
          exact rI E hr hlk (HB.eq hw (by rw [show v = 0 by omega])) (congrArg nI (by omega)) dX2_makeWilling_73
        · skip
          refine lv_aload_n E.1 E.2.1 dX2_makeWilling_43 rfl (lv_at hl 1 rfl) ?_
          refine lv_dup E.1 E.2.1 dX2_makeWilling_44 rfl ?_
          refine gX2_2 E hw mw_4_7 dX2_makeWilling_45 ?_
          refine lv_eqi (y := nI (unwS N)) (rfl) ?_
          refine lv_iconst (v := nI 1) E.1 E.2.1 dX2_makeWilling_48 (by decide) ?_
          refine lv_iload_n E.1 E.2.1 dX2_makeWilling_49 rfl (lv_at hl 2 rfl) ?_
          refine lv_ishl E.1 E.2.1 dX2_makeWilling_50 (lv_eqi (y := nI (2 ^ k)) (shl_1 _ (by omega)) ?_)
          refine lv_iconst (v := -1) E.1 E.2.1 dX2_makeWilling_51 (by decide) ?_
          refine lv_ixor E.1 E.2.1 dX2_makeWilling_52 ?_
          refine lv_iand E.1 E.2.1 dX2_makeWilling_53 (lv_eqi (y := nI (unwS N &&& (15 ^^^ 2 ^ k))) (andn_nI _ (by omega) _ (pow_lt16 _ (by omega))) ?_)
          refine pN2_2 E hw mw_4_7 (w := k) (v := 1) (by omega) (congrArg nI (unwS_1 hk)) dX2_makeWilling_54 (fun H locs hw => ?_)
          refine lv_goto (tgt := 72) E.1 E.2.1 dX2_makeWilling_57 (by decide) ?_
          refine lv_iload_n E.1 E.2.1 dX2_makeWilling_72 rfl (lv_at hl 0 rfl) ?_
          exact rI E hr hlk (HB.eq hw (by rw [show v = 1 by omega])) (congrArg nI (by omega)) dX2_makeWilling_73
    · skip
      refine lv_iload_n E.1 E.2.1 dX2_makeWilling_13 rfl (lv_at hl 2 rfl) ?_
      refine lv_iconst (v := nI 1) E.1 E.2.1 dX2_makeWilling_14 (by decide) ?_
      refine lv_icmp_eqN (tgt := 21) E.1 E.2.1 (by omega) (by omega) dX2_makeWilling_15 (by decide) (fun c15 => ?_) (fun c15 => ?_)
      · skip
        refine lv_aload_n E.1 E.2.1 dX2_makeWilling_21 rfl (lv_at hl 0 rfl) ?_
        refine gX2_2 E hw mw_4_7 dX2_makeWilling_22 ?_
        refine lv_eqi (y := nI (unwS N)) (rfl) ?_
        refine lv_iload_n E.1 E.2.1 dX2_makeWilling_25 rfl (lv_at hl 1 rfl) ?_
        refine callSNI E (c_X3_isIn l G (unwS N) k (Nat.lt_trans unwS_lt (by decide)) (by omega)) E.2.2.2.2.2.2.1 YX3_isIn ⟨rfl, rfl⟩ ⟨Nat.le_of_ble_eq_true rfl, Nat.le_of_ble_eq_true rfl⟩ ⟨Nat.zero_le _, Nat.zero_le _⟩ hw (w := []) (w' := []) (rr := sN G a (N)) (big' := sN G a (N)) (List.Perm.refl _) (List.Perm.refl _) rfl hl rfl (Nat.le_of_ble_eq_true rfl) dX2_makeWilling_26 (fun H locs hw => ?_)
        refine lv_eqi (y := zb (¬ N (15 + k) = 1)) (zb_c (unwS_t hk)) ?_
        refine lv_if_eqB (tgt := 36) E.1 E.2.1 dX2_makeWilling_29 (by decide) (fun c29 => ?_) (fun c29 => ?_)
        · skip
          refine lv_iconst (v := nI 1) E.1 E.2.1 dX2_makeWilling_36 (by decide) ?_
          refine lv_istore_n (lv' := [(3, .int (nI (1))), (0, .ref (a 0)), (1, .int (nI (k))), (2, .int (nI (v)))]) E.1 E.2.1 dX2_makeWilling_37 rfl hl (by decide) rfl (fun ls hl => ?_)
          refine lv_iload_n E.1 E.2.1 dX2_makeWilling_38 rfl (lv_at hl 3 rfl) ?_
          refine lv_iconst (v := nI 1) E.1 E.2.1 dX2_makeWilling_39 (by decide) ?_
          refine lv_icmp_neN (tgt := 60) E.1 E.2.1 (by omega) (by omega) dX2_makeWilling_40 (by decide) (fun c40 => ?_) (fun c40 => ?_)
          · skip
            refine lv_aload_n E.1 E.2.1 dX2_makeWilling_60 rfl (lv_at hl 1 rfl) ?_
            refine lv_dup E.1 E.2.1 dX2_makeWilling_61 rfl ?_
            refine gX2_2 E hw mw_4_7 dX2_makeWilling_62 ?_
            refine lv_eqi (y := nI (unwS N)) (rfl) ?_
            refine lv_iconst (v := nI 1) E.1 E.2.1 dX2_makeWilling_65 (by decide) ?_
            refine lv_iload_n E.1 E.2.1 dX2_makeWilling_66 rfl (lv_at hl 2 rfl) ?_
            refine lv_ishl E.1 E.2.1 dX2_makeWilling_67 (lv_eqi (y := nI (2 ^ k)) (shl_1 _ (by omega)) ?_)
            refine lv_ior E.1 E.2.1 dX2_makeWilling_68 (lv_eqi (y := nI (unwS N ||| 2 ^ k)) (or_nI _ _) ?_)
            refine pN2_2 E hw mw_4_7 (w := k) (v := 0) (by omega) (congrArg nI (unwS_0 hk)) dX2_makeWilling_69 (fun H locs hw => ?_)
            refine lv_iload_n E.1 E.2.1 dX2_makeWilling_72 rfl (lv_at hl 0 rfl) ?_
            exact rI E hr hlk (HB.eq hw (by rw [show v = 0 by omega])) (congrArg nI (by omega)) dX2_makeWilling_73
          · skip
            refine lv_aload_n E.1 E.2.1 dX2_makeWilling_43 rfl (lv_at hl 1 rfl) ?_
            refine lv_dup E.1 E.2.1 dX2_makeWilling_44 rfl ?_
            refine gX2_2 E hw mw_4_7 dX2_makeWilling_45 ?_
            refine lv_eqi (y := nI (unwS N)) (rfl) ?_
            refine lv_iconst (v := nI 1) E.1 E.2.1 dX2_makeWilling_48 (by decide) ?_
            refine lv_iload_n E.1 E.2.1 dX2_makeWilling_49 rfl (lv_at hl 2 rfl) ?_
            refine lv_ishl E.1 E.2.1 dX2_makeWilling_50 (lv_eqi (y := nI (2 ^ k)) (shl_1 _ (by omega)) ?_)
            refine lv_iconst (v := -1) E.1 E.2.1 dX2_makeWilling_51 (by decide) ?_
            refine lv_ixor E.1 E.2.1 dX2_makeWilling_52 ?_
            refine lv_iand E.1 E.2.1 dX2_makeWilling_53 (lv_eqi (y := nI (unwS N &&& (15 ^^^ 2 ^ k))) (andn_nI _ (by omega) _ (pow_lt16 _ (by omega))) ?_)
            refine pN2_2 E hw mw_4_7 (w := k) (v := 1) (by omega) (congrArg nI (unwS_1 hk)) dX2_makeWilling_54 (fun H locs hw => ?_)
            refine lv_goto (tgt := 72) E.1 E.2.1 dX2_makeWilling_57 (by decide) ?_
            refine lv_iload_n E.1 E.2.1 dX2_makeWilling_72 rfl (lv_at hl 0 rfl) ?_
            exact rI E hr hlk (HB.eq hw (by rw [show v = 1 by omega])) (congrArg nI (by omega)) dX2_makeWilling_73
        · skip
          refine lv_iconst (v := nI 0) E.1 E.2.1 dX2_makeWilling_32 (by decide) ?_
          refine lv_goto (tgt := 37) E.1 E.2.1 dX2_makeWilling_33 (by decide) ?_
          refine lv_istore_n (lv' := [(3, .int (nI (0))), (0, .ref (a 0)), (1, .int (nI (k))), (2, .int (nI (v)))]) E.1 E.2.1 dX2_makeWilling_37 rfl hl (by decide) rfl (fun ls hl => ?_)
          refine lv_iload_n E.1 E.2.1 dX2_makeWilling_38 rfl (lv_at hl 3 rfl) ?_
          refine lv_iconst (v := nI 1) E.1 E.2.1 dX2_makeWilling_39 (by decide) ?_
          refine lv_icmp_neN (tgt := 60) E.1 E.2.1 (by omega) (by omega) dX2_makeWilling_40 (by decide) (fun c40 => ?_) (fun c40 => ?_)
          · skip
            refine lv_aload_n E.1 E.2.1 dX2_makeWilling_60 rfl (lv_at hl 1 rfl) ?_
            refine lv_dup E.1 E.2.1 dX2_makeWilling_61 rfl ?_
            refine gX2_2 E hw mw_4_7 dX2_makeWilling_62 ?_
            refine lv_eqi (y := nI (unwS N)) (rfl) ?_
            refine lv_iconst (v := nI 1) E.1 E.2.1 dX2_makeWilling_65 (by decide) ?_
            refine lv_iload_n E.1 E.2.1 dX2_makeWilling_66 rfl (lv_at hl 2 rfl) ?_
            refine lv_ishl E.1 E.2.1 dX2_makeWilling_67 (lv_eqi (y := nI (2 ^ k)) (shl_1 _ (by omega)) ?_)
            refine lv_ior E.1 E.2.1 dX2_makeWilling_68 (lv_eqi (y := nI (unwS N ||| 2 ^ k)) (or_nI _ _) ?_)
            refine pN2_2 E hw mw_4_7 (w := k) (v := 0) (by omega) (congrArg nI (unwS_0 hk)) dX2_makeWilling_69 (fun H locs hw => ?_)
            refine lv_iload_n E.1 E.2.1 dX2_makeWilling_72 rfl (lv_at hl 0 rfl) ?_
            exact rI E hr hlk (HB.eq hw (by rw [show v = 0 by omega])) (congrArg nI (by omega)) dX2_makeWilling_73
          · skip
            refine lv_aload_n E.1 E.2.1 dX2_makeWilling_43 rfl (lv_at hl 1 rfl) ?_
            refine lv_dup E.1 E.2.1 dX2_makeWilling_44 rfl ?_
            refine gX2_2 E hw mw_4_7 dX2_makeWilling_45 ?_
            refine lv_eqi (y := nI (unwS N)) (rfl) ?_
            refine lv_iconst (v := nI 1) E.1 E.2.1 dX2_makeWilling_48 (by decide) ?_
            refine lv_iload_n E.1 E.2.1 dX2_makeWilling_49 rfl (lv_at hl 2 rfl) ?_
            refine lv_ishl E.1 E.2.1 dX2_makeWilling_50 (lv_eqi (y := nI (2 ^ k)) (shl_1 _ (by omega)) ?_)
            refine lv_iconst (v := -1) E.1 E.2.1 dX2_makeWilling_51 (by decide) ?_
            refine lv_ixor E.1 E.2.1 dX2_makeWilling_52 ?_
            refine lv_iand E.1 E.2.1 dX2_makeWilling_53 (lv_eqi (y := nI (unwS N &&& (15 ^^^ 2 ^ k))) (andn_nI _ (by omega) _ (pow_lt16 _ (by omega))) ?_)
            refine pN2_2 E hw mw_4_7 (w := k) (v := 1) (by omega) (congrArg nI (unwS_1 hk)) dX2_makeWilling_54 (fun H locs hw => ?_)
            refine lv_goto (tgt := 72) E.1 E.2.1 dX2_makeWilling_57 (by decide) ?_
            refine lv_iload_n E.1 E.2.1 dX2_makeWilling_72 rfl (lv_at hl 0 rfl) ?_
            exact rI E hr hlk (HB.eq hw (by rw [show v = 1 by omega])) (congrArg nI (by omega)) dX2_makeWilling_73
      · omega
  · exact absurd (in0 (by omega) (by omega)) c4
theorem YX2_openDeal : YV yX2_openDeal RX2 cX2_openDeal 3 (some .int) 1 := ⟨mw_6_20, mw_6_21, mw_1_15, mw_6_22, by decide +kernel⟩
set_option maxHeartbeats 4000000 in
set_option maxRecDepth 100000 in
theorem c_X2_openDeal_bad (l : Launch) (G : GP) (a : Nat → Nat) (N : NS) (v : Int32) (h : ¬ (nI 1 ≤ v ∧ v ≤ nI 15)) : MI l yX2_openDeal (.code yX2_openDeal cX2_openDeal 3 (some .int) :: GW) ({ frames := 0, cells := 0, slots := 0, locals := 0 }) [.ref (a 0), .int (v)] G ES (sN G a (N)) (sN G a (N)) (-2) := by
  refine MI.of (own := RX2) rfl rfl (Nat.le_of_ble_eq_true rfl) ?_
  intro pP eE sS mM below meth cC ls AA E hw hl hr hlk hE
  replace hl : lv_has ls 3 [(0, .ref (a 0)), (1, .int (v))] := hl
  refine lv_iload_n E.1 E.2.1 dX2_openDeal_0 rfl (lv_at hl 1 rfl) ?_
  refine lv_iconst (v := nI 1) E.1 E.2.1 dX2_openDeal_1 (by decide) ?_
  refine lv_icmp_lt (tgt := 11) E.1 E.2.1 dX2_openDeal_2 (by decide) (fun c2 => ?_) (fun c2 => ?_)
  · skip
    refine lv_bipush (v := -2) E.1 E.2.1 dX2_openDeal_11 (by decide) ?_
    exact rI E hr hlk (HB.eq hw (rfl)) (rfl) dX2_openDeal_13
  · skip
    refine lv_iload_n E.1 E.2.1 dX2_openDeal_5 rfl (lv_at hl 1 rfl) ?_
    refine lv_bipush (v := nI 15) E.1 E.2.1 dX2_openDeal_6 (by decide) ?_
    refine lv_icmp_le (tgt := 14) E.1 E.2.1 dX2_openDeal_8 (by decide) (fun c8 => ?_) (fun c8 => ?_)
    · exact absurd ⟨Int32.not_lt.mp c2, c8⟩ h
    · skip
      refine lv_bipush (v := -2) E.1 E.2.1 dX2_openDeal_11 (by decide) ?_
      exact rI E hr hlk (HB.eq hw (rfl)) (rfl) dX2_openDeal_13
set_option maxHeartbeats 4000000 in
set_option maxRecDepth 100000 in
theorem c_X2_openDeal_ok (l : Launch) (G : GP) (a : Nat → Nat) (N : NS) (S : Nat) (hS : 1 ≤ S ∧ S < 16) (hI : Inv N) : MI l yX2_openDeal (.code yX2_openDeal cX2_openDeal 3 (some .int) :: GW) ({ frames := 2, cells := 0, slots := 0, locals := 50 }) [.ref (a 0), .int (nI (S))] G ES (sN G a (N)) (sN G a (nOpen S N)) (rOpen N) := by
  refine MI.of (own := RX2) rfl rfl (Nat.le_of_ble_eq_true rfl) ?_
  intro pP eE sS mM below meth cC ls AA E hw hl hr hlk hE
  replace hl : lv_has ls 3 [(0, .ref (a 0)), (1, .int (nI (S)))] := hl
  have hF := hI.1
  have h5 := hF.2.1
  have h6 := hF.1
  have hi4 : N 14 ≤ 1 := hF.il (w := 4) (by decide)
  refine lv_iload_n E.1 E.2.1 dX2_openDeal_0 rfl (lv_at hl 1 rfl) ?_
  refine lv_iconst (v := nI 1) E.1 E.2.1 dX2_openDeal_1 (by decide) ?_
  refine lv_icmp_ltN (tgt := 11) E.1 E.2.1 (by omega) (by omega) dX2_openDeal_2 (by decide) (fun c2 => ?_) (fun c2 => ?_)
  · omega
  · skip
    refine lv_iload_n E.1 E.2.1 dX2_openDeal_5 rfl (lv_at hl 1 rfl) ?_
    refine lv_bipush (v := nI 15) E.1 E.2.1 dX2_openDeal_6 (by decide) ?_
    refine lv_icmp_leN (tgt := 14) E.1 E.2.1 (by omega) (by omega) dX2_openDeal_8 (by decide) (fun c8 => ?_) (fun c8 => ?_)
    · skip
      refine lv_aload_n E.1 E.2.1 dX2_openDeal_14 rfl (lv_at hl 0 rfl) ?_
      refine gX2_3 E hw mw_4_8 dX2_openDeal_15 ?_
      refine lv_eqi (y := nI (N 5)) (rfl) ?_
      refine lv_bipush (v := nI 8) E.1 E.2.1 dX2_openDeal_18 (by decide) ?_
      refine lv_icmp_ltN (tgt := 26) E.1 E.2.1 (by omega) (by omega) dX2_openDeal_20 (by decide) (fun c20 => ?_) (fun c20 => ?_)
      · skip
        refine lv_aload_n E.1 E.2.1 dX2_openDeal_26 rfl (lv_at hl 0 rfl) ?_
        refine lv_iconst (v := nI 4) E.1 E.2.1 dX2_openDeal_27 (by decide) ?_
        refine callVI E (c_X2_isIll l G a (N) 4 (N 14) (by omega) (rfl)) mw_6_23 YX2_isIll ⟨rfl, rfl⟩ ⟨Nat.le_of_ble_eq_true rfl, Nat.le_of_ble_eq_true rfl⟩ ⟨Nat.zero_le _, Nat.zero_le _⟩ hw 0 rfl rfl rfl hl rfl (Nat.le_of_ble_eq_true rfl) dX2_openDeal_28 (fun H locs hw => ?_)
        refine lv_if_eqB (tgt := 37) E.1 E.2.1 dX2_openDeal_31 (by decide) (fun c31 => ?_) (fun c31 => ?_)
        · skip
          refine lv_aload_n E.1 E.2.1 dX2_openDeal_37 rfl (lv_at hl 0 rfl) ?_
          refine gX2_3 E hw mw_4_8 dX2_openDeal_38 ?_
          refine lv_eqi (y := nI (N 5)) (rfl) ?_
          refine lv_istore_n (lv' := [(2, .int (nI (N 5))), (0, .ref (a 0)), (1, .int (nI (S)))]) E.1 E.2.1 dX2_openDeal_41 rfl hl (by decide) rfl (fun ls hl => ?_)
          refine lv_aload_n E.1 E.2.1 dX2_openDeal_42 rfl (lv_at hl 1 rfl) ?_
          refine lv_dup E.1 E.2.1 dX2_openDeal_43 rfl ?_
          refine gX2_3 E hw mw_4_8 dX2_openDeal_44 ?_
          refine lv_eqi (y := nI (N 5)) (rfl) ?_
          refine lv_iconst (v := nI 1) E.1 E.2.1 dX2_openDeal_47 (by decide) ?_
          refine lv_addN E.1 E.2.1 dX2_openDeal_48 ?_
          refine pN2_3 E hw mw_4_8 dX2_openDeal_49 (fun H locs hw => ?_)
          refine lv_aload_n E.1 E.2.1 dX2_openDeal_52 rfl (lv_at hl 1 rfl) ?_
          refine gX2_6 E hw mw_2_11 dX2_openDeal_53 ?_
          refine lv_iload_n E.1 E.2.1 dX2_openDeal_56 rfl (lv_at hl 0 rfl) ?_
          refine lv_iload_n E.1 E.2.1 dX2_openDeal_57 rfl (lv_at hl 2 rfl) ?_
          refine sX2_4 E hw (by omega) dX2_openDeal_58 (fun H locs hw => ?_)
          refine lv_aload_n E.1 E.2.1 dX2_openDeal_59 rfl (lv_at hl 1 rfl) ?_
          refine gX2_8 E hw mw_2_13 dX2_openDeal_60 ?_
          refine lv_iload_n E.1 E.2.1 dX2_openDeal_63 rfl (lv_at hl 0 rfl) ?_
          refine lv_aload_n E.1 E.2.1 dX2_openDeal_64 rfl (lv_at hl 1 rfl) ?_
          refine gX2_0 E hw mw_4_5 dX2_openDeal_65 ?_
          refine lv_eqi (y := nI (N 4)) (congrArg nI (un_n (by omega))) ?_
          refine sX2_6 E hw (by omega) dX2_openDeal_68 (fun H locs hw => ?_)
          refine lv_aload_n E.1 E.2.1 dX2_openDeal_69 rfl (lv_at hl 1 rfl) ?_
          refine gX2_12 E hw mw_2_17 dX2_openDeal_70 ?_
          refine lv_iload_n E.1 E.2.1 dX2_openDeal_73 rfl (lv_at hl 0 rfl) ?_
          refine lv_iconst (v := nI 4) E.1 E.2.1 dX2_openDeal_74 (by decide) ?_
          refine lv_mulN E.1 E.2.1 dX2_openDeal_75 ?_
          refine lv_iconst (v := nI 0) E.1 E.2.1 dX2_openDeal_76 (by decide) ?_
          refine lv_addN E.1 E.2.1 dX2_openDeal_77 ?_
          refine lv_iload_n E.1 E.2.1 dX2_openDeal_78 rfl (lv_at hl 2 rfl) ?_
          refine sX2_10 E hw (by omega) dX2_openDeal_79 (fun H locs hw => ?_)
          replace hw := HB.opn (by omega) hS.2 (fun c hc => hI.2.2.1 _ c (by omega) hc (by rw [hI.2.2.2 _ (Nat.le_refl _) (by omega)]; exact Nat.zero_testBit c)) (hI.2.2.2 _ (Nat.le_refl _) (by omega)) hw
          refine lv_aload_n E.1 E.2.1 dX2_openDeal_80 rfl (lv_at hl 1 rfl) ?_
          refine lv_iconst (v := nI 0) E.1 E.2.1 dX2_openDeal_81 (by decide) ?_
          refine lv_iload_n E.1 E.2.1 dX2_openDeal_82 rfl (lv_at hl 0 rfl) ?_
          refine lv_iconst (v := nI 4) E.1 E.2.1 dX2_openDeal_83 (by decide) ?_
          refine lv_iload_n E.1 E.2.1 dX2_openDeal_84 rfl (lv_at hl 2 rfl) ?_
          refine callVV E (c_X2_sendToClerks l G a (un (un (un N 5 (N 5 + 1)) (30 + 14 * N 5 + 0) S) (30 + 14 * N 5 + 2) (N 4)) 0 (N 5) 4 S (by omega) (by omega) (by rw [un_n (by omega), un_n (by omega), un_n (by omega)]; exact h6)) mw_7_3 YX2_sendToClerks ⟨rfl, rfl⟩ ⟨Nat.le_of_ble_eq_true rfl, Nat.le_of_ble_eq_true rfl⟩ ⟨Nat.zero_le _, Nat.zero_le _⟩ hw 0 rfl rfl rfl hl rfl (Nat.le_of_ble_eq_true rfl) dX2_openDeal_85 (fun H locs hw => ?_)
          refine lv_iload_n E.1 E.2.1 dX2_openDeal_88 rfl (lv_at hl 0 rfl) ?_
          exact rI E hr hlk (HB.eq hw (by rw [nOpen, if_neg (by omega)]; rfl)) (by rw [rOpen, if_neg (by omega), if_neg (by omega)]) dX2_openDeal_89
        · skip
          refine lv_bipush (v := -5) E.1 E.2.1 dX2_openDeal_34 (by decide) ?_
          exact rI E hr hlk (HB.eq hw (by rw [nOpen, if_pos (by omega)])) (by rw [rOpen, if_neg (by omega), if_pos (by omega)]) dX2_openDeal_36
      · skip
        refine lv_bipush (v := -4) E.1 E.2.1 dX2_openDeal_23 (by decide) ?_
        exact rI E hr hlk (HB.eq hw (by rw [nOpen, if_pos (by omega)])) (by rw [rOpen, if_pos (by omega)]) dX2_openDeal_25
    · omega
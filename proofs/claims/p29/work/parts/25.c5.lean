theorem unw_who_t {w : Nat} {N : NS} (hw : w < 5) (hF : FI N) (h : (unwS N).testBit w = true) : 0 = whoF w 1 N := by
  by_cases h4 : w = 4
  · subst h4
    rw [unwS, bitsI_t] at h
    simp at h
  · have h1 := (unwS_t (by omega)).mp h
    have h2 := hF.wl (w := w) (by omega)
    rw [whoF, if_neg (by decide), if_pos rfl, if_neg h4]; omega
theorem unw_who_f {w : Nat} {N : NS} (hw : w < 5) (hF : FI N) (h : ¬ (unwS N).testBit w = true) : 1 = whoF w 1 N := by
  rw [whoF, if_neg (by decide), if_pos rfl]
  by_cases h4 : w = 4
  · rw [if_pos h4]
  · rw [if_neg h4]
    exact (Classical.not_not.mp (fun z => h ((unwS_t (by omega)).mpr z))).symm
theorem dw_c {x y q d : Nat} {N : NS} (h : (x = 2 ∧ y = 2 ∧ q = 0) ∨ (x = 3 ∧ y = 3 ∧ q = 1) ∨ (x = 2 ∧ y = 3 ∧ q = 2)) (h1 : ¬ cOf d x N = 0) (h2 : ¬ cOf d y N = 0) : (q = 1 ∨ ¬ cOf d 2 N = 0) ∧ (q = 0 ∨ ¬ cOf d 3 N = 0) := by
  rcases h with ⟨rfl, rfl, rfl⟩ | ⟨rfl, rfl, rfl⟩ | ⟨rfl, rfl, rfl⟩
  · exact ⟨Or.inr h1, Or.inl rfl⟩
  · exact ⟨Or.inl rfl, Or.inr h1⟩
  · exact ⟨Or.inr h1, Or.inr h2⟩
theorem dw_n1 {x y q d : Nat} {N : NS} (h : (x = 2 ∧ y = 2 ∧ q = 0) ∨ (x = 3 ∧ y = 3 ∧ q = 1) ∨ (x = 2 ∧ y = 3 ∧ q = 2)) (h1 : cOf d x N = 0) : ¬ ((q = 1 ∨ ¬ cOf d 2 N = 0) ∧ (q = 0 ∨ ¬ cOf d 3 N = 0)) := by
  rcases h with ⟨rfl, rfl, rfl⟩ | ⟨rfl, rfl, rfl⟩ | ⟨rfl, rfl, rfl⟩ <;> omega
theorem dw_n2 {x y q d : Nat} {N : NS} (h : (x = 2 ∧ y = 2 ∧ q = 0) ∨ (x = 3 ∧ y = 3 ∧ q = 1) ∨ (x = 2 ∧ y = 3 ∧ q = 2)) (h1 : cOf d y N = 0) : ¬ ((q = 1 ∨ ¬ cOf d 2 N = 0) ∧ (q = 0 ∨ ¬ cOf d 3 N = 0)) := by
  rcases h with ⟨rfl, rfl, rfl⟩ | ⟨rfl, rfl, rfl⟩ | ⟨rfl, rfl, rfl⟩ <;> omega
theorem cqI_b {d : Nat} {N : NS} : ∀ n, cqI d N n = bitsI (fun c => caB d c N) n
  | 0 => rfl
  | n + 1 => by rw [cqI, bitsI, cqI_b n]
theorem elB_i {d k : Nat} {N : NS} : ∀ n, elB d k N n = true ↔ ((¬ N 14 = 1 ∧ ¬ N (30 + 14 * d + 1) = 0) ∨ ∃ e, e < n ∧ N 3 = 1 ∧ ¬ e = k ∧ (N (30 + 14 * d + 0)).testBit e = true ∧ ¬ N (10 + e) = 1 ∧ ¬ N (30 + 14 * d + (6 + e)) = 1)
  | 0 => by rw [elB_0]; exact ⟨Or.inl, fun z => z.elim id (fun ⟨e, he, _⟩ => absurd he (Nat.not_lt_zero e))⟩
  | n + 1 => by
    rw [elB_s, elB_i n]
    constructor
    · rintro ((z | ⟨e, he, z⟩) | z)
      · exact Or.inl z
      · exact Or.inr ⟨e, by omega, z⟩
      · exact Or.inr ⟨n, by omega, z⟩
    · rintro (z | ⟨e, he, z⟩)
      · exact Or.inl (Or.inl z)
      · by_cases q : e = n
        · subst q; exact Or.inr z
        · exact Or.inl (Or.inr ⟨e, by omega, z⟩)
theorem eld_i {d : Nat} {N : NS} : ¬ (N (30 + 14 * d + 0) &&& (15 ^^^ cOf d 1 N)) &&& (31 ^^^ illS N) = 0 ↔ ∃ e, e < 4 ∧ (N (30 + 14 * d + 0)).testBit e = true ∧ ¬ N (10 + e) = 1 ∧ ¬ N (30 + 14 * d + (6 + e)) = 1 := by
  have key : ∀ e, e < 4 → (((N (30 + 14 * d + 0) &&& (15 ^^^ cOf d 1 N)) &&& (31 ^^^ illS N)).testBit e = true ↔ ((N (30 + 14 * d + 0)).testBit e = true ∧ ¬ N (10 + e) = 1 ∧ ¬ N (30 + 14 * d + (6 + e)) = 1)) := by
    intro e he
    have h1 := cOf_t (d := d) (s := 1) (N := N) he
    have h2 := illS_t (N := N) (w := e) (by omega)
    rw [Nat.testBit_and, Nat.testBit_and, Nat.testBit_xor, Nat.testBit_xor, b15, b31, decide_eq_true he, decide_eq_true (show e < 5 by omega), Bool.true_xor, Bool.true_xor, Bool.and_eq_true, Bool.and_eq_true, Bool.not_eq_true', Bool.not_eq_true', ← Bool.not_eq_true, ← Bool.not_eq_true, h1, h2]
    constructor
    · rintro ⟨⟨a, b⟩, c⟩; exact ⟨a, c, fun z => b ⟨a, z⟩⟩
    · rintro ⟨a, c, b⟩; exact ⟨⟨a, fun z => b z.2⟩, c⟩
  constructor
  · intro h
    rcases Classical.em (∃ e, e < 4 ∧ (N (30 + 14 * d + 0)).testBit e = true ∧ ¬ N (10 + e) = 1 ∧ ¬ N (30 + 14 * d + (6 + e)) = 1) with z | z
    · exact z
    · exfalso
      apply h
      apply Nat.eq_of_testBit_eq
      intro i
      rw [Nat.zero_testBit]
      by_cases hi : i < 4
      · exact Bool.eq_false_iff.mpr (fun q => z ⟨i, hi, (key i hi).mp q⟩)
      · rw [Nat.testBit_and, Nat.testBit_and, Nat.testBit_xor, b15, decide_eq_false hi, cOf_hi hi]; simp
  · rintro ⟨e, he, z⟩ h
    have := (key e he).mpr z
    rw [h, Nat.zero_testBit] at this
    cases this
theorem wfo_1 {d : Nat} {N : NS} (hF : FI N) (hd : d < 8) (h : (¬ N 14 = 1 ∧ ¬ N (30 + 14 * d + 1) = 0) ∨ (N 3 = 1 ∧ ¬ (N (30 + 14 * d + 0) &&& (15 ^^^ cOf d 1 N)) &&& (31 ^^^ illS N) = 0)) : cOf d 1 N &&& (31 ^^^ illS N) = cqI d N 4 := by
  rw [cqI_b]
  apply Nat.eq_of_testBit_eq
  intro i
  rw [bitsI_t, Nat.testBit_and]
  by_cases hi : i < 4
  · rw [decide_eq_true hi, Bool.true_and]
    apply Bool.eq_iff_iff.mpr
    rw [Bool.and_eq_true, cOf_t hi, Nat.testBit_xor, b31, decide_eq_true (show i < 5 by omega), Bool.true_xor, Bool.not_eq_true', ← Bool.not_eq_true, illS_t (by omega), caB_i, elB_i]
    constructor
    · rintro ⟨⟨a, b⟩, c⟩
      refine ⟨?_, c, a, b⟩
      rcases h with z | ⟨z1, z2⟩
      · exact Or.inl z
      · obtain ⟨e, he, g1, g2, g3⟩ := eld_i.mp z2
        exact Or.inr ⟨e, he, z1, fun q => g3 (by rw [q]; exact b), g1, g2, g3⟩
    · rintro ⟨_, c, a, b⟩; exact ⟨⟨a, b⟩, c⟩
  · rw [decide_eq_false hi, cOf_hi hi]; simp
theorem wfo_0 {d : Nat} {N : NS} (h1 : ¬ (¬ N 14 = 1 ∧ ¬ N (30 + 14 * d + 1) = 0)) (h2 : ¬ (N 3 = 1 ∧ ¬ (N (30 + 14 * d + 0) &&& (15 ^^^ cOf d 1 N)) &&& (31 ^^^ illS N) = 0)) : 0 = cqI d N 4 := by
  rw [cqI_b]
  apply Nat.eq_of_testBit_eq
  intro i
  rw [bitsI_t, Nat.zero_testBit]
  symm
  apply Bool.eq_false_iff.mpr
  intro z
  rw [Bool.and_eq_true, caB_i, elB_i] at z
  rcases z.2.1 with y | ⟨e, he, y1, y2, y3, y4, y5⟩
  · exact h1 y
  · exact h2 ⟨y1, eld_i.mpr ⟨e, he, y3, y4, y5⟩⟩
theorem YX2_numberOfDeal : YV yX2_numberOfDeal RX2 cX2_numberOfDeal 3 (some .int) 2 := ⟨mw_18_3, mw_18_4, mw_1_15, mw_18_5, by decide +kernel⟩
set_option maxHeartbeats 4000000 in
set_option maxRecDepth 100000 in
theorem c_X2_numberOfDeal_bad1 (l : Launch) (G : GP) (a : Nat → Nat) (N : NS) (e : Int32) (h : ¬ (0 ≤ e ∧ e < nI (N 5))) (w : Int32) : MI l yX2_numberOfDeal (.code yX2_numberOfDeal cX2_numberOfDeal 3 (some .int) :: GW) ({ frames := 1, cells := 0, slots := 0, locals := 21 }) [.ref (a 0), .int (e), .int (w)] G ES (sN G a (N)) (sN G a (N)) (-1) := by
  refine MI.of (own := RX2) rfl rfl (Nat.le_of_ble_eq_true rfl) ?_
  intro pP eE sS mM below meth cC ls AA E hw hl hr hlk hE
  replace hl : lv_has ls 3 [(0, .ref (a 0)), (1, .int (e)), (2, .int (w))] := hl
  refine lv_aload_n E.1 E.2.1 dX2_numberOfDeal_0 rfl (lv_at hl 0 rfl) ?_
  refine lv_iload_n E.1 E.2.1 dX2_numberOfDeal_1 rfl (lv_at hl 1 rfl) ?_
  refine callVI E (c_X2_isDeal l G a (N) (e)) mw_18_6 YX2_isDeal ⟨rfl, rfl⟩ ⟨Nat.le_of_ble_eq_true rfl, Nat.le_of_ble_eq_true rfl⟩ ⟨Nat.zero_le _, Nat.zero_le _⟩ hw 0 rfl rfl rfl hl rfl (Nat.le_of_ble_eq_true rfl) dX2_numberOfDeal_2 (fun H locs hw => ?_)
  refine lv_if_neB (tgt := 10) E.1 E.2.1 dX2_numberOfDeal_5 (by decide) (fun c5 => ?_) (fun c5 => ?_)
  · exact absurd c5 h
  · skip
    refine lv_iconst (v := -1) E.1 E.2.1 dX2_numberOfDeal_8 (by decide) ?_
    exact rI E hr hlk (HB.eq hw (rfl)) (rfl) dX2_numberOfDeal_9
set_option maxHeartbeats 4000000 in
set_option maxRecDepth 100000 in
theorem c_X2_numberOfDeal_bad2 (l : Launch) (G : GP) (a : Nat → Nat) (N : NS) (d : Nat) (hd : d < N 5) (hF : FI N) (w : Int32) (h : ¬ (nI 0 ≤ w ∧ w ≤ nI 8)) : MI l yX2_numberOfDeal (.code yX2_numberOfDeal cX2_numberOfDeal 3 (some .int) :: GW) ({ frames := 1, cells := 0, slots := 0, locals := 21 }) [.ref (a 0), .int (nI (d)), .int (w)] G ES (sN G a (N)) (sN G a (N)) (-2) := by
  refine MI.of (own := RX2) rfl rfl (Nat.le_of_ble_eq_true rfl) ?_
  intro pP eE sS mM below meth cC ls AA E hw hl hr hlk hE
  replace hl : lv_has ls 3 [(0, .ref (a 0)), (1, .int (nI (d))), (2, .int (w))] := hl
  have h5 := hF.2.1
  have h6 := hF.1
  have hd8 : d < 8 := by omega
  refine lv_aload_n E.1 E.2.1 dX2_numberOfDeal_0 rfl (lv_at hl 0 rfl) ?_
  refine lv_iload_n E.1 E.2.1 dX2_numberOfDeal_1 rfl (lv_at hl 1 rfl) ?_
  refine callVI E (c_X2_isDeal l G a (N) (nI (d))) mw_18_6 YX2_isDeal ⟨rfl, rfl⟩ ⟨Nat.le_of_ble_eq_true rfl, Nat.le_of_ble_eq_true rfl⟩ ⟨Nat.zero_le _, Nat.zero_le _⟩ hw 0 rfl rfl rfl hl rfl (Nat.le_of_ble_eq_true rfl) dX2_numberOfDeal_2 (fun H locs hw => ?_)
  refine lv_if_neB (tgt := 10) E.1 E.2.1 dX2_numberOfDeal_5 (by decide) (fun c5 => ?_) (fun c5 => ?_)
  · skip
    refine lv_iload_n E.1 E.2.1 dX2_numberOfDeal_10 rfl (lv_at hl 2 rfl) ?_
    by_cases z11_0 : w = nI 0
    · refine lv_eqi (y := nI 0) z11_0 ?_
      refine lv_tableIn (tgt := 60) E.1 E.2.1 dX2_numberOfDeal_11 (by decide) (by decide) rfl (by decide) ?_
      exact absurd (by rw [z11_0]; decide) h
    by_cases z11_1 : w = nI 1
    · refine lv_eqi (y := nI 1) z11_1 ?_
      refine lv_tableIn (tgt := 67) E.1 E.2.1 dX2_numberOfDeal_11 (by decide) (by decide) rfl (by decide) ?_
      exact absurd (by rw [z11_1]; decide) h
    by_cases z11_2 : w = nI 2
    · refine lv_eqi (y := nI 2) z11_2 ?_
      refine lv_tableIn (tgt := 74) E.1 E.2.1 dX2_numberOfDeal_11 (by decide) (by decide) rfl (by decide) ?_
      exact absurd (by rw [z11_2]; decide) h
    by_cases z11_3 : w = nI 3
    · refine lv_eqi (y := nI 3) z11_3 ?_
      refine lv_tableIn (tgt := 81) E.1 E.2.1 dX2_numberOfDeal_11 (by decide) (by decide) rfl (by decide) ?_
      exact absurd (by rw [z11_3]; decide) h
    by_cases z11_4 : w = nI 4
    · refine lv_eqi (y := nI 4) z11_4 ?_
      refine lv_tableIn (tgt := 88) E.1 E.2.1 dX2_numberOfDeal_11 (by decide) (by decide) rfl (by decide) ?_
      exact absurd (by rw [z11_4]; decide) h
    by_cases z11_5 : w = nI 5
    · refine lv_eqi (y := nI 5) z11_5 ?_
      refine lv_tableIn (tgt := 95) E.1 E.2.1 dX2_numberOfDeal_11 (by decide) (by decide) rfl (by decide) ?_
      exact absurd (by rw [z11_5]; decide) h
    by_cases z11_6 : w = nI 6
    · refine lv_eqi (y := nI 6) z11_6 ?_
      refine lv_tableIn (tgt := 102) E.1 E.2.1 dX2_numberOfDeal_11 (by decide) (by decide) rfl (by decide) ?_
      exact absurd (by rw [z11_6]; decide) h
    by_cases z11_7 : w = nI 7
    · refine lv_eqi (y := nI 7) z11_7 ?_
      refine lv_tableIn (tgt := 109) E.1 E.2.1 dX2_numberOfDeal_11 (by decide) (by decide) rfl (by decide) ?_
      exact absurd (by rw [z11_7]; decide) h
    by_cases z11_8 : w = nI 8
    · refine lv_eqi (y := nI 8) z11_8 ?_
      refine lv_tableIn (tgt := 116) E.1 E.2.1 dX2_numberOfDeal_11 (by decide) (by decide) rfl (by decide) ?_
      exact absurd (by rw [z11_8]; decide) h
    refine lv_tableOut (tgt := 123) E.1 E.2.1 dX2_numberOfDeal_11 (by have t0 := lv_neT z11_0 (a := 0) (by decide); have t1 := lv_neT z11_1 (a := 1) (by decide); have t2 := lv_neT z11_2 (a := 2) (by decide); have t3 := lv_neT z11_3 (a := 3) (by decide); have t4 := lv_neT z11_4 (a := 4) (by decide); have t5 := lv_neT z11_5 (a := 5) (by decide); have t6 := lv_neT z11_6 (a := 6) (by decide); have t7 := lv_neT z11_7 (a := 7) (by decide); have t8 := lv_neT z11_8 (a := 8) (by decide); omega) (by decide) ?_
    refine lv_bipush (v := -2) E.1 E.2.1 dX2_numberOfDeal_123 (by decide) ?_
    exact rI E hr hlk (HB.eq hw (rfl)) (rfl) dX2_numberOfDeal_125
  · exact absurd (in0 (by omega) (by omega)) c5
set_option maxHeartbeats 4000000 in
set_option maxRecDepth 100000 in
theorem c_X2_numberOfDeal_ok (l : Launch) (G : GP) (a : Nat → Nat) (N : NS) (d : Nat) (hd : d < N 5) (hF : FI N) (k : Nat) (hk : k ≤ 8) : MI l yX2_numberOfDeal (.code yX2_numberOfDeal cX2_numberOfDeal 3 (some .int) :: GW) ({ frames := 1, cells := 0, slots := 0, locals := 22 }) [.ref (a 0), .int (nI (d)), .int (nI (k))] G ES (sN G a (N)) (sN G a (N)) (nI (ofd d k N)) := by
  refine MI.of (own := RX2) rfl rfl (Nat.le_of_ble_eq_true rfl) ?_
  intro pP eE sS mM below meth cC ls AA E hw hl hr hlk hE
  replace hl : lv_has ls 3 [(0, .ref (a 0)), (1, .int (nI (d))), (2, .int (nI (k)))] := hl
  have h5 := hF.2.1
  have h6 := hF.1
  have hd8 : d < 8 := by omega
  refine lv_aload_n E.1 E.2.1 dX2_numberOfDeal_0 rfl (lv_at hl 0 rfl) ?_
  refine lv_iload_n E.1 E.2.1 dX2_numberOfDeal_1 rfl (lv_at hl 1 rfl) ?_
  refine callVI E (c_X2_isDeal l G a (N) (nI (d))) mw_18_6 YX2_isDeal ⟨rfl, rfl⟩ ⟨Nat.le_of_ble_eq_true rfl, Nat.le_of_ble_eq_true rfl⟩ ⟨Nat.zero_le _, Nat.zero_le _⟩ hw 0 rfl rfl rfl hl rfl (Nat.le_of_ble_eq_true rfl) dX2_numberOfDeal_2 (fun H locs hw => ?_)
  refine lv_if_neB (tgt := 10) E.1 E.2.1 dX2_numberOfDeal_5 (by decide) (fun c5 => ?_) (fun c5 => ?_)
  · skip
    refine lv_iload_n E.1 E.2.1 dX2_numberOfDeal_10 rfl (lv_at hl 2 rfl) ?_
    by_cases z11_0 : k = 0
    · refine lv_eqi (y := nI 0) (by rw [z11_0]) ?_
      refine lv_tableIn (tgt := 60) E.1 E.2.1 dX2_numberOfDeal_11 (by decide) (by decide) rfl (by decide) ?_
      refine lv_aload_n E.1 E.2.1 dX2_numberOfDeal_60 rfl (lv_at hl 0 rfl) ?_
      refine gX2_6 E hw mw_2_11 dX2_numberOfDeal_61 ?_
      refine lv_iload_n E.1 E.2.1 dX2_numberOfDeal_64 rfl (lv_at hl 1 rfl) ?_
      refine lN2_4 E hw (v := N (30 + 14 * d + 0)) (by omega) (rfl) dX2_numberOfDeal_65 ?_
      exact rI E hr hlk (HB.eq hw (rfl)) (by rw [ofd, if_pos (by omega), z11_0] <;> rfl) dX2_numberOfDeal_66
    by_cases z11_1 : k = 1
    · refine lv_eqi (y := nI 1) (by rw [z11_1]) ?_
      refine lv_tableIn (tgt := 67) E.1 E.2.1 dX2_numberOfDeal_11 (by decide) (by decide) rfl (by decide) ?_
      refine lv_aload_n E.1 E.2.1 dX2_numberOfDeal_67 rfl (lv_at hl 0 rfl) ?_
      refine gX2_7 E hw mw_2_12 dX2_numberOfDeal_68 ?_
      refine lv_iload_n E.1 E.2.1 dX2_numberOfDeal_71 rfl (lv_at hl 1 rfl) ?_
      refine lN2_5 E hw (v := N (30 + 14 * d + 1)) (by omega) (rfl) dX2_numberOfDeal_72 ?_
      exact rI E hr hlk (HB.eq hw (rfl)) (by rw [ofd, if_pos (by omega), z11_1] <;> rfl) dX2_numberOfDeal_73
    by_cases z11_2 : k = 2
    · refine lv_eqi (y := nI 2) (by rw [z11_2]) ?_
      refine lv_tableIn (tgt := 74) E.1 E.2.1 dX2_numberOfDeal_11 (by decide) (by decide) rfl (by decide) ?_
      refine lv_aload_n E.1 E.2.1 dX2_numberOfDeal_74 rfl (lv_at hl 0 rfl) ?_
      refine gX2_8 E hw mw_2_13 dX2_numberOfDeal_75 ?_
      refine lv_iload_n E.1 E.2.1 dX2_numberOfDeal_78 rfl (lv_at hl 1 rfl) ?_
      refine lN2_6 E hw (v := N (30 + 14 * d + 2)) (by omega) (rfl) dX2_numberOfDeal_79 ?_
      exact rI E hr hlk (HB.eq hw (rfl)) (by rw [ofd, if_pos (by omega), z11_2] <;> rfl) dX2_numberOfDeal_80
    by_cases z11_3 : k = 3
    · refine lv_eqi (y := nI 3) (by rw [z11_3]) ?_
      refine lv_tableIn (tgt := 81) E.1 E.2.1 dX2_numberOfDeal_11 (by decide) (by decide) rfl (by decide) ?_
      refine lv_aload_n E.1 E.2.1 dX2_numberOfDeal_81 rfl (lv_at hl 0 rfl) ?_
      refine gX2_10 E hw mw_2_15 dX2_numberOfDeal_82 ?_
      refine lv_iload_n E.1 E.2.1 dX2_numberOfDeal_85 rfl (lv_at hl 1 rfl) ?_
      refine lN2_8 E hw (v := N (30 + 14 * d + 4)) (by omega) (rfl) dX2_numberOfDeal_86 ?_
      exact rI E hr hlk (HB.eq hw (rfl)) (by rw [ofd, if_neg (by omega), if_pos (by omega), z11_3] <;> rfl) dX2_numberOfDeal_87
    by_cases z11_4 : k = 4
    · refine lv_eqi (y := nI 4) (by rw [z11_4]) ?_
      refine lv_tableIn (tgt := 88) E.1 E.2.1 dX2_numberOfDeal_11 (by decide) (by decide) rfl (by decide) ?_
      refine lv_aload_n E.1 E.2.1 dX2_numberOfDeal_88 rfl (lv_at hl 0 rfl) ?_
      refine gX2_11 E hw mw_2_16 dX2_numberOfDeal_89 ?_
      refine lv_iload_n E.1 E.2.1 dX2_numberOfDeal_92 rfl (lv_at hl 1 rfl) ?_
      refine lN2_9 E hw (v := N (30 + 14 * d + 5)) (by omega) (rfl) dX2_numberOfDeal_93 ?_
      exact rI E hr hlk (HB.eq hw (rfl)) (by rw [ofd, if_neg (by omega), if_pos (by omega), z11_4] <;> rfl) dX2_numberOfDeal_94
    by_cases z11_5 : k = 5
    · refine lv_eqi (y := nI 5) (by rw [z11_5]) ?_
      refine lv_tableIn (tgt := 95) E.1 E.2.1 dX2_numberOfDeal_11 (by decide) (by decide) rfl (by decide) ?_
      refine lv_aload_n E.1 E.2.1 dX2_numberOfDeal_95 rfl (lv_at hl 0 rfl) ?_
      refine lv_iload_n E.1 E.2.1 dX2_numberOfDeal_96 rfl (lv_at hl 1 rfl) ?_
      refine lv_iconst (v := nI 0) E.1 E.2.1 dX2_numberOfDeal_97 (by decide) ?_
      refine callVI E (c_X2_whoStand l G a (N) d 0 _ (by omega) (by omega) rfl) mw_9_17 YX2_whoStand ⟨rfl, rfl⟩ ⟨Nat.le_of_ble_eq_true rfl, Nat.le_of_ble_eq_true rfl⟩ ⟨Nat.zero_le _, Nat.zero_le _⟩ hw 0 rfl rfl rfl hl rfl (Nat.le_of_ble_eq_true rfl) dX2_numberOfDeal_98 (fun H locs hw => ?_)
      exact rI E hr hlk (HB.eq hw (rfl)) (by rw [ofd, if_neg (by omega), if_neg (by omega), z11_5] <;> rfl) dX2_numberOfDeal_101
    by_cases z11_6 : k = 6
    · refine lv_eqi (y := nI 6) (by rw [z11_6]) ?_
      refine lv_tableIn (tgt := 102) E.1 E.2.1 dX2_numberOfDeal_11 (by decide) (by decide) rfl (by decide) ?_
      refine lv_aload_n E.1 E.2.1 dX2_numberOfDeal_102 rfl (lv_at hl 0 rfl) ?_
      refine lv_iload_n E.1 E.2.1 dX2_numberOfDeal_103 rfl (lv_at hl 1 rfl) ?_
      refine lv_iconst (v := nI 1) E.1 E.2.1 dX2_numberOfDeal_104 (by decide) ?_
      refine callVI E (c_X2_whoStand l G a (N) d 1 _ (by omega) (by omega) rfl) mw_9_17 YX2_whoStand ⟨rfl, rfl⟩ ⟨Nat.le_of_ble_eq_true rfl, Nat.le_of_ble_eq_true rfl⟩ ⟨Nat.zero_le _, Nat.zero_le _⟩ hw 0 rfl rfl rfl hl rfl (Nat.le_of_ble_eq_true rfl) dX2_numberOfDeal_105 (fun H locs hw => ?_)
      exact rI E hr hlk (HB.eq hw (rfl)) (by rw [ofd, if_neg (by omega), if_neg (by omega), z11_6] <;> rfl) dX2_numberOfDeal_108
    by_cases z11_7 : k = 7
    · refine lv_eqi (y := nI 7) (by rw [z11_7]) ?_
      refine lv_tableIn (tgt := 109) E.1 E.2.1 dX2_numberOfDeal_11 (by decide) (by decide) rfl (by decide) ?_
      refine lv_aload_n E.1 E.2.1 dX2_numberOfDeal_109 rfl (lv_at hl 0 rfl) ?_
      refine lv_iload_n E.1 E.2.1 dX2_numberOfDeal_110 rfl (lv_at hl 1 rfl) ?_
      refine lv_iconst (v := nI 2) E.1 E.2.1 dX2_numberOfDeal_111 (by decide) ?_
      refine callVI E (c_X2_whoStand l G a (N) d 2 _ (by omega) (by omega) rfl) mw_9_17 YX2_whoStand ⟨rfl, rfl⟩ ⟨Nat.le_of_ble_eq_true rfl, Nat.le_of_ble_eq_true rfl⟩ ⟨Nat.zero_le _, Nat.zero_le _⟩ hw 0 rfl rfl rfl hl rfl (Nat.le_of_ble_eq_true rfl) dX2_numberOfDeal_112 (fun H locs hw => ?_)
      exact rI E hr hlk (HB.eq hw (rfl)) (by rw [ofd, if_neg (by omega), if_neg (by omega), z11_7] <;> rfl) dX2_numberOfDeal_115
    by_cases z11_8 : k = 8
    · refine lv_eqi (y := nI 8) (by rw [z11_8]) ?_
      refine lv_tableIn (tgt := 116) E.1 E.2.1 dX2_numberOfDeal_11 (by decide) (by decide) rfl (by decide) ?_
      refine lv_aload_n E.1 E.2.1 dX2_numberOfDeal_116 rfl (lv_at hl 0 rfl) ?_
      refine lv_iload_n E.1 E.2.1 dX2_numberOfDeal_117 rfl (lv_at hl 1 rfl) ?_
      refine lv_iconst (v := nI 3) E.1 E.2.1 dX2_numberOfDeal_118 (by decide) ?_
      refine callVI E (c_X2_whoStand l G a (N) d 3 _ (by omega) (by omega) rfl) mw_9_17 YX2_whoStand ⟨rfl, rfl⟩ ⟨Nat.le_of_ble_eq_true rfl, Nat.le_of_ble_eq_true rfl⟩ ⟨Nat.zero_le _, Nat.zero_le _⟩ hw 0 rfl rfl rfl hl rfl (Nat.le_of_ble_eq_true rfl) dX2_numberOfDeal_119 (fun H locs hw => ?_)
      exact rI E hr hlk (HB.eq hw (rfl)) (by rw [ofd, if_neg (by omega), if_neg (by omega), z11_8] <;> rfl) dX2_numberOfDeal_122
    exfalso; omega
  · exact absurd (in0 (by omega) (by omega)) c5
theorem YX2_standingFor : YV yX2_standingFor RX2 cX2_standingFor 4 (some .int) 2 := ⟨mw_19_3, mw_19_4, mw_1_15, mw_19_5, by decide +kernel⟩
set_option maxHeartbeats 4000000 in
set_option maxRecDepth 100000 in
theorem c_X2_standingFor_bad (l : Launch) (G : GP) (a : Nat → Nat) (N : NS) (e w : Int32) (h : ¬ ((0 ≤ e ∧ e < nI (N 5)) ∧ (nI 0 ≤ w ∧ w ≤ nI 3))) : MI l yX2_standingFor (.code yX2_standingFor cX2_standingFor 4 (some .int) :: GW) ({ frames := 1, cells := 0, slots := 0, locals := 21 }) [.ref (a 0), .int (e), .int (w)] G ES (sN G a (N)) (sN G a (N)) (-1) := by
  refine MI.of (own := RX2) rfl rfl (Nat.le_of_ble_eq_true rfl) ?_
  intro pP eE sS mM below meth cC ls AA E hw hl hr hlk hE
  replace hl : lv_has ls 4 [(0, .ref (a 0)), (1, .int (e)), (2, .int (w))] := hl
  refine lv_aload_n E.1 E.2.1 dX2_standingFor_0 rfl (lv_at hl 0 rfl) ?_
  refine lv_iload_n E.1 E.2.1 dX2_standingFor_1 rfl (lv_at hl 1 rfl) ?_
  refine callVI E (c_X2_isDeal l G a (N) (e)) mw_18_6 YX2_isDeal ⟨rfl, rfl⟩ ⟨Nat.le_of_ble_eq_true rfl, Nat.le_of_ble_eq_true rfl⟩ ⟨Nat.zero_le _, Nat.zero_le _⟩ hw 0 rfl rfl rfl hl rfl (Nat.le_of_ble_eq_true rfl) dX2_standingFor_2 (fun H locs hw => ?_)
  refine lv_if_eqB (tgt := 15) E.1 E.2.1 dX2_standingFor_5 (by decide) (fun c5 => ?_) (fun c5 => ?_)
  · skip
    refine lv_iconst (v := -1) E.1 E.2.1 dX2_standingFor_15 (by decide) ?_
    exact rI E hr hlk (HB.eq hw (rfl)) (rfl) dX2_standingFor_16
  · skip
    refine lv_iload_n E.1 E.2.1 dX2_standingFor_8 rfl (lv_at hl 2 rfl) ?_
    refine callSI E (c_X2_isClerk l G (w)) mw_6_6 YX2_isClerk ⟨rfl, rfl⟩ ⟨Nat.le_of_ble_eq_true rfl, Nat.le_of_ble_eq_true rfl⟩ ⟨Nat.zero_le _, Nat.zero_le _⟩ hw (w := []) (w' := []) (rr := sN G a (N)) (big' := sN G a (N)) (List.Perm.refl _) (List.Perm.refl _) rfl hl rfl (Nat.le_of_ble_eq_true rfl) dX2_standingFor_9 (fun H locs hw => ?_)
    refine lv_if_neB (tgt := 17) E.1 E.2.1 dX2_standingFor_12 (by decide) (fun c12 => ?_) (fun c12 => ?_)
    · exact absurd ⟨c5, c12.1, lt4_le3 c12.2⟩ h
    · skip
      refine lv_iconst (v := -1) E.1 E.2.1 dX2_standingFor_15 (by decide) ?_
      exact rI E hr hlk (HB.eq hw (rfl)) (rfl) dX2_standingFor_16
set_option maxHeartbeats 4000000 in
set_option maxRecDepth 100000 in
theorem c_X2_standingFor_ok (l : Launch) (G : GP) (a : Nat → Nat) (N : NS) (d : Nat) (hd : d < N 5) (hF : FI N) (c : Nat) (hc : c < 4) : MI l yX2_standingFor (.code yX2_standingFor cX2_standingFor 4 (some .int) :: GW) ({ frames := 2, cells := 0, slots := 0, locals := 45 }) [.ref (a 0), .int (nI (d)), .int (nI (c))] G ES (sN G a (N)) (sN G a (N)) ((if (N (30 + 14 * d + 0)).testBit c = true then nI (N (30 + 14 * d + (6 + c))) else -6)) := by
  refine MI.of (own := RX2) rfl rfl (Nat.le_of_ble_eq_true rfl) ?_
  intro pP eE sS mM below meth cC ls AA E hw hl hr hlk hE
  replace hl : lv_has ls 4 [(0, .ref (a 0)), (1, .int (nI (d))), (2, .int (nI (c)))] := hl
  have h5 := hF.2.1
  have h6 := hF.1
  have hd8 : d < 8 := by omega
  have h7 := hF.f6 hd8 hc
  refine lv_aload_n E.1 E.2.1 dX2_standingFor_0 rfl (lv_at hl 0 rfl) ?_
  refine lv_iload_n E.1 E.2.1 dX2_standingFor_1 rfl (lv_at hl 1 rfl) ?_
  refine callVI E (c_X2_isDeal l G a (N) (nI (d))) mw_18_6 YX2_isDeal ⟨rfl, rfl⟩ ⟨Nat.le_of_ble_eq_true rfl, Nat.le_of_ble_eq_true rfl⟩ ⟨Nat.zero_le _, Nat.zero_le _⟩ hw 0 rfl rfl rfl hl rfl (Nat.le_of_ble_eq_true rfl) dX2_standingFor_2 (fun H locs hw => ?_)
  refine lv_if_eqB (tgt := 15) E.1 E.2.1 dX2_standingFor_5 (by decide) (fun c5 => ?_) (fun c5 => ?_)
  · exact absurd (in0 (by omega) (by omega)) c5
  · skip
    refine lv_iload_n E.1 E.2.1 dX2_standingFor_8 rfl (lv_at hl 2 rfl) ?_
    refine callSI E (c_X2_isClerk l G (nI (c))) mw_6_6 YX2_isClerk ⟨rfl, rfl⟩ ⟨Nat.le_of_ble_eq_true rfl, Nat.le_of_ble_eq_true rfl⟩ ⟨Nat.zero_le _, Nat.zero_le _⟩ hw (w := []) (w' := []) (rr := sN G a (N)) (big' := sN G a (N)) (List.Perm.refl _) (List.Perm.refl _) rfl hl rfl (Nat.le_of_ble_eq_true rfl) dX2_standingFor_9 (fun H locs hw => ?_)
    refine lv_if_neB (tgt := 17) E.1 E.2.1 dX2_standingFor_12 (by decide) (fun c12 => ?_) (fun c12 => ?_)
    · skip
      refine lv_iconst (v := nI 0) E.1 E.2.1 dX2_standingFor_17 (by decide) ?_
      refine lv_istore_n (lv' := [(3, .int (nI (0))), (0, .ref (a 0)), (1, .int (nI (d))), (2, .int (nI (c)))]) E.1 E.2.1 dX2_standingFor_18 rfl hl (by decide) rfl (fun ls hl => ?_)
      refine W_ind1 (nL := 4) (P := fun s => s ≤ 4 ∧ ∀ q, q < s → ¬ ((N (30 + 14 * d + 0)).testBit c = true ∧ N (30 + 14 * d + (6 + c)) = q)) (μ := fun s => 4 - s) (I := fun s => sN G a (N)) (L := fun s => [(0, .ref (a 0)), (1, .int (nI (d))), (2, .int (nI (c))), (3, .int (nI (s)))]) ?_ (0) (⟨Nat.zero_le _, fun q hq => absurd hq (Nat.not_lt_zero q)⟩) (HB.eq hw (rfl)) (lvh_eq (l := [(0, .ref (a 0)), (1, .int (nI (d))), (2, .int (nI (c))), (3, .int (nI (0)))]) (lv_sub hl [1, 2, 3, 0] rfl) (rfl))
      intro s hP ih H locs ls hw hl
      replace hw : HB G AA sS.heap (sN G a (N)) H locs := hw
      replace hl : lv_has ls 4 [(0, .ref (a 0)), (1, .int (nI (d))), (2, .int (nI (c))), (3, .int (nI (s)))] := hl
      obtain ⟨hP1, hP2⟩ := hP
      refine lv_iload_n E.1 E.2.1 dX2_standingFor_19 rfl (lv_at hl 3 rfl) ?_
      refine lv_iconst (v := nI 4) E.1 E.2.1 dX2_standingFor_20 (by decide) ?_
      refine lv_icmp_geN (tgt := 42) E.1 E.2.1 (by omega) (by omega) dX2_standingFor_21 (by decide) (fun c21 => ?_) (fun c21 => ?_)
      · skip
        refine lv_bipush (v := -6) E.1 E.2.1 dX2_standingFor_42 (by decide) ?_
        exact rI E hr hlk (HB.eq hw (rfl)) (by rw [if_neg (fun z => hP2 _ (by omega) ⟨z, rfl⟩)]) dX2_standingFor_44
      · skip
        refine lv_aload_n E.1 E.2.1 dX2_standingFor_24 rfl (lv_at hl 0 rfl) ?_
        refine lv_iload_n E.1 E.2.1 dX2_standingFor_25 rfl (lv_at hl 1 rfl) ?_
        refine lv_iload_n E.1 E.2.1 dX2_standingFor_26 rfl (lv_at hl 2 rfl) ?_
        refine lv_iload_n E.1 E.2.1 dX2_standingFor_27 rfl (lv_at hl 3 rfl) ?_
        refine callVI E (c_X2_stands_g l G a (N) d c s (by omega) (by omega) (by omega)) mw_9_13 YX2_stands ⟨rfl, rfl⟩ ⟨Nat.le_of_ble_eq_true rfl, Nat.le_of_ble_eq_true rfl⟩ ⟨Nat.zero_le _, Nat.zero_le _⟩ hw 0 rfl rfl rfl hl rfl (Nat.le_of_ble_eq_true rfl) dX2_standingFor_28 (fun H locs hw => ?_)
        refine lv_if_eqB (tgt := 36) E.1 E.2.1 dX2_standingFor_31 (by decide) (fun c31 => ?_) (fun c31 => ?_)
        · skip
          refine lv_iincN (k := 3) (lv' := [(3, .int (nI (s + 1))), (0, .ref (a 0)), (1, .int (nI (d))), (2, .int (nI (c)))]) E.1 E.2.1 dX2_standingFor_36 hl rfl (by decide) rfl (fun ls hl => ?_)
          refine lv_goto (tgt := 19) E.1 E.2.1 dX2_standingFor_39 (by decide) ?_
          exact ih (s + 1) (⟨by omega, fun q hq => by by_cases z : q = s; (rw [z]; exact c31); exact hP2 q (by omega)⟩) (by omega) _ _ _ (HB.eq hw (rfl)) (lvh_eq (l := [(0, .ref (a 0)), (1, .int (nI (d))), (2, .int (nI (c))), (3, .int (nI (s + 1)))]) (lv_sub hl [1, 2, 3, 0] rfl) (rfl))
        · skip
          refine lv_iload_n E.1 E.2.1 dX2_standingFor_34 rfl (lv_at hl 3 rfl) ?_
          exact rI E hr hlk (HB.eq hw (rfl)) (by rw [if_pos c31.1, c31.2]) dX2_standingFor_35
    · exact absurd (in0 (by omega) (by omega)) c12
theorem YX2_numberOfSomebody : YV yX2_numberOfSomebody RX2 cX2_numberOfSomebody 3 (some .int) 2 := ⟨mw_20_6, mw_20_7, mw_1_15, mw_20_8, by decide +kernel⟩
set_option maxHeartbeats 4000000 in
set_option maxRecDepth 100000 in
theorem c_X2_numberOfSomebody_bad1 (l : Launch) (G : GP) (a : Nat → Nat) (N : NS) (v : Int32) (h : ¬ (nI 0 ≤ v ∧ v ≤ nI 4)) (w : Int32) : MI l yX2_numberOfSomebody (.code yX2_numberOfSomebody cX2_numberOfSomebody 3 (some .int) :: GW) ({ frames := 1, cells := 0, slots := 0, locals := 20 }) [.ref (a 0), .int (v), .int (w)] G ES (sN G a (N)) (sN G a (N)) (-1) := by
  refine MI.of (own := RX2) rfl rfl (Nat.le_of_ble_eq_true rfl) ?_
  intro pP eE sS mM below meth cC ls AA E hw hl hr hlk hE
  replace hl : lv_has ls 3 [(0, .ref (a 0)), (1, .int (v)), (2, .int (w))] := hl
  refine lv_iload_n E.1 E.2.1 dX2_numberOfSomebody_0 rfl (lv_at hl 1 rfl) ?_
  refine callSI E (c_X2_isSomebody l G (v)) mw_14_13 YX2_isSomebody ⟨rfl, rfl⟩ ⟨Nat.le_of_ble_eq_true rfl, Nat.le_of_ble_eq_true rfl⟩ ⟨Nat.zero_le _, Nat.zero_le _⟩ hw (w := []) (w' := []) (rr := sN G a (N)) (big' := sN G a (N)) (List.Perm.refl _) (List.Perm.refl _) rfl hl rfl (Nat.le_of_ble_eq_true rfl) dX2_numberOfSomebody_1 (fun H locs hw => ?_)
  refine lv_if_neB (tgt := 9) E.1 E.2.1 dX2_numberOfSomebody_4 (by decide) (fun c4 => ?_) (fun c4 => ?_)
  · exact absurd ⟨c4.1, lt_le5 c4.2⟩ h
  · skip
    refine lv_iconst (v := -1) E.1 E.2.1 dX2_numberOfSomebody_7 (by decide) ?_
    exact rI E hr hlk (HB.eq hw (rfl)) (rfl) dX2_numberOfSomebody_8
set_option maxHeartbeats 4000000 in
set_option maxRecDepth 100000 in
theorem c_X2_numberOfSomebody_bad2 (l : Launch) (G : GP) (a : Nat → Nat) (N : NS) (w : Nat) (hw : w < 5) (v : Int32) (h : ¬ (nI 0 ≤ v ∧ v ≤ nI 4)) : MI l yX2_numberOfSomebody (.code yX2_numberOfSomebody cX2_numberOfSomebody 3 (some .int) :: GW) ({ frames := 1, cells := 0, slots := 0, locals := 20 }) [.ref (a 0), .int (nI (w)), .int (v)] G ES (sN G a (N)) (sN G a (N)) (-2) := by
  have hw5 := hw
  refine MI.of (own := RX2) rfl rfl (Nat.le_of_ble_eq_true rfl) ?_
  intro pP eE sS mM below meth cC ls AA E hw hl hr hlk hE
  replace hl : lv_has ls 3 [(0, .ref (a 0)), (1, .int (nI (w))), (2, .int (v))] := hl
  refine lv_iload_n E.1 E.2.1 dX2_numberOfSomebody_0 rfl (lv_at hl 1 rfl) ?_
  refine callSI E (c_X2_isSomebody l G (nI (w))) mw_14_13 YX2_isSomebody ⟨rfl, rfl⟩ ⟨Nat.le_of_ble_eq_true rfl, Nat.le_of_ble_eq_true rfl⟩ ⟨Nat.zero_le _, Nat.zero_le _⟩ hw (w := []) (w' := []) (rr := sN G a (N)) (big' := sN G a (N)) (List.Perm.refl _) (List.Perm.refl _) rfl hl rfl (Nat.le_of_ble_eq_true rfl) dX2_numberOfSomebody_1 (fun H locs hw => ?_)
  refine lv_if_neB (tgt := 9) E.1 E.2.1 dX2_numberOfSomebody_4 (by decide) (fun c4 => ?_) (fun c4 => ?_)
  · skip
    refine lv_iload_n E.1 E.2.1 dX2_numberOfSomebody_9 rfl (lv_at hl 2 rfl) ?_
    by_cases z10_0 : v = nI 0
    · refine lv_eqi (y := nI 0) z10_0 ?_
      refine lv_tableIn (tgt := 44) E.1 E.2.1 dX2_numberOfSomebody_10 (by decide) (by decide) rfl (by decide) ?_
      exact absurd (by rw [z10_0]; decide) h
    by_cases z10_1 : v = nI 1
    · refine lv_eqi (y := nI 1) z10_1 ?_
      refine lv_tableIn (tgt := 58) E.1 E.2.1 dX2_numberOfSomebody_10 (by decide) (by decide) rfl (by decide) ?_
      exact absurd (by rw [z10_1]; decide) h
    by_cases z10_2 : v = nI 2
    · refine lv_eqi (y := nI 2) z10_2 ?_
      refine lv_tableIn (tgt := 75) E.1 E.2.1 dX2_numberOfSomebody_10 (by decide) (by decide) rfl (by decide) ?_
      exact absurd (by rw [z10_2]; decide) h
    by_cases z10_3 : v = nI 3
    · refine lv_eqi (y := nI 3) z10_3 ?_
      refine lv_tableIn (tgt := 84) E.1 E.2.1 dX2_numberOfSomebody_10 (by decide) (by decide) rfl (by decide) ?_
      exact absurd (by rw [z10_3]; decide) h
    by_cases z10_4 : v = nI 4
    · refine lv_eqi (y := nI 4) z10_4 ?_
      refine lv_tableIn (tgt := 94) E.1 E.2.1 dX2_numberOfSomebody_10 (by decide) (by decide) rfl (by decide) ?_
      exact absurd (by rw [z10_4]; decide) h
    refine lv_tableOut (tgt := 104) E.1 E.2.1 dX2_numberOfSomebody_10 (by have t0 := lv_neT z10_0 (a := 0) (by decide); have t1 := lv_neT z10_1 (a := 1) (by decide); have t2 := lv_neT z10_2 (a := 2) (by decide); have t3 := lv_neT z10_3 (a := 3) (by decide); have t4 := lv_neT z10_4 (a := 4) (by decide); omega) (by decide) ?_
    refine lv_bipush (v := -2) E.1 E.2.1 dX2_numberOfSomebody_104 (by decide) ?_
    exact rI E hr hlk (HB.eq hw (rfl)) (rfl) dX2_numberOfSomebody_106
  · exact absurd (in0 (by omega) (by omega)) c4
set_option maxHeartbeats 4000000 in
set_option maxRecDepth 100000 in
theorem c_X2_numberOfSomebody_ok (l : Launch) (G : GP) (a : Nat → Nat) (N : NS) (w k : Nat) (hw : w < 5) (hk : k < 5) (hF : FI N) (hm : ∀ p, p < N 6 → N (150 + 4 * p + 3) < 2 ^ 31) : MI l yX2_numberOfSomebody (.code yX2_numberOfSomebody cX2_numberOfSomebody 3 (some .int) :: GW) ({ frames := 2, cells := 0, slots := 0, locals := 45 }) [.ref (a 0), .int (nI (w)), .int (nI (k))] G ES (sN G a (N)) (sN G a (N)) (nI (whoF w k N)) := by
  have hw5 := hw
  refine MI.of (own := RX2) rfl rfl (Nat.le_of_ble_eq_true rfl) ?_
  intro pP eE sS mM below meth cC ls AA E hw hl hr hlk hE
  replace hl : lv_has ls 3 [(0, .ref (a 0)), (1, .int (nI (w))), (2, .int (nI (k)))] := hl
  have h6 := hF.1
  have hil := hF.il hw5
  refine lv_iload_n E.1 E.2.1 dX2_numberOfSomebody_0 rfl (lv_at hl 1 rfl) ?_
  refine callSI E (c_X2_isSomebody l G (nI (w))) mw_14_13 YX2_isSomebody ⟨rfl, rfl⟩ ⟨Nat.le_of_ble_eq_true rfl, Nat.le_of_ble_eq_true rfl⟩ ⟨Nat.zero_le _, Nat.zero_le _⟩ hw (w := []) (w' := []) (rr := sN G a (N)) (big' := sN G a (N)) (List.Perm.refl _) (List.Perm.refl _) rfl hl rfl (Nat.le_of_ble_eq_true rfl) dX2_numberOfSomebody_1 (fun H locs hw => ?_)
  refine lv_if_neB (tgt := 9) E.1 E.2.1 dX2_numberOfSomebody_4 (by decide) (fun c4 => ?_) (fun c4 => ?_)
  · skip
    refine lv_iload_n E.1 E.2.1 dX2_numberOfSomebody_9 rfl (lv_at hl 2 rfl) ?_
    by_cases z10_0 : k = 0
    · refine lv_eqi (y := nI 0) (by rw [z10_0]) ?_
      refine lv_tableIn (tgt := 44) E.1 E.2.1 dX2_numberOfSomebody_10 (by decide) (by decide) rfl (by decide) ?_
      refine lv_aload_n E.1 E.2.1 dX2_numberOfSomebody_44 rfl (lv_at hl 0 rfl) ?_
      refine lv_iload_n E.1 E.2.1 dX2_numberOfSomebody_45 rfl (lv_at hl 1 rfl) ?_
      refine callVI E (c_X2_isIll l G a (N) w (N (10 + w)) (by omega) (rfl)) mw_6_23 YX2_isIll ⟨rfl, rfl⟩ ⟨Nat.le_of_ble_eq_true rfl, Nat.le_of_ble_eq_true rfl⟩ ⟨Nat.zero_le _, Nat.zero_le _⟩ hw 0 rfl rfl rfl hl rfl (Nat.le_of_ble_eq_true rfl) dX2_numberOfSomebody_46 (fun H locs hw => ?_)
      refine lv_if_eqB (tgt := 56) E.1 E.2.1 dX2_numberOfSomebody_49 (by decide) (fun c49 => ?_) (fun c49 => ?_)
      · skip
        refine lv_iconst (v := nI 0) E.1 E.2.1 dX2_numberOfSomebody_56 (by decide) ?_
        exact rI E hr hlk (HB.eq hw (rfl)) (by rw [whoF, if_pos (by omega)]; exact congrArg nI (by omega)) dX2_numberOfSomebody_57
      · skip
        refine lv_iconst (v := nI 1) E.1 E.2.1 dX2_numberOfSomebody_52 (by decide) ?_
        refine lv_goto (tgt := 57) E.1 E.2.1 dX2_numberOfSomebody_53 (by decide) ?_
        exact rI E hr hlk (HB.eq hw (rfl)) (by rw [whoF, if_pos (by omega)]; exact congrArg nI (by omega)) dX2_numberOfSomebody_57
    by_cases z10_1 : k = 1
    · refine lv_eqi (y := nI 1) (by rw [z10_1]) ?_
      refine lv_tableIn (tgt := 58) E.1 E.2.1 dX2_numberOfSomebody_10 (by decide) (by decide) rfl (by decide) ?_
      refine lv_aload_n E.1 E.2.1 dX2_numberOfSomebody_58 rfl (lv_at hl 0 rfl) ?_
      refine gX2_2 E hw mw_4_7 dX2_numberOfSomebody_59 ?_
      refine lv_eqi (y := nI (unwS N)) (rfl) ?_
      refine lv_iload_n E.1 E.2.1 dX2_numberOfSomebody_62 rfl (lv_at hl 1 rfl) ?_
      refine callSNI E (c_X3_isIn l G (unwS N) w (Nat.lt_trans unwS_lt (by decide)) (by omega)) E.2.2.2.2.2.2.1 YX3_isIn ⟨rfl, rfl⟩ ⟨Nat.le_of_ble_eq_true rfl, Nat.le_of_ble_eq_true rfl⟩ ⟨Nat.zero_le _, Nat.zero_le _⟩ hw (w := []) (w' := []) (rr := sN G a (N)) (big' := sN G a (N)) (List.Perm.refl _) (List.Perm.refl _) rfl hl rfl (Nat.le_of_ble_eq_true rfl) dX2_numberOfSomebody_63 (fun H locs hw => ?_)
      refine lv_if_eqB (tgt := 73) E.1 E.2.1 dX2_numberOfSomebody_66 (by decide) (fun c66 => ?_) (fun c66 => ?_)
      · skip
        refine lv_iconst (v := nI 1) E.1 E.2.1 dX2_numberOfSomebody_73 (by decide) ?_
        exact rI E hr hlk (HB.eq hw (rfl)) (by rw [z10_1]; exact congrArg nI (unw_who_f hw5 hF c66)) dX2_numberOfSomebody_74
      · skip
        refine lv_iconst (v := nI 0) E.1 E.2.1 dX2_numberOfSomebody_69 (by decide) ?_
        refine lv_goto (tgt := 74) E.1 E.2.1 dX2_numberOfSomebody_70 (by decide) ?_
        exact rI E hr hlk (HB.eq hw (rfl)) (by rw [z10_1]; exact congrArg nI (unw_who_t hw5 hF c66)) dX2_numberOfSomebody_74
    by_cases z10_2 : k = 2
    · refine lv_eqi (y := nI 2) (by rw [z10_2]) ?_
      refine lv_tableIn (tgt := 75) E.1 E.2.1 dX2_numberOfSomebody_10 (by decide) (by decide) rfl (by decide) ?_
      refine lv_aload_n E.1 E.2.1 dX2_numberOfSomebody_75 rfl (lv_at hl 0 rfl) ?_
      refine gX2_5 E hw mw_2_10 dX2_numberOfSomebody_76 ?_
      refine lv_iload_n E.1 E.2.1 dX2_numberOfSomebody_79 rfl (lv_at hl 1 rfl) ?_
      refine callVI E (c_X1_onTheirWayTo l G a (N) w (by omega) (by omega) hm) mw_20_10 YX1_onTheirWayTo ⟨rfl, rfl⟩ ⟨Nat.le_of_ble_eq_true rfl, Nat.le_of_ble_eq_true rfl⟩ ⟨Nat.zero_le _, Nat.zero_le _⟩ hw 2 rfl rfl rfl hl rfl (Nat.le_of_ble_eq_true rfl) dX2_numberOfSomebody_80 (fun H locs hw => ?_)
      exact rI E hr hlk (HB.eq hw (rfl)) (by rw [whoF, if_neg (by omega), if_neg (by omega), if_pos (by omega)]) dX2_numberOfSomebody_83
    by_cases z10_3 : k = 3
    · refine lv_eqi (y := nI 3) (by rw [z10_3]) ?_
      refine lv_tableIn (tgt := 84) E.1 E.2.1 dX2_numberOfSomebody_10 (by decide) (by decide) rfl (by decide) ?_
      refine lv_aload_n E.1 E.2.1 dX2_numberOfSomebody_84 rfl (lv_at hl 0 rfl) ?_
      refine gX2_5 E hw mw_2_10 dX2_numberOfSomebody_85 ?_
      refine gX1_3 E hw mw_8_20 dX2_numberOfSomebody_88 ?_
      refine lv_iload_n E.1 E.2.1 dX2_numberOfSomebody_91 rfl (lv_at hl 1 rfl) ?_
      refine lN2_2 E hw (v := N (20 + w)) (by omega) (rfl) dX2_numberOfSomebody_92 ?_
      exact rI E hr hlk (HB.eq hw (rfl)) (by rw [whoF, if_neg (by omega), if_neg (by omega), if_neg (by omega), if_pos (by omega)]) dX2_numberOfSomebody_93
    by_cases z10_4 : k = 4
    · refine lv_eqi (y := nI 4) (by rw [z10_4]) ?_
      refine lv_tableIn (tgt := 94) E.1 E.2.1 dX2_numberOfSomebody_10 (by decide) (by decide) rfl (by decide) ?_
      refine lv_aload_n E.1 E.2.1 dX2_numberOfSomebody_94 rfl (lv_at hl 0 rfl) ?_
      refine gX2_5 E hw mw_2_10 dX2_numberOfSomebody_95 ?_
      refine gX1_4 E hw mw_20_9 dX2_numberOfSomebody_98 ?_
      refine lv_iload_n E.1 E.2.1 dX2_numberOfSomebody_101 rfl (lv_at hl 1 rfl) ?_
      refine lN2_3 E hw (v := N (25 + w)) (by omega) (rfl) dX2_numberOfSomebody_102 ?_
      exact rI E hr hlk (HB.eq hw (rfl)) (by rw [whoF, if_neg (by omega), if_neg (by omega), if_neg (by omega), if_neg (by omega)]) dX2_numberOfSomebody_103
    exfalso; omega
  · exact absurd (in0 (by omega) (by omega)) c4
theorem YX2_dealsWithBoth : YV yX2_dealsWithBoth RX2 cX2_dealsWithBoth 5 (some .int) 2 := ⟨mw_21_12, mw_21_13, mw_1_15, mw_21_14, by decide +kernel⟩
set_option maxHeartbeats 4000000 in
set_option maxRecDepth 100000 in
theorem c_X2_dealsWithBoth (l : Launch) (G : GP) (a : Nat → Nat) (N : NS) (x y q : Nat) (h : (x = 2 ∧ y = 2 ∧ q = 0) ∨ (x = 3 ∧ y = 3 ∧ q = 1) ∨ (x = 2 ∧ y = 3 ∧ q = 2)) (hF : FI N) : MI l yX2_dealsWithBoth (.code yX2_dealsWithBoth cX2_dealsWithBoth 5 (some .int) :: GW) ({ frames := 1, cells := 0, slots := 0, locals := 22 }) [.ref (a 0), .int (nI (x)), .int (nI (y))] G ES (sN G a (N)) (sN G a (N)) (nI (dwI q N (N 5))) := by
  refine MI.of (own := RX2) rfl rfl (Nat.le_of_ble_eq_true rfl) ?_
  intro pP eE sS mM below meth cC ls AA E hw hl hr hlk hE
  replace hl : lv_has ls 5 [(0, .ref (a 0)), (1, .int (nI (x))), (2, .int (nI (y)))] := hl
  have h5 := hF.2.1
  refine lv_iconst (v := nI 0) E.1 E.2.1 dX2_dealsWithBoth_0 (by decide) ?_
  refine lv_istore_n (lv' := [(3, .int (nI (0))), (0, .ref (a 0)), (1, .int (nI (x))), (2, .int (nI (y)))]) E.1 E.2.1 dX2_dealsWithBoth_1 rfl hl (by decide) rfl (fun ls hl => ?_)
  refine lv_iconst (v := nI 0) E.1 E.2.1 dX2_dealsWithBoth_2 (by decide) ?_
  refine lv_istore (lv' := [(4, .int (nI (0))), (3, .int (nI (0))), (0, .ref (a 0)), (1, .int (nI (x))), (2, .int (nI (y)))]) E.1 E.2.1 dX2_dealsWithBoth_3 hl (by decide) rfl (fun ls hl => ?_)
  refine W_ind1 (nL := 5) (P := fun d => d ≤ N 5) (μ := fun d => N 5 - d) (I := fun d => sN G a (N)) (L := fun d => [(0, .ref (a 0)), (1, .int (nI (x))), (2, .int (nI (y))), (3, .int (nI (dwI q N d))), (4, .int (nI (d)))]) ?_ (0) (Nat.zero_le _) (HB.eq hw (rfl)) (lvh_eq (l := [(0, .ref (a 0)), (1, .int (nI (x))), (2, .int (nI (y))), (3, .int (nI (0))), (4, .int (nI (0)))]) (lv_sub hl [2, 3, 4, 1, 0] rfl) (rfl))
  intro d hP ih H locs ls hw hl
  replace hw : HB G AA sS.heap (sN G a (N)) H locs := hw
  replace hl : lv_has ls 5 [(0, .ref (a 0)), (1, .int (nI (x))), (2, .int (nI (y))), (3, .int (nI (dwI q N d))), (4, .int (nI (d)))] := hl
  refine lv_iload E.1 E.2.1 dX2_dealsWithBoth_5 (lv_at hl 4 rfl) ?_
  refine lv_aload_n E.1 E.2.1 dX2_dealsWithBoth_7 rfl (lv_at hl 0 rfl) ?_
  refine gX2_3 E hw mw_4_8 dX2_dealsWithBoth_8 ?_
  refine lv_eqi (y := nI (N 5)) (rfl) ?_
  refine lv_icmp_geN (tgt := 43) E.1 E.2.1 (by omega) (by omega) dX2_dealsWithBoth_11 (by decide) (fun c11 => ?_) (fun c11 => ?_)
  · skip
    refine lv_iload_n E.1 E.2.1 dX2_dealsWithBoth_43 rfl (lv_at hl 3 rfl) ?_
    exact rI E hr hlk (HB.eq hw (rfl)) (by rw [show d = N 5 by omega]) dX2_dealsWithBoth_44
  · skip
    have hlx := cOf_lt (d := d) (s := x) (N := N)
    have hly := cOf_lt (d := d) (s := y) (N := N)
    refine lv_aload_n E.1 E.2.1 dX2_dealsWithBoth_14 rfl (lv_at hl 0 rfl) ?_
    refine lv_iload E.1 E.2.1 dX2_dealsWithBoth_15 (lv_at hl 4 rfl) ?_
    refine lv_iload_n E.1 E.2.1 dX2_dealsWithBoth_17 rfl (lv_at hl 1 rfl) ?_
    refine callVI E (c_X2_whoStand l G a (N) d x _ (by omega) (by omega) rfl) mw_9_17 YX2_whoStand ⟨rfl, rfl⟩ ⟨Nat.le_of_ble_eq_true rfl, Nat.le_of_ble_eq_true rfl⟩ ⟨Nat.zero_le _, Nat.zero_le _⟩ hw 0 rfl rfl rfl hl rfl (Nat.le_of_ble_eq_true rfl) dX2_dealsWithBoth_18 (fun H locs hw => ?_)
    refine lv_if_eqN (tgt := 37) E.1 E.2.1 (by omega) dX2_dealsWithBoth_21 (by decide) (fun c21 => ?_) (fun c21 => ?_)
    · skip
      refine lv_iincN (k := 4) (lv' := [(4, .int (nI (d + 1))), (0, .ref (a 0)), (1, .int (nI (x))), (2, .int (nI (y))), (3, .int (nI (dwI q N d)))]) E.1 E.2.1 dX2_dealsWithBoth_37 hl rfl (by decide) rfl (fun ls hl => ?_)
      refine lv_goto (tgt := 5) E.1 E.2.1 dX2_dealsWithBoth_40 (by decide) ?_
      exact ih (d + 1) (by omega) (by omega) _ _ _ (HB.eq hw (rfl)) (lvh_eq (l := [(0, .ref (a 0)), (1, .int (nI (x))), (2, .int (nI (y))), (3, .int (nI (dwI q N d))), (4, .int (nI (d + 1)))]) (lv_sub hl [1, 2, 3, 4, 0] rfl) (by rw [dwI, if_neg (dw_n1 h c21)]; rfl))
    · skip
      refine lv_aload_n E.1 E.2.1 dX2_dealsWithBoth_24 rfl (lv_at hl 0 rfl) ?_
      refine lv_iload E.1 E.2.1 dX2_dealsWithBoth_25 (lv_at hl 4 rfl) ?_
      refine lv_iload_n E.1 E.2.1 dX2_dealsWithBoth_27 rfl (lv_at hl 2 rfl) ?_
      refine callVI E (c_X2_whoStand l G a (N) d y _ (by omega) (by omega) rfl) mw_9_17 YX2_whoStand ⟨rfl, rfl⟩ ⟨Nat.le_of_ble_eq_true rfl, Nat.le_of_ble_eq_true rfl⟩ ⟨Nat.zero_le _, Nat.zero_le _⟩ hw 0 rfl rfl rfl hl rfl (Nat.le_of_ble_eq_true rfl) dX2_dealsWithBoth_28 (fun H locs hw => ?_)
      refine lv_if_eqN (tgt := 37) E.1 E.2.1 (by omega) dX2_dealsWithBoth_31 (by decide) (fun c31 => ?_) (fun c31 => ?_)
      · skip
        refine lv_iincN (k := 4) (lv' := [(4, .int (nI (d + 1))), (0, .ref (a 0)), (1, .int (nI (x))), (2, .int (nI (y))), (3, .int (nI (dwI q N d)))]) E.1 E.2.1 dX2_dealsWithBoth_37 hl rfl (by decide) rfl (fun ls hl => ?_)
        refine lv_goto (tgt := 5) E.1 E.2.1 dX2_dealsWithBoth_40 (by decide) ?_
        exact ih (d + 1) (by omega) (by omega) _ _ _ (HB.eq hw (rfl)) (lvh_eq (l := [(0, .ref (a 0)), (1, .int (nI (x))), (2, .int (nI (y))), (3, .int (nI (dwI q N d))), (4, .int (nI (d + 1)))]) (lv_sub hl [1, 2, 3, 4, 0] rfl) (by rw [dwI, if_neg (dw_n2 h c31)]; rfl))
      · skip
        refine lv_iincN (k := 3) (lv' := [(3, .int (nI (dwI q N d + 1))), (0, .ref (a 0)), (1, .int (nI (x))), (2, .int (nI (y))), (4, .int (nI (d)))]) E.1 E.2.1 dX2_dealsWithBoth_34 hl rfl (by decide) rfl (fun ls hl => ?_)
        refine lv_iincN (k := 4) (lv' := [(4, .int (nI (d + 1))), (3, .int (nI (dwI q N d + 1))), (0, .ref (a 0)), (1, .int (nI (x))), (2, .int (nI (y)))]) E.1 E.2.1 dX2_dealsWithBoth_37 hl rfl (by decide) rfl (fun ls hl => ?_)
        refine lv_goto (tgt := 5) E.1 E.2.1 dX2_dealsWithBoth_40 (by decide) ?_
        exact ih (d + 1) (by omega) (by omega) _ _ _ (HB.eq hw (rfl)) (lvh_eq (l := [(0, .ref (a 0)), (1, .int (nI (x))), (2, .int (nI (y))), (3, .int (nI (dwI q N d + 1))), (4, .int (nI (d + 1)))]) (lv_sub hl [2, 3, 4, 1, 0] rfl) (by rw [dwI, if_pos (dw_c h c21 c31)]))
theorem YX2_numberOfAll : YV yX2_numberOfAll RX2 cX2_numberOfAll 2 (some .int) 1 := ⟨mw_21_4, mw_21_5, mw_1_15, mw_21_6, by decide +kernel⟩
set_option maxHeartbeats 4000000 in
set_option maxRecDepth 100000 in
theorem c_X2_numberOfAll_bad (l : Launch) (G : GP) (a : Nat → Nat) (N : NS) (w : Int32) (h : ¬ (nI 0 ≤ w ∧ w ≤ nI 13)) : MI l yX2_numberOfAll (.code yX2_numberOfAll cX2_numberOfAll 2 (some .int) :: GW) ({ frames := 0, cells := 0, slots := 0, locals := 0 }) [.ref (a 0), .int (w)] G ES (sN G a (N)) (sN G a (N)) (-2) := by
  refine MI.of (own := RX2) rfl rfl (Nat.le_of_ble_eq_true rfl) ?_
  intro pP eE sS mM below meth cC ls AA E hw hl hr hlk hE
  replace hl : lv_has ls 2 [(0, .ref (a 0)), (1, .int (w))] := hl
  refine lv_iload_n E.1 E.2.1 dX2_numberOfAll_0 rfl (lv_at hl 1 rfl) ?_
  by_cases z1_0 : w = nI 0
  · refine lv_eqi (y := nI 0) z1_0 ?_
    refine lv_tableIn (tgt := 72) E.1 E.2.1 dX2_numberOfAll_1 (by decide) (by decide) rfl (by decide) ?_
    exact absurd (by rw [z1_0]; decide) h
  by_cases z1_1 : w = nI 1
  · refine lv_eqi (y := nI 1) z1_1 ?_
    refine lv_tableIn (tgt := 77) E.1 E.2.1 dX2_numberOfAll_1 (by decide) (by decide) rfl (by decide) ?_
    exact absurd (by rw [z1_1]; decide) h
  by_cases z1_2 : w = nI 2
  · refine lv_eqi (y := nI 2) z1_2 ?_
    refine lv_tableIn (tgt := 82) E.1 E.2.1 dX2_numberOfAll_1 (by decide) (by decide) rfl (by decide) ?_
    exact absurd (by rw [z1_2]; decide) h
  by_cases z1_3 : w = nI 3
  · refine lv_eqi (y := nI 3) z1_3 ?_
    refine lv_tableIn (tgt := 90) E.1 E.2.1 dX2_numberOfAll_1 (by decide) (by decide) rfl (by decide) ?_
    exact absurd (by rw [z1_3]; decide) h
  by_cases z1_4 : w = nI 4
  · refine lv_eqi (y := nI 4) z1_4 ?_
    refine lv_tableIn (tgt := 98) E.1 E.2.1 dX2_numberOfAll_1 (by decide) (by decide) rfl (by decide) ?_
    exact absurd (by rw [z1_4]; decide) h
  by_cases z1_5 : w = nI 5
  · refine lv_eqi (y := nI 5) z1_5 ?_
    refine lv_tableIn (tgt := 155) E.1 E.2.1 dX2_numberOfAll_1 (by decide) (by decide) rfl (by decide) ?_
    exact absurd (by rw [z1_5]; decide) h
  by_cases z1_6 : w = nI 6
  · refine lv_eqi (y := nI 6) z1_6 ?_
    refine lv_tableIn (tgt := 155) E.1 E.2.1 dX2_numberOfAll_1 (by decide) (by decide) rfl (by decide) ?_
    exact absurd (by rw [z1_6]; decide) h
  by_cases z1_7 : w = nI 7
  · refine lv_eqi (y := nI 7) z1_7 ?_
    refine lv_tableIn (tgt := 106) E.1 E.2.1 dX2_numberOfAll_1 (by decide) (by decide) rfl (by decide) ?_
    exact absurd (by rw [z1_7]; decide) h
  by_cases z1_8 : w = nI 8
  · refine lv_eqi (y := nI 8) z1_8 ?_
    refine lv_tableIn (tgt := 113) E.1 E.2.1 dX2_numberOfAll_1 (by decide) (by decide) rfl (by decide) ?_
    exact absurd (by rw [z1_8]; decide) h
  by_cases z1_9 : w = nI 9
  · refine lv_eqi (y := nI 9) z1_9 ?_
    refine lv_tableIn (tgt := 120) E.1 E.2.1 dX2_numberOfAll_1 (by decide) (by decide) rfl (by decide) ?_
    exact absurd (by rw [z1_9]; decide) h
  by_cases z1_10 : w = nI 10
  · refine lv_eqi (y := nI 10) z1_10 ?_
    refine lv_tableIn (tgt := 127) E.1 E.2.1 dX2_numberOfAll_1 (by decide) (by decide) rfl (by decide) ?_
    exact absurd (by rw [z1_10]; decide) h
  by_cases z1_11 : w = nI 11
  · refine lv_eqi (y := nI 11) z1_11 ?_
    refine lv_tableIn (tgt := 134) E.1 E.2.1 dX2_numberOfAll_1 (by decide) (by decide) rfl (by decide) ?_
    exact absurd (by rw [z1_11]; decide) h
  by_cases z1_12 : w = nI 12
  · refine lv_eqi (y := nI 12) z1_12 ?_
    refine lv_tableIn (tgt := 141) E.1 E.2.1 dX2_numberOfAll_1 (by decide) (by decide) rfl (by decide) ?_
    exact absurd (by rw [z1_12]; decide) h
  by_cases z1_13 : w = nI 13
  · refine lv_eqi (y := nI 13) z1_13 ?_
    refine lv_tableIn (tgt := 148) E.1 E.2.1 dX2_numberOfAll_1 (by decide) (by decide) rfl (by decide) ?_
    exact absurd (by rw [z1_13]; decide) h
  refine lv_tableOut (tgt := 155) E.1 E.2.1 dX2_numberOfAll_1 (by have t0 := lv_neT z1_0 (a := 0) (by decide); have t1 := lv_neT z1_1 (a := 1) (by decide); have t2 := lv_neT z1_2 (a := 2) (by decide); have t3 := lv_neT z1_3 (a := 3) (by decide); have t4 := lv_neT z1_4 (a := 4) (by decide); have t5 := lv_neT z1_5 (a := 5) (by decide); have t6 := lv_neT z1_6 (a := 6) (by decide); have t7 := lv_neT z1_7 (a := 7) (by decide); have t8 := lv_neT z1_8 (a := 8) (by decide); have t9 := lv_neT z1_9 (a := 9) (by decide); have t10 := lv_neT z1_10 (a := 10) (by decide); have t11 := lv_neT z1_11 (a := 11) (by decide); have t12 := lv_neT z1_12 (a := 12) (by decide); have t13 := lv_neT z1_13 (a := 13) (by decide); omega) (by decide) ?_
  refine lv_bipush (v := -2) E.1 E.2.1 dX2_numberOfAll_155 (by decide) ?_
  exact rI E hr hlk (HB.eq hw (rfl)) (rfl) dX2_numberOfAll_157
set_option maxHeartbeats 4000000 in
set_option maxRecDepth 100000 in
theorem c_X2_numberOfAll_ok (l : Launch) (G : GP) (a : Nat → Nat) (N : NS) (k : Nat) (hk : k < 14) (h5 : ¬ k = 5) (h6 : ¬ k = 6) (hF : FI N) (hDV : dvI N 5 = N 7) : MI l yX2_numberOfAll (.code yX2_numberOfAll cX2_numberOfAll 2 (some .int) :: GW) ({ frames := 2, cells := 0, slots := 0, locals := 46 }) [.ref (a 0), .int (nI (k))] G ES (sN G a (N)) (sN G a (N)) ((if k < 5 then nI (N (4 + k)) else if k < 11 then nI (N (k - 7)) else nI (dwI (k - 11) N (N 5)))) := by
  refine MI.of (own := RX2) rfl rfl (Nat.le_of_ble_eq_true rfl) ?_
  intro pP eE sS mM below meth cC ls AA E hw hl hr hlk hE
  replace hl : lv_has ls 2 [(0, .ref (a 0)), (1, .int (nI (k)))] := hl
  refine lv_iload_n E.1 E.2.1 dX2_numberOfAll_0 rfl (lv_at hl 1 rfl) ?_
  by_cases z1_0 : k = 0
  · refine lv_eqi (y := nI 0) (by rw [z1_0]) ?_
    refine lv_tableIn (tgt := 72) E.1 E.2.1 dX2_numberOfAll_1 (by decide) (by decide) rfl (by decide) ?_
    refine lv_aload_n E.1 E.2.1 dX2_numberOfAll_72 rfl (lv_at hl 0 rfl) ?_
    refine gX2_0 E hw mw_4_5 dX2_numberOfAll_73 ?_
    refine lv_eqi (y := nI (N 4)) (rfl) ?_
    exact rI E hr hlk (HB.eq hw (rfl)) (by rw [if_pos (by omega), z1_0] <;> rfl) dX2_numberOfAll_76
  by_cases z1_1 : k = 1
  · refine lv_eqi (y := nI 1) (by rw [z1_1]) ?_
    refine lv_tableIn (tgt := 77) E.1 E.2.1 dX2_numberOfAll_1 (by decide) (by decide) rfl (by decide) ?_
    refine lv_aload_n E.1 E.2.1 dX2_numberOfAll_77 rfl (lv_at hl 0 rfl) ?_
    refine gX2_3 E hw mw_4_8 dX2_numberOfAll_78 ?_
    refine lv_eqi (y := nI (N 5)) (rfl) ?_
    exact rI E hr hlk (HB.eq hw (rfl)) (by rw [if_pos (by omega), z1_1] <;> rfl) dX2_numberOfAll_81
  by_cases z1_2 : k = 2
  · refine lv_eqi (y := nI 2) (by rw [z1_2]) ?_
    refine lv_tableIn (tgt := 82) E.1 E.2.1 dX2_numberOfAll_1 (by decide) (by decide) rfl (by decide) ?_
    refine lv_aload_n E.1 E.2.1 dX2_numberOfAll_82 rfl (lv_at hl 0 rfl) ?_
    refine gX2_5 E hw mw_2_10 dX2_numberOfAll_83 ?_
    refine gX1_0 E hw mw_8_19 dX2_numberOfAll_86 ?_
    refine lv_eqi (y := nI (N 6)) (rfl) ?_
    exact rI E hr hlk (HB.eq hw (rfl)) (by rw [if_pos (by omega), z1_2] <;> rfl) dX2_numberOfAll_89
  by_cases z1_3 : k = 3
  · refine lv_eqi (y := nI 3) (by rw [z1_3]) ?_
    refine lv_tableIn (tgt := 90) E.1 E.2.1 dX2_numberOfAll_1 (by decide) (by decide) rfl (by decide) ?_
    refine lv_aload_n E.1 E.2.1 dX2_numberOfAll_90 rfl (lv_at hl 0 rfl) ?_
    refine gX2_5 E hw mw_2_10 dX2_numberOfAll_91 ?_
    refine callVI E (c_X1_delivered l G a (N)) mw_21_7 YX1_delivered ⟨rfl, rfl⟩ ⟨Nat.le_of_ble_eq_true rfl, Nat.le_of_ble_eq_true rfl⟩ ⟨Nat.zero_le _, Nat.zero_le _⟩ hw 2 rfl rfl rfl hl rfl (Nat.le_of_ble_eq_true rfl) dX2_numberOfAll_94 (fun H locs hw => ?_)
    exact rI E hr hlk (HB.eq hw (rfl)) (by rw [if_pos (by omega), z1_3]; exact congrArg nI hDV) dX2_numberOfAll_97
  by_cases z1_4 : k = 4
  · refine lv_eqi (y := nI 4) (by rw [z1_4]) ?_
    refine lv_tableIn (tgt := 98) E.1 E.2.1 dX2_numberOfAll_1 (by decide) (by decide) rfl (by decide) ?_
    refine lv_aload_n E.1 E.2.1 dX2_numberOfAll_98 rfl (lv_at hl 0 rfl) ?_
    refine gX2_5 E hw mw_2_10 dX2_numberOfAll_99 ?_
    refine gX1_1 E hw mw_8_18 dX2_numberOfAll_102 ?_
    refine lv_eqi (y := nI (N 8)) (rfl) ?_
    exact rI E hr hlk (HB.eq hw (rfl)) (by rw [if_pos (by omega), z1_4] <;> rfl) dX2_numberOfAll_105
  by_cases z1_5 : k = 5
  · refine lv_eqi (y := nI 5) (by rw [z1_5]) ?_
    refine lv_tableIn (tgt := 155) E.1 E.2.1 dX2_numberOfAll_1 (by decide) (by decide) rfl (by decide) ?_
    exact absurd z1_5 h5
  by_cases z1_6 : k = 6
  · refine lv_eqi (y := nI 6) (by rw [z1_6]) ?_
    refine lv_tableIn (tgt := 155) E.1 E.2.1 dX2_numberOfAll_1 (by decide) (by decide) rfl (by decide) ?_
    exact absurd z1_6 h6
  by_cases z1_7 : k = 7
  · refine lv_eqi (y := nI 7) (by rw [z1_7]) ?_
    refine lv_tableIn (tgt := 106) E.1 E.2.1 dX2_numberOfAll_1 (by decide) (by decide) rfl (by decide) ?_
    refine lv_aload_n E.1 E.2.1 dX2_numberOfAll_106 rfl (lv_at hl 0 rfl) ?_
    refine gX2_4 E hw mw_2_6 dX2_numberOfAll_107 ?_
    refine lv_iconst (v := nI 0) E.1 E.2.1 dX2_numberOfAll_110 (by decide) ?_
    refine lN2_0 E hw (v := N 0) (by omega) (rfl) dX2_numberOfAll_111 ?_
    exact rI E hr hlk (HB.eq hw (rfl)) (by rw [if_neg (by omega), if_pos (by omega), z1_7] <;> rfl) dX2_numberOfAll_112
  by_cases z1_8 : k = 8
  · refine lv_eqi (y := nI 8) (by rw [z1_8]) ?_
    refine lv_tableIn (tgt := 113) E.1 E.2.1 dX2_numberOfAll_1 (by decide) (by decide) rfl (by decide) ?_
    refine lv_aload_n E.1 E.2.1 dX2_numberOfAll_113 rfl (lv_at hl 0 rfl) ?_
    refine gX2_4 E hw mw_2_6 dX2_numberOfAll_114 ?_
    refine lv_iconst (v := nI 1) E.1 E.2.1 dX2_numberOfAll_117 (by decide) ?_
    refine lN2_0 E hw (v := N 1) (by omega) (rfl) dX2_numberOfAll_118 ?_
    exact rI E hr hlk (HB.eq hw (rfl)) (by rw [if_neg (by omega), if_pos (by omega), z1_8] <;> rfl) dX2_numberOfAll_119
  by_cases z1_9 : k = 9
  · refine lv_eqi (y := nI 9) (by rw [z1_9]) ?_
    refine lv_tableIn (tgt := 120) E.1 E.2.1 dX2_numberOfAll_1 (by decide) (by decide) rfl (by decide) ?_
    refine lv_aload_n E.1 E.2.1 dX2_numberOfAll_120 rfl (lv_at hl 0 rfl) ?_
    refine gX2_4 E hw mw_2_6 dX2_numberOfAll_121 ?_
    refine lv_iconst (v := nI 2) E.1 E.2.1 dX2_numberOfAll_124 (by decide) ?_
    refine lN2_0 E hw (v := N 2) (by omega) (rfl) dX2_numberOfAll_125 ?_
    exact rI E hr hlk (HB.eq hw (rfl)) (by rw [if_neg (by omega), if_pos (by omega), z1_9] <;> rfl) dX2_numberOfAll_126
  by_cases z1_10 : k = 10
  · refine lv_eqi (y := nI 10) (by rw [z1_10]) ?_
    refine lv_tableIn (tgt := 127) E.1 E.2.1 dX2_numberOfAll_1 (by decide) (by decide) rfl (by decide) ?_
    refine lv_aload_n E.1 E.2.1 dX2_numberOfAll_127 rfl (lv_at hl 0 rfl) ?_
    refine gX2_4 E hw mw_2_6 dX2_numberOfAll_128 ?_
    refine lv_iconst (v := nI 3) E.1 E.2.1 dX2_numberOfAll_131 (by decide) ?_
    refine lN2_0 E hw (v := N 3) (by omega) (rfl) dX2_numberOfAll_132 ?_
    exact rI E hr hlk (HB.eq hw (rfl)) (by rw [if_neg (by omega), if_pos (by omega), z1_10] <;> rfl) dX2_numberOfAll_133
  by_cases z1_11 : k = 11
  · refine lv_eqi (y := nI 11) (by rw [z1_11]) ?_
    refine lv_tableIn (tgt := 134) E.1 E.2.1 dX2_numberOfAll_1 (by decide) (by decide) rfl (by decide) ?_
    refine lv_aload_n E.1 E.2.1 dX2_numberOfAll_134 rfl (lv_at hl 0 rfl) ?_
    refine lv_iconst (v := nI 2) E.1 E.2.1 dX2_numberOfAll_135 (by decide) ?_
    refine lv_iconst (v := nI 2) E.1 E.2.1 dX2_numberOfAll_136 (by decide) ?_
    refine callVI E (c_X2_dealsWithBoth l G a (N) 2 2 0 (by decide) hF) mw_21_11 YX2_dealsWithBoth ⟨rfl, rfl⟩ ⟨Nat.le_of_ble_eq_true rfl, Nat.le_of_ble_eq_true rfl⟩ ⟨Nat.zero_le _, Nat.zero_le _⟩ hw 0 rfl rfl rfl hl rfl (Nat.le_of_ble_eq_true rfl) dX2_numberOfAll_137 (fun H locs hw => ?_)
    exact rI E hr hlk (HB.eq hw (rfl)) (by rw [if_neg (by omega), if_neg (by omega), z1_11] <;> rfl) dX2_numberOfAll_140
  by_cases z1_12 : k = 12
  · refine lv_eqi (y := nI 12) (by rw [z1_12]) ?_
    refine lv_tableIn (tgt := 141) E.1 E.2.1 dX2_numberOfAll_1 (by decide) (by decide) rfl (by decide) ?_
    refine lv_aload_n E.1 E.2.1 dX2_numberOfAll_141 rfl (lv_at hl 0 rfl) ?_
    refine lv_iconst (v := nI 3) E.1 E.2.1 dX2_numberOfAll_142 (by decide) ?_
    refine lv_iconst (v := nI 3) E.1 E.2.1 dX2_numberOfAll_143 (by decide) ?_
    refine callVI E (c_X2_dealsWithBoth l G a (N) 3 3 1 (by decide) hF) mw_21_11 YX2_dealsWithBoth ⟨rfl, rfl⟩ ⟨Nat.le_of_ble_eq_true rfl, Nat.le_of_ble_eq_true rfl⟩ ⟨Nat.zero_le _, Nat.zero_le _⟩ hw 0 rfl rfl rfl hl rfl (Nat.le_of_ble_eq_true rfl) dX2_numberOfAll_144 (fun H locs hw => ?_)
    exact rI E hr hlk (HB.eq hw (rfl)) (by rw [if_neg (by omega), if_neg (by omega), z1_12] <;> rfl) dX2_numberOfAll_147
  by_cases z1_13 : k = 13
  · refine lv_eqi (y := nI 13) (by rw [z1_13]) ?_
    refine lv_tableIn (tgt := 148) E.1 E.2.1 dX2_numberOfAll_1 (by decide) (by decide) rfl (by decide) ?_
    refine lv_aload_n E.1 E.2.1 dX2_numberOfAll_148 rfl (lv_at hl 0 rfl) ?_
    refine lv_iconst (v := nI 2) E.1 E.2.1 dX2_numberOfAll_149 (by decide) ?_
    refine lv_iconst (v := nI 3) E.1 E.2.1 dX2_numberOfAll_150 (by decide) ?_
    refine callVI E (c_X2_dealsWithBoth l G a (N) 2 3 2 (by decide) hF) mw_21_11 YX2_dealsWithBoth ⟨rfl, rfl⟩ ⟨Nat.le_of_ble_eq_true rfl, Nat.le_of_ble_eq_true rfl⟩ ⟨Nat.zero_le _, Nat.zero_le _⟩ hw 0 rfl rfl rfl hl rfl (Nat.le_of_ble_eq_true rfl) dX2_numberOfAll_151 (fun H locs hw => ?_)
    exact rI E hr hlk (HB.eq hw (rfl)) (by rw [if_neg (by omega), if_neg (by omega), z1_13] <;> rfl) dX2_numberOfAll_154
  exfalso; omega
theorem YX2_whatIsSure : YV yX2_whatIsSure RX2 cX2_whatIsSure 2 (some .int) 1 := ⟨mw_22_5, mw_22_6, mw_1_15, mw_22_7, by decide +kernel⟩
set_option maxHeartbeats 4000000 in
set_option maxRecDepth 100000 in
theorem c_X2_whatIsSure_bad1 (l : Launch) (G : GP) (a : Nat → Nat) (N : NS) (e : Int32) (h : ¬ (0 ≤ e ∧ e < nI (N 5))) : MI l yX2_whatIsSure (.code yX2_whatIsSure cX2_whatIsSure 2 (some .int) :: GW) ({ frames := 1, cells := 0, slots := 0, locals := 21 }) [.ref (a 0), .int (e)] G ES (sN G a (N)) (sN G a (N)) (-1) := by
  refine MI.of (own := RX2) rfl rfl (Nat.le_of_ble_eq_true rfl) ?_
  intro pP eE sS mM below meth cC ls AA E hw hl hr hlk hE
  replace hl : lv_has ls 2 [(0, .ref (a 0)), (1, .int (e))] := hl
  refine lv_aload_n E.1 E.2.1 dX2_whatIsSure_0 rfl (lv_at hl 0 rfl) ?_
  refine lv_iload_n E.1 E.2.1 dX2_whatIsSure_1 rfl (lv_at hl 1 rfl) ?_
  refine callVI E (c_X2_isDeal l G a (N) (e)) mw_18_6 YX2_isDeal ⟨rfl, rfl⟩ ⟨Nat.le_of_ble_eq_true rfl, Nat.le_of_ble_eq_true rfl⟩ ⟨Nat.zero_le _, Nat.zero_le _⟩ hw 0 rfl rfl rfl hl rfl (Nat.le_of_ble_eq_true rfl) dX2_whatIsSure_2 (fun H locs hw => ?_)
  refine lv_if_neB (tgt := 10) E.1 E.2.1 dX2_whatIsSure_5 (by decide) (fun c5 => ?_) (fun c5 => ?_)
  · exact absurd c5 h
  · skip
    refine lv_iconst (v := -1) E.1 E.2.1 dX2_whatIsSure_8 (by decide) ?_
    exact rI E hr hlk (HB.eq hw (rfl)) (rfl) dX2_whatIsSure_9
set_option maxHeartbeats 4000000 in
set_option maxRecDepth 100000 in
theorem c_X2_whatIsSure_ok (l : Launch) (G : GP) (a : Nat → Nat) (N : NS) (d : Nat) (hd : d < N 5) (hF : FI N) : MI l yX2_whatIsSure (.code yX2_whatIsSure cX2_whatIsSure 2 (some .int) :: GW) ({ frames := 1, cells := 0, slots := 0, locals := 22 }) [.ref (a 0), .int (nI (d))] G ES (sN G a (N)) (sN G a (N)) (nI (suR d N)) := by
  refine MI.of (own := RX2) rfl rfl (Nat.le_of_ble_eq_true rfl) ?_
  intro pP eE sS mM below meth cC ls AA E hw hl hr hlk hE
  replace hl : lv_has ls 2 [(0, .ref (a 0)), (1, .int (nI (d)))] := hl
  have h5 := hF.2.1
  have h6 := hF.1
  have hd8 : d < 8 := by omega
  have h1 := hF.f1 hd8
  have hq3 := cOf_lt (d := d) (s := 3) (N := N)
  refine lv_aload_n E.1 E.2.1 dX2_whatIsSure_0 rfl (lv_at hl 0 rfl) ?_
  refine lv_iload_n E.1 E.2.1 dX2_whatIsSure_1 rfl (lv_at hl 1 rfl) ?_
  refine callVI E (c_X2_isDeal l G a (N) (nI (d))) mw_18_6 YX2_isDeal ⟨rfl, rfl⟩ ⟨Nat.le_of_ble_eq_true rfl, Nat.le_of_ble_eq_true rfl⟩ ⟨Nat.zero_le _, Nat.zero_le _⟩ hw 0 rfl rfl rfl hl rfl (Nat.le_of_ble_eq_true rfl) dX2_whatIsSure_2 (fun H locs hw => ?_)
  refine lv_if_neB (tgt := 10) E.1 E.2.1 dX2_whatIsSure_5 (by decide) (fun c5 => ?_) (fun c5 => ?_)
  · skip
    refine lv_aload_n E.1 E.2.1 dX2_whatIsSure_10 rfl (lv_at hl 0 rfl) ?_
    refine gX2_7 E hw mw_2_12 dX2_whatIsSure_11 ?_
    refine lv_iload_n E.1 E.2.1 dX2_whatIsSure_14 rfl (lv_at hl 1 rfl) ?_
    refine lN2_5 E hw (v := N (30 + 14 * d + 1)) (by omega) (rfl) dX2_whatIsSure_15 ?_
    refine lv_iconst (v := nI 1) E.1 E.2.1 dX2_whatIsSure_16 (by decide) ?_
    refine lv_icmp_eqN (tgt := 30) E.1 E.2.1 (by omega) (by omega) dX2_whatIsSure_17 (by decide) (fun c17 => ?_) (fun c17 => ?_)
    · skip
      refine lv_iconst (v := nI 1) E.1 E.2.1 dX2_whatIsSure_30 (by decide) ?_
      exact rI E hr hlk (HB.eq hw (rfl)) (by rw [suR, if_pos (by omega)]) dX2_whatIsSure_31
    · skip
      refine lv_aload_n E.1 E.2.1 dX2_whatIsSure_20 rfl (lv_at hl 0 rfl) ?_
      refine gX2_7 E hw mw_2_12 dX2_whatIsSure_21 ?_
      refine lv_iload_n E.1 E.2.1 dX2_whatIsSure_24 rfl (lv_at hl 1 rfl) ?_
      refine lN2_5 E hw (v := N (30 + 14 * d + 1)) (by omega) (rfl) dX2_whatIsSure_25 ?_
      refine lv_iconst (v := nI 3) E.1 E.2.1 dX2_whatIsSure_26 (by decide) ?_
      refine lv_icmp_neN (tgt := 32) E.1 E.2.1 (by omega) (by omega) dX2_whatIsSure_27 (by decide) (fun c27 => ?_) (fun c27 => ?_)
      · skip
        refine lv_aload_n E.1 E.2.1 dX2_whatIsSure_32 rfl (lv_at hl 0 rfl) ?_
        refine gX2_7 E hw mw_2_12 dX2_whatIsSure_33 ?_
        refine lv_iload_n E.1 E.2.1 dX2_whatIsSure_36 rfl (lv_at hl 1 rfl) ?_
        refine lN2_5 E hw (v := N (30 + 14 * d + 1)) (by omega) (rfl) dX2_whatIsSure_37 ?_
        refine lv_iconst (v := nI 2) E.1 E.2.1 dX2_whatIsSure_38 (by decide) ?_
        refine lv_icmp_eqN (tgt := 51) E.1 E.2.1 (by omega) (by omega) dX2_whatIsSure_39 (by decide) (fun c39 => ?_) (fun c39 => ?_)
        · skip
          refine lv_iconst (v := nI 2) E.1 E.2.1 dX2_whatIsSure_51 (by decide) ?_
          refine lv_goto (tgt := 56) E.1 E.2.1 dX2_whatIsSure_52 (by decide) ?_
          exact rI E hr hlk (HB.eq hw (rfl)) (by rw [suR, if_neg (by omega), if_pos (by omega)]) dX2_whatIsSure_56
        · skip
          refine lv_aload_n E.1 E.2.1 dX2_whatIsSure_42 rfl (lv_at hl 0 rfl) ?_
          refine lv_iload_n E.1 E.2.1 dX2_whatIsSure_43 rfl (lv_at hl 1 rfl) ?_
          refine lv_iconst (v := nI 3) E.1 E.2.1 dX2_whatIsSure_44 (by decide) ?_
          refine callVI E (c_X2_whoStand l G a (N) d 3 _ (by omega) (by omega) rfl) mw_9_17 YX2_whoStand ⟨rfl, rfl⟩ ⟨Nat.le_of_ble_eq_true rfl, Nat.le_of_ble_eq_true rfl⟩ ⟨Nat.zero_le _, Nat.zero_le _⟩ hw 0 rfl rfl rfl hl rfl (Nat.le_of_ble_eq_true rfl) dX2_whatIsSure_45 (fun H locs hw => ?_)
          refine lv_if_eqN (tgt := 55) E.1 E.2.1 (by omega) dX2_whatIsSure_48 (by decide) (fun c48 => ?_) (fun c48 => ?_)
          · skip
            refine lv_iconst (v := nI 0) E.1 E.2.1 dX2_whatIsSure_55 (by decide) ?_
            exact rI E hr hlk (HB.eq hw (rfl)) (by rw [suR, if_neg (by omega), if_neg (by omega)]) dX2_whatIsSure_56
          · skip
            refine lv_iconst (v := nI 2) E.1 E.2.1 dX2_whatIsSure_51 (by decide) ?_
            refine lv_goto (tgt := 56) E.1 E.2.1 dX2_whatIsSure_52 (by decide) ?_
            exact rI E hr hlk (HB.eq hw (rfl)) (by rw [suR, if_neg (by omega), if_pos (by omega)]) dX2_whatIsSure_56
      · skip
        refine lv_iconst (v := nI 1) E.1 E.2.1 dX2_whatIsSure_30 (by decide) ?_
        exact rI E hr hlk (HB.eq hw (rfl)) (by rw [suR, if_pos (by omega)]) dX2_whatIsSure_31
  · exact absurd (in0 (by omega) (by omega)) c5
theorem YX2_whoFindsOut : YV yX2_whoFindsOut RX2 cX2_whoFindsOut 6 (some .int) 1 := ⟨mw_22_17, mw_22_18, mw_1_15, mw_22_19, by decide +kernel⟩
set_option maxHeartbeats 4000000 in
set_option maxRecDepth 100000 in
theorem c_X2_whoFindsOut_bad1 (l : Launch) (G : GP) (a : Nat → Nat) (N : NS) (e : Int32) (h : ¬ (0 ≤ e ∧ e < nI (N 5))) : MI l yX2_whoFindsOut (.code yX2_whoFindsOut cX2_whoFindsOut 6 (some .int) :: GW) ({ frames := 1, cells := 0, slots := 0, locals := 21 }) [.ref (a 0), .int (e)] G ES (sN G a (N)) (sN G a (N)) (-1) := by
  refine MI.of (own := RX2) rfl rfl (Nat.le_of_ble_eq_true rfl) ?_
  intro pP eE sS mM below meth cC ls AA E hw hl hr hlk hE
  replace hl : lv_has ls 6 [(0, .ref (a 0)), (1, .int (e))] := hl
  refine lv_aload_n E.1 E.2.1 dX2_whoFindsOut_0 rfl (lv_at hl 0 rfl) ?_
  refine lv_iload_n E.1 E.2.1 dX2_whoFindsOut_1 rfl (lv_at hl 1 rfl) ?_
  refine callVI E (c_X2_isDeal l G a (N) (e)) mw_18_6 YX2_isDeal ⟨rfl, rfl⟩ ⟨Nat.le_of_ble_eq_true rfl, Nat.le_of_ble_eq_true rfl⟩ ⟨Nat.zero_le _, Nat.zero_le _⟩ hw 0 rfl rfl rfl hl rfl (Nat.le_of_ble_eq_true rfl) dX2_whoFindsOut_2 (fun H locs hw => ?_)
  refine lv_if_neB (tgt := 10) E.1 E.2.1 dX2_whoFindsOut_5 (by decide) (fun c5 => ?_) (fun c5 => ?_)
  · exact absurd c5 h
  · skip
    refine lv_iconst (v := -1) E.1 E.2.1 dX2_whoFindsOut_8 (by decide) ?_
    exact rI E hr hlk (HB.eq hw (rfl)) (rfl) dX2_whoFindsOut_9
set_option maxHeartbeats 4000000 in
set_option maxRecDepth 100000 in
theorem c_X2_whoFindsOut_ok (l : Launch) (G : GP) (a : Nat → Nat) (N : NS) (d : Nat) (hd : d < N 5) (hF : FI N) : MI l yX2_whoFindsOut (.code yX2_whoFindsOut cX2_whoFindsOut 6 (some .int) :: GW) ({ frames := 2, cells := 0, slots := 0, locals := 42 }) [.ref (a 0), .int (nI (d))] G ES (sN G a (N)) (sN G a (N)) (nI (cqI d N 4)) := by
  refine MI.of (own := RX2) rfl rfl (Nat.le_of_ble_eq_true rfl) ?_
  intro pP eE sS mM below meth cC ls AA E hw hl hr hlk hE
  replace hl : lv_has ls 6 [(0, .ref (a 0)), (1, .int (nI (d)))] := hl
  have h5 := hF.2.1
  have h6 := hF.1
  have hd8 : d < 8 := by omega
  have hq1 := cOf_lt (d := d) (s := 1) (N := N)
  have h0 := hF.f0 hd8
  have h1 := hF.f1 hd8
  have hil := illS_lt (N := N)
  have hi4 : N 14 ≤ 1 := hF.il (w := 4) (by decide)
  have hs3 := hF.2.2.2.1
  have ha1 : N (30 + 14 * d + 0) &&& (15 ^^^ cOf d 1 N) < 16 := and_lt16 h0
  have ha2 : (N (30 + 14 * d + 0) &&& (15 ^^^ cOf d 1 N)) &&& (31 ^^^ illS N) < 16 := and_lt16 ha1
  refine lv_aload_n E.1 E.2.1 dX2_whoFindsOut_0 rfl (lv_at hl 0 rfl) ?_
  refine lv_iload_n E.1 E.2.1 dX2_whoFindsOut_1 rfl (lv_at hl 1 rfl) ?_
  refine callVI E (c_X2_isDeal l G a (N) (nI (d))) mw_18_6 YX2_isDeal ⟨rfl, rfl⟩ ⟨Nat.le_of_ble_eq_true rfl, Nat.le_of_ble_eq_true rfl⟩ ⟨Nat.zero_le _, Nat.zero_le _⟩ hw 0 rfl rfl rfl hl rfl (Nat.le_of_ble_eq_true rfl) dX2_whoFindsOut_2 (fun H locs hw => ?_)
  refine lv_if_neB (tgt := 10) E.1 E.2.1 dX2_whoFindsOut_5 (by decide) (fun c5 => ?_) (fun c5 => ?_)
  · skip
    refine lv_aload_n E.1 E.2.1 dX2_whoFindsOut_10 rfl (lv_at hl 0 rfl) ?_
    refine lv_iload_n E.1 E.2.1 dX2_whoFindsOut_11 rfl (lv_at hl 1 rfl) ?_
    refine lv_iconst (v := nI 1) E.1 E.2.1 dX2_whoFindsOut_12 (by decide) ?_
    refine callVI E (c_X2_whoStand l G a (N) d 1 _ (by omega) (by omega) rfl) mw_9_17 YX2_whoStand ⟨rfl, rfl⟩ ⟨Nat.le_of_ble_eq_true rfl, Nat.le_of_ble_eq_true rfl⟩ ⟨Nat.zero_le _, Nat.zero_le _⟩ hw 0 rfl rfl rfl hl rfl (Nat.le_of_ble_eq_true rfl) dX2_whoFindsOut_13 (fun H locs hw => ?_)
    refine lv_istore_n (lv' := [(2, .int (nI (cOf d 1 N))), (0, .ref (a 0)), (1, .int (nI (d)))]) E.1 E.2.1 dX2_whoFindsOut_16 rfl hl (by decide) rfl (fun ls hl => ?_)
    refine lv_aload_n E.1 E.2.1 dX2_whoFindsOut_17 rfl (lv_at hl 1 rfl) ?_
    refine gX2_6 E hw mw_2_11 dX2_whoFindsOut_18 ?_
    refine lv_iload_n E.1 E.2.1 dX2_whoFindsOut_21 rfl (lv_at hl 2 rfl) ?_
    refine lN2_4 E hw (v := N (30 + 14 * d + 0)) (by omega) (rfl) dX2_whoFindsOut_22 ?_
    refine lv_iload_n E.1 E.2.1 dX2_whoFindsOut_23 rfl (lv_at hl 0 rfl) ?_
    refine lv_iconst (v := -1) E.1 E.2.1 dX2_whoFindsOut_24 (by decide) ?_
    refine lv_ixor E.1 E.2.1 dX2_whoFindsOut_25 ?_
    refine lv_iand E.1 E.2.1 dX2_whoFindsOut_26 (lv_eqi (y := nI (N (30 + 14 * d + 0) &&& (15 ^^^ cOf d 1 N))) (andn_nI _ (by omega) _ (by omega)) ?_)
    refine lv_aload_n E.1 E.2.1 dX2_whoFindsOut_27 rfl (lv_at hl 1 rfl) ?_
    refine gX2_1 E hw mw_4_6 dX2_whoFindsOut_28 ?_
    refine lv_eqi (y := nI (illS N)) (rfl) ?_
    refine lv_iconst (v := -1) E.1 E.2.1 dX2_whoFindsOut_31 (by decide) ?_
    refine lv_ixor E.1 E.2.1 dX2_whoFindsOut_32 ?_
    refine lv_iand E.1 E.2.1 dX2_whoFindsOut_33 (lv_eqi (y := nI ((N (30 + 14 * d + 0) &&& (15 ^^^ cOf d 1 N)) &&& (31 ^^^ (illS N)))) (andn_nI5 _ (by omega) _ (by omega)) ?_)
    refine lv_istore_n (lv' := [(3, .int (nI ((N (30 + 14 * d + 0) &&& (15 ^^^ cOf d 1 N)) &&& (31 ^^^ (illS N))))), (2, .int (nI (cOf d 1 N))), (0, .ref (a 0)), (1, .int (nI (d)))]) E.1 E.2.1 dX2_whoFindsOut_34 rfl hl (by decide) rfl (fun ls hl => ?_)
    refine lv_aload_n E.1 E.2.1 dX2_whoFindsOut_35 rfl (lv_at hl 2 rfl) ?_
    refine lv_iconst (v := nI 4) E.1 E.2.1 dX2_whoFindsOut_36 (by decide) ?_
    refine callVI E (c_X2_isIll l G a (N) 4 (N 14) (by omega) (rfl)) mw_6_23 YX2_isIll ⟨rfl, rfl⟩ ⟨Nat.le_of_ble_eq_true rfl, Nat.le_of_ble_eq_true rfl⟩ ⟨Nat.zero_le _, Nat.zero_le _⟩ hw 0 rfl rfl rfl hl rfl (Nat.le_of_ble_eq_true rfl) dX2_whoFindsOut_37 (fun H locs hw => ?_)
    refine lv_if_neB (tgt := 56) E.1 E.2.1 dX2_whoFindsOut_40 (by decide) (fun c40 => ?_) (fun c40 => ?_)
    · skip
      refine lv_iconst (v := nI 0) E.1 E.2.1 dX2_whoFindsOut_56 (by decide) ?_
      refine lv_istore (lv' := [(4, .int (nI (0))), (3, .int (nI ((N (30 + 14 * d + 0) &&& (15 ^^^ cOf d 1 N)) &&& (31 ^^^ (illS N))))), (2, .int (nI (cOf d 1 N))), (0, .ref (a 0)), (1, .int (nI (d)))]) E.1 E.2.1 dX2_whoFindsOut_57 hl (by decide) rfl (fun ls hl => ?_)
      refine lv_aload_n E.1 E.2.1 dX2_whoFindsOut_59 rfl (lv_at hl 3 rfl) ?_
      refine gX2_4 E hw mw_2_6 dX2_whoFindsOut_60 ?_
      refine lv_iconst (v := nI 3) E.1 E.2.1 dX2_whoFindsOut_63 (by decide) ?_
      refine lN2_0 E hw (v := N 3) (by omega) (rfl) dX2_whoFindsOut_64 ?_
      refine lv_iconst (v := nI 1) E.1 E.2.1 dX2_whoFindsOut_65 (by decide) ?_
      refine lv_icmp_neN (tgt := 77) E.1 E.2.1 (by omega) (by omega) dX2_whoFindsOut_66 (by decide) (fun c66 => ?_) (fun c66 => ?_)
      · skip
        refine lv_iconst (v := nI 0) E.1 E.2.1 dX2_whoFindsOut_77 (by decide) ?_
        refine lv_istore (lv' := [(5, .int (nI (0))), (4, .int (nI (0))), (3, .int (nI ((N (30 + 14 * d + 0) &&& (15 ^^^ cOf d 1 N)) &&& (31 ^^^ (illS N))))), (2, .int (nI (cOf d 1 N))), (0, .ref (a 0)), (1, .int (nI (d)))]) E.1 E.2.1 dX2_whoFindsOut_78 hl (by decide) rfl (fun ls hl => ?_)
        refine lv_iload E.1 E.2.1 dX2_whoFindsOut_80 (lv_at hl 1 rfl) ?_
        refine lv_if_neN (tgt := 90) E.1 E.2.1 (by omega) dX2_whoFindsOut_82 (by decide) (fun c82 => ?_) (fun c82 => ?_)
        · exact absurd c82 (by decide)
        · skip
          refine lv_iload E.1 E.2.1 dX2_whoFindsOut_85 (lv_at hl 0 rfl) ?_
          refine lv_if_eqN (tgt := 101) E.1 E.2.1 (by omega) dX2_whoFindsOut_87 (by decide) (fun c87 => ?_) (fun c87 => ?_)
          · skip
            refine lv_iconst (v := nI 0) E.1 E.2.1 dX2_whoFindsOut_101 (by decide) ?_
            exact rI E hr hlk (HB.eq hw (rfl)) (congrArg nI (wfo_0 (fun z => z.1 c40) (fun z => c66 z.1))) dX2_whoFindsOut_102
          · exact absurd c87 (by decide)
      · skip
        refine lv_iload_n E.1 E.2.1 dX2_whoFindsOut_69 rfl (lv_at hl 1 rfl) ?_
        refine lv_if_eqN (tgt := 77) E.1 E.2.1 (by omega) dX2_whoFindsOut_70 (by decide) (fun c70 => ?_) (fun c70 => ?_)
        · skip
          refine lv_iconst (v := nI 0) E.1 E.2.1 dX2_whoFindsOut_77 (by decide) ?_
          refine lv_istore (lv' := [(5, .int (nI (0))), (4, .int (nI (0))), (3, .int (nI ((N (30 + 14 * d + 0) &&& (15 ^^^ cOf d 1 N)) &&& (31 ^^^ (illS N))))), (2, .int (nI (cOf d 1 N))), (0, .ref (a 0)), (1, .int (nI (d)))]) E.1 E.2.1 dX2_whoFindsOut_78 hl (by decide) rfl (fun ls hl => ?_)
          refine lv_iload E.1 E.2.1 dX2_whoFindsOut_80 (lv_at hl 1 rfl) ?_
          refine lv_if_neN (tgt := 90) E.1 E.2.1 (by omega) dX2_whoFindsOut_82 (by decide) (fun c82 => ?_) (fun c82 => ?_)
          · exact absurd c82 (by decide)
          · skip
            refine lv_iload E.1 E.2.1 dX2_whoFindsOut_85 (lv_at hl 0 rfl) ?_
            refine lv_if_eqN (tgt := 101) E.1 E.2.1 (by omega) dX2_whoFindsOut_87 (by decide) (fun c87 => ?_) (fun c87 => ?_)
            · skip
              refine lv_iconst (v := nI 0) E.1 E.2.1 dX2_whoFindsOut_101 (by decide) ?_
              exact rI E hr hlk (HB.eq hw (rfl)) (congrArg nI (wfo_0 (fun z => z.1 c40) (fun z => z.2 c70))) dX2_whoFindsOut_102
            · exact absurd c87 (by decide)
        · skip
          refine lv_iconst (v := nI 1) E.1 E.2.1 dX2_whoFindsOut_73 (by decide) ?_
          refine lv_goto (tgt := 78) E.1 E.2.1 dX2_whoFindsOut_74 (by decide) ?_
          refine lv_istore (lv' := [(5, .int (nI (1))), (4, .int (nI (0))), (3, .int (nI ((N (30 + 14 * d + 0) &&& (15 ^^^ cOf d 1 N)) &&& (31 ^^^ (illS N))))), (2, .int (nI (cOf d 1 N))), (0, .ref (a 0)), (1, .int (nI (d)))]) E.1 E.2.1 dX2_whoFindsOut_78 hl (by decide) rfl (fun ls hl => ?_)
          refine lv_iload E.1 E.2.1 dX2_whoFindsOut_80 (lv_at hl 1 rfl) ?_
          refine lv_if_neN (tgt := 90) E.1 E.2.1 (by omega) dX2_whoFindsOut_82 (by decide) (fun c82 => ?_) (fun c82 => ?_)
          · exact absurd c82 (by decide)
          · skip
            refine lv_iload E.1 E.2.1 dX2_whoFindsOut_85 (lv_at hl 0 rfl) ?_
            refine lv_if_eqN (tgt := 101) E.1 E.2.1 (by omega) dX2_whoFindsOut_87 (by decide) (fun c87 => ?_) (fun c87 => ?_)
            · exact absurd c87 (by decide)
            · skip
              refine lv_iload_n E.1 E.2.1 dX2_whoFindsOut_90 rfl (lv_at hl 3 rfl) ?_
              refine lv_aload_n E.1 E.2.1 dX2_whoFindsOut_91 rfl (lv_at hl 4 rfl) ?_
              refine gX2_1 E hw mw_4_6 dX2_whoFindsOut_92 ?_
              refine lv_eqi (y := nI (illS N)) (rfl) ?_
              refine lv_iconst (v := -1) E.1 E.2.1 dX2_whoFindsOut_95 (by decide) ?_
              refine lv_ixor E.1 E.2.1 dX2_whoFindsOut_96 ?_
              refine lv_iand E.1 E.2.1 dX2_whoFindsOut_97 (lv_eqi (y := nI (cOf d 1 N &&& (31 ^^^ (illS N)))) (andn_nI5 _ (by omega) _ (by omega)) ?_)
              refine lv_goto (tgt := 102) E.1 E.2.1 dX2_whoFindsOut_98 (by decide) ?_
              exact rI E hr hlk (HB.eq hw (rfl)) (congrArg nI (wfo_1 hF hd8 (Or.inr ⟨c66, c70⟩))) dX2_whoFindsOut_102
    · skip
      refine lv_aload_n E.1 E.2.1 dX2_whoFindsOut_43 rfl (lv_at hl 2 rfl) ?_
      refine gX2_7 E hw mw_2_12 dX2_whoFindsOut_44 ?_
      refine lv_iload_n E.1 E.2.1 dX2_whoFindsOut_47 rfl (lv_at hl 3 rfl) ?_
      refine lN2_5 E hw (v := N (30 + 14 * d + 1)) (by omega) (rfl) dX2_whoFindsOut_48 ?_
      refine lv_if_eqN (tgt := 56) E.1 E.2.1 (by omega) dX2_whoFindsOut_49 (by decide) (fun c49 => ?_) (fun c49 => ?_)
      · skip
        refine lv_iconst (v := nI 0) E.1 E.2.1 dX2_whoFindsOut_56 (by decide) ?_
        refine lv_istore (lv' := [(4, .int (nI (0))), (3, .int (nI ((N (30 + 14 * d + 0) &&& (15 ^^^ cOf d 1 N)) &&& (31 ^^^ (illS N))))), (2, .int (nI (cOf d 1 N))), (0, .ref (a 0)), (1, .int (nI (d)))]) E.1 E.2.1 dX2_whoFindsOut_57 hl (by decide) rfl (fun ls hl => ?_)
        refine lv_aload_n E.1 E.2.1 dX2_whoFindsOut_59 rfl (lv_at hl 3 rfl) ?_
        refine gX2_4 E hw mw_2_6 dX2_whoFindsOut_60 ?_
        refine lv_iconst (v := nI 3) E.1 E.2.1 dX2_whoFindsOut_63 (by decide) ?_
        refine lN2_0 E hw (v := N 3) (by omega) (rfl) dX2_whoFindsOut_64 ?_
        refine lv_iconst (v := nI 1) E.1 E.2.1 dX2_whoFindsOut_65 (by decide) ?_
        refine lv_icmp_neN (tgt := 77) E.1 E.2.1 (by omega) (by omega) dX2_whoFindsOut_66 (by decide) (fun c66 => ?_) (fun c66 => ?_)
        · skip
          refine lv_iconst (v := nI 0) E.1 E.2.1 dX2_whoFindsOut_77 (by decide) ?_
          refine lv_istore (lv' := [(5, .int (nI (0))), (4, .int (nI (0))), (3, .int (nI ((N (30 + 14 * d + 0) &&& (15 ^^^ cOf d 1 N)) &&& (31 ^^^ (illS N))))), (2, .int (nI (cOf d 1 N))), (0, .ref (a 0)), (1, .int (nI (d)))]) E.1 E.2.1 dX2_whoFindsOut_78 hl (by decide) rfl (fun ls hl => ?_)
          refine lv_iload E.1 E.2.1 dX2_whoFindsOut_80 (lv_at hl 1 rfl) ?_
          refine lv_if_neN (tgt := 90) E.1 E.2.1 (by omega) dX2_whoFindsOut_82 (by decide) (fun c82 => ?_) (fun c82 => ?_)
          · exact absurd c82 (by decide)
          · skip
            refine lv_iload E.1 E.2.1 dX2_whoFindsOut_85 (lv_at hl 0 rfl) ?_
            refine lv_if_eqN (tgt := 101) E.1 E.2.1 (by omega) dX2_whoFindsOut_87 (by decide) (fun c87 => ?_) (fun c87 => ?_)
            · skip
              refine lv_iconst (v := nI 0) E.1 E.2.1 dX2_whoFindsOut_101 (by decide) ?_
              exact rI E hr hlk (HB.eq hw (rfl)) (congrArg nI (wfo_0 (fun z => z.2 c49) (fun z => c66 z.1))) dX2_whoFindsOut_102
            · exact absurd c87 (by decide)
        · skip
          refine lv_iload_n E.1 E.2.1 dX2_whoFindsOut_69 rfl (lv_at hl 1 rfl) ?_
          refine lv_if_eqN (tgt := 77) E.1 E.2.1 (by omega) dX2_whoFindsOut_70 (by decide) (fun c70 => ?_) (fun c70 => ?_)
          · skip
            refine lv_iconst (v := nI 0) E.1 E.2.1 dX2_whoFindsOut_77 (by decide) ?_
            refine lv_istore (lv' := [(5, .int (nI (0))), (4, .int (nI (0))), (3, .int (nI ((N (30 + 14 * d + 0) &&& (15 ^^^ cOf d 1 N)) &&& (31 ^^^ (illS N))))), (2, .int (nI (cOf d 1 N))), (0, .ref (a 0)), (1, .int (nI (d)))]) E.1 E.2.1 dX2_whoFindsOut_78 hl (by decide) rfl (fun ls hl => ?_)
            refine lv_iload E.1 E.2.1 dX2_whoFindsOut_80 (lv_at hl 1 rfl) ?_
            refine lv_if_neN (tgt := 90) E.1 E.2.1 (by omega) dX2_whoFindsOut_82 (by decide) (fun c82 => ?_) (fun c82 => ?_)
            · exact absurd c82 (by decide)
            · skip
              refine lv_iload E.1 E.2.1 dX2_whoFindsOut_85 (lv_at hl 0 rfl) ?_
              refine lv_if_eqN (tgt := 101) E.1 E.2.1 (by omega) dX2_whoFindsOut_87 (by decide) (fun c87 => ?_) (fun c87 => ?_)
              · skip
                refine lv_iconst (v := nI 0) E.1 E.2.1 dX2_whoFindsOut_101 (by decide) ?_
                exact rI E hr hlk (HB.eq hw (rfl)) (congrArg nI (wfo_0 (fun z => z.2 c49) (fun z => z.2 c70))) dX2_whoFindsOut_102
              · exact absurd c87 (by decide)
          · skip
            refine lv_iconst (v := nI 1) E.1 E.2.1 dX2_whoFindsOut_73 (by decide) ?_
            refine lv_goto (tgt := 78) E.1 E.2.1 dX2_whoFindsOut_74 (by decide) ?_
            refine lv_istore (lv' := [(5, .int (nI (1))), (4, .int (nI (0))), (3, .int (nI ((N (30 + 14 * d + 0) &&& (15 ^^^ cOf d 1 N)) &&& (31 ^^^ (illS N))))), (2, .int (nI (cOf d 1 N))), (0, .ref (a 0)), (1, .int (nI (d)))]) E.1 E.2.1 dX2_whoFindsOut_78 hl (by decide) rfl (fun ls hl => ?_)
            refine lv_iload E.1 E.2.1 dX2_whoFindsOut_80 (lv_at hl 1 rfl) ?_
            refine lv_if_neN (tgt := 90) E.1 E.2.1 (by omega) dX2_whoFindsOut_82 (by decide) (fun c82 => ?_) (fun c82 => ?_)
            · exact absurd c82 (by decide)
            · skip
              refine lv_iload E.1 E.2.1 dX2_whoFindsOut_85 (lv_at hl 0 rfl) ?_
              refine lv_if_eqN (tgt := 101) E.1 E.2.1 (by omega) dX2_whoFindsOut_87 (by decide) (fun c87 => ?_) (fun c87 => ?_)
              · exact absurd c87 (by decide)
              · skip
                refine lv_iload_n E.1 E.2.1 dX2_whoFindsOut_90 rfl (lv_at hl 3 rfl) ?_
                refine lv_aload_n E.1 E.2.1 dX2_whoFindsOut_91 rfl (lv_at hl 4 rfl) ?_
                refine gX2_1 E hw mw_4_6 dX2_whoFindsOut_92 ?_
                refine lv_eqi (y := nI (illS N)) (rfl) ?_
                refine lv_iconst (v := -1) E.1 E.2.1 dX2_whoFindsOut_95 (by decide) ?_
                refine lv_ixor E.1 E.2.1 dX2_whoFindsOut_96 ?_
                refine lv_iand E.1 E.2.1 dX2_whoFindsOut_97 (lv_eqi (y := nI (cOf d 1 N &&& (31 ^^^ (illS N)))) (andn_nI5 _ (by omega) _ (by omega)) ?_)
                refine lv_goto (tgt := 102) E.1 E.2.1 dX2_whoFindsOut_98 (by decide) ?_
                exact rI E hr hlk (HB.eq hw (rfl)) (congrArg nI (wfo_1 hF hd8 (Or.inr ⟨c66, c70⟩))) dX2_whoFindsOut_102
      · skip
        refine lv_iconst (v := nI 1) E.1 E.2.1 dX2_whoFindsOut_52 (by decide) ?_
        refine lv_goto (tgt := 57) E.1 E.2.1 dX2_whoFindsOut_53 (by decide) ?_
        refine lv_istore (lv' := [(4, .int (nI (1))), (3, .int (nI ((N (30 + 14 * d + 0) &&& (15 ^^^ cOf d 1 N)) &&& (31 ^^^ (illS N))))), (2, .int (nI (cOf d 1 N))), (0, .ref (a 0)), (1, .int (nI (d)))]) E.1 E.2.1 dX2_whoFindsOut_57 hl (by decide) rfl (fun ls hl => ?_)
        refine lv_aload_n E.1 E.2.1 dX2_whoFindsOut_59 rfl (lv_at hl 3 rfl) ?_
        refine gX2_4 E hw mw_2_6 dX2_whoFindsOut_60 ?_
        refine lv_iconst (v := nI 3) E.1 E.2.1 dX2_whoFindsOut_63 (by decide) ?_
        refine lN2_0 E hw (v := N 3) (by omega) (rfl) dX2_whoFindsOut_64 ?_
        refine lv_iconst (v := nI 1) E.1 E.2.1 dX2_whoFindsOut_65 (by decide) ?_
        refine lv_icmp_neN (tgt := 77) E.1 E.2.1 (by omega) (by omega) dX2_whoFindsOut_66 (by decide) (fun c66 => ?_) (fun c66 => ?_)
        · skip
          refine lv_iconst (v := nI 0) E.1 E.2.1 dX2_whoFindsOut_77 (by decide) ?_
          refine lv_istore (lv' := [(5, .int (nI (0))), (4, .int (nI (1))), (3, .int (nI ((N (30 + 14 * d + 0) &&& (15 ^^^ cOf d 1 N)) &&& (31 ^^^ (illS N))))), (2, .int (nI (cOf d 1 N))), (0, .ref (a 0)), (1, .int (nI (d)))]) E.1 E.2.1 dX2_whoFindsOut_78 hl (by decide) rfl (fun ls hl => ?_)
          refine lv_iload E.1 E.2.1 dX2_whoFindsOut_80 (lv_at hl 1 rfl) ?_
          refine lv_if_neN (tgt := 90) E.1 E.2.1 (by omega) dX2_whoFindsOut_82 (by decide) (fun c82 => ?_) (fun c82 => ?_)
          · skip
            refine lv_iload_n E.1 E.2.1 dX2_whoFindsOut_90 rfl (lv_at hl 3 rfl) ?_
            refine lv_aload_n E.1 E.2.1 dX2_whoFindsOut_91 rfl (lv_at hl 4 rfl) ?_
            refine gX2_1 E hw mw_4_6 dX2_whoFindsOut_92 ?_
            refine lv_eqi (y := nI (illS N)) (rfl) ?_
            refine lv_iconst (v := -1) E.1 E.2.1 dX2_whoFindsOut_95 (by decide) ?_
            refine lv_ixor E.1 E.2.1 dX2_whoFindsOut_96 ?_
            refine lv_iand E.1 E.2.1 dX2_whoFindsOut_97 (lv_eqi (y := nI (cOf d 1 N &&& (31 ^^^ (illS N)))) (andn_nI5 _ (by omega) _ (by omega)) ?_)
            refine lv_goto (tgt := 102) E.1 E.2.1 dX2_whoFindsOut_98 (by decide) ?_
            exact rI E hr hlk (HB.eq hw (rfl)) (congrArg nI (wfo_1 hF hd8 (Or.inl ⟨c40, c49⟩))) dX2_whoFindsOut_102
          · exact absurd c82 (by decide)
        · skip
          refine lv_iload_n E.1 E.2.1 dX2_whoFindsOut_69 rfl (lv_at hl 1 rfl) ?_
          refine lv_if_eqN (tgt := 77) E.1 E.2.1 (by omega) dX2_whoFindsOut_70 (by decide) (fun c70 => ?_) (fun c70 => ?_)
          · skip
            refine lv_iconst (v := nI 0) E.1 E.2.1 dX2_whoFindsOut_77 (by decide) ?_
            refine lv_istore (lv' := [(5, .int (nI (0))), (4, .int (nI (1))), (3, .int (nI ((N (30 + 14 * d + 0) &&& (15 ^^^ cOf d 1 N)) &&& (31 ^^^ (illS N))))), (2, .int (nI (cOf d 1 N))), (0, .ref (a 0)), (1, .int (nI (d)))]) E.1 E.2.1 dX2_whoFindsOut_78 hl (by decide) rfl (fun ls hl => ?_)
            refine lv_iload E.1 E.2.1 dX2_whoFindsOut_80 (lv_at hl 1 rfl) ?_
            refine lv_if_neN (tgt := 90) E.1 E.2.1 (by omega) dX2_whoFindsOut_82 (by decide) (fun c82 => ?_) (fun c82 => ?_)
            · skip
              refine lv_iload_n E.1 E.2.1 dX2_whoFindsOut_90 rfl (lv_at hl 3 rfl) ?_
              refine lv_aload_n E.1 E.2.1 dX2_whoFindsOut_91 rfl (lv_at hl 4 rfl) ?_
              refine gX2_1 E hw mw_4_6 dX2_whoFindsOut_92 ?_
              refine lv_eqi (y := nI (illS N)) (rfl) ?_
              refine lv_iconst (v := -1) E.1 E.2.1 dX2_whoFindsOut_95 (by decide) ?_
              refine lv_ixor E.1 E.2.1 dX2_whoFindsOut_96 ?_
              refine lv_iand E.1 E.2.1 dX2_whoFindsOut_97 (lv_eqi (y := nI (cOf d 1 N &&& (31 ^^^ (illS N)))) (andn_nI5 _ (by omega) _ (by omega)) ?_)
              refine lv_goto (tgt := 102) E.1 E.2.1 dX2_whoFindsOut_98 (by decide) ?_
              exact rI E hr hlk (HB.eq hw (rfl)) (congrArg nI (wfo_1 hF hd8 (Or.inl ⟨c40, c49⟩))) dX2_whoFindsOut_102
            · exact absurd c82 (by decide)
          · skip
            refine lv_iconst (v := nI 1) E.1 E.2.1 dX2_whoFindsOut_73 (by decide) ?_
            refine lv_goto (tgt := 78) E.1 E.2.1 dX2_whoFindsOut_74 (by decide) ?_
            refine lv_istore (lv' := [(5, .int (nI (1))), (4, .int (nI (1))), (3, .int (nI ((N (30 + 14 * d + 0) &&& (15 ^^^ cOf d 1 N)) &&& (31 ^^^ (illS N))))), (2, .int (nI (cOf d 1 N))), (0, .ref (a 0)), (1, .int (nI (d)))]) E.1 E.2.1 dX2_whoFindsOut_78 hl (by decide) rfl (fun ls hl => ?_)
            refine lv_iload E.1 E.2.1 dX2_whoFindsOut_80 (lv_at hl 1 rfl) ?_
            refine lv_if_neN (tgt := 90) E.1 E.2.1 (by omega) dX2_whoFindsOut_82 (by decide) (fun c82 => ?_) (fun c82 => ?_)
            · skip
              refine lv_iload_n E.1 E.2.1 dX2_whoFindsOut_90 rfl (lv_at hl 3 rfl) ?_
              refine lv_aload_n E.1 E.2.1 dX2_whoFindsOut_91 rfl (lv_at hl 4 rfl) ?_
              refine gX2_1 E hw mw_4_6 dX2_whoFindsOut_92 ?_
              refine lv_eqi (y := nI (illS N)) (rfl) ?_
              refine lv_iconst (v := -1) E.1 E.2.1 dX2_whoFindsOut_95 (by decide) ?_
              refine lv_ixor E.1 E.2.1 dX2_whoFindsOut_96 ?_
              refine lv_iand E.1 E.2.1 dX2_whoFindsOut_97 (lv_eqi (y := nI (cOf d 1 N &&& (31 ^^^ (illS N)))) (andn_nI5 _ (by omega) _ (by omega)) ?_)
              refine lv_goto (tgt := 102) E.1 E.2.1 dX2_whoFindsOut_98 (by decide) ?_
              exact rI E hr hlk (HB.eq hw (rfl)) (congrArg nI (wfo_1 hF hd8 (Or.inl ⟨c40, c49⟩))) dX2_whoFindsOut_102
            · exact absurd c82 (by decide)
  · exact absurd (in0 (by omega) (by omega)) c5
/-! ===== the class's reader: a state and a step ===== -/
abbrev AS : Type := Nat × Nat × Int32 × Nat
def rvO (s : AS) : Nat → Int32 := fun k => match k with
  | 0 => nI s.1
  | 1 => nI s.2.1
  | 2 => s.2.2.1
  | _ => nI s.2.2.2
abbrev mE (s : AS) : Prop := (s.1 = 1 ∧ ¬ s.2.2.1 ≤ 0) ∨ (s.1 = 2 ∧ ¬ s.2.2.1 < 0) ∨ s.1 = 5
def tkE (s : AS) : Option AS := if mE s then some (0, s.2) else none
def tkL (s : AS) (c : Nat) : Option AS := if c = 111 then some (1, c, 0, s.2.2.2) else if c = 100 ∨ c = 108 ∨ c = 116 then some (2, c, -1, s.2.2.2) else if c = 114 ∨ c = 119 ∨ c = 120 then some (3, c, s.2.2.1, s.2.2.2) else none
def tkR (s : AS) (c : Nat) : Option AS := if (48 ≤ c ∧ c ≤ 51) ∧ s.2.2.1 < nI (2 ^ (c - 48)) then some (s.1, s.2.1, s.2.2.1 ||| nI (2 ^ (c - 48)), s.2.2.2) else none
def tkD (s : AS) (c : Nat) : Option AS := if (48 ≤ c ∧ c ≤ 57) ∧ ¬ s.2.2.1 = 0 ∧ s.2.2.1 ≤ nI 9 then some (s.1, s.2.1, (if s.2.2.1 < 0 then nI (c - 48) else s.2.2.1 * nI 10 + nI (c - 48)), s.2.2.2) else none
def tkS (s : AS) (c : Nat) : Option AS := if 48 ≤ c ∧ c ≤ (if s.2.1 = 119 then 51 else 52) then some ((if s.2.1 = 119 then 4 else 5), s.2.1, nI (c - 48), s.2.2.2) else none
def tkW (s : AS) (c : Nat) : Option AS := if c = 43 then some (5, s.2.1, s.2.2.1, 1) else if c = 45 then some (5, s.2.1, s.2.2.1, 0) else none
def tk (s : AS) (c : Nat) : Option AS := if c = 59 then tkE s else if s.1 = 0 then tkL s c else if s.1 = 1 then tkR s c else if s.1 = 2 then tkD s c else if s.1 = 3 then tkS s c else if s.1 = 4 then tkW s c else none
theorem tkL_no {s : AS} {c : Nat} (h : ¬ (c = 111 ∨ (c = 100 ∨ c = 108 ∨ c = 116) ∨ (c = 114 ∨ c = 119 ∨ c = 120))) : tkL s c = none := by
  unfold tkL
  rw [if_neg (by omega), if_neg (by omega), if_neg (by omega)]
theorem tkS_no {e lt c w : Nat} {v : Int32} (h : ¬ (48 ≤ c ∧ c ≤ (if lt = 119 then 51 else 52))) : tkS (e, lt, v, w) c = none := if_neg h
theorem tkS_1 {e lt c w : Nat} {v : Int32} (hl : lt = 119) (h : 48 ≤ c ∧ c ≤ 51) : tkS (e, lt, v, w) c = some (4, lt, nI (c - 48), w) := by
  subst hl
  exact if_pos h
theorem tkS_0 {e lt c w : Nat} {v : Int32} (hl : ¬ lt = 119) (h : 48 ≤ c ∧ c ≤ 52) : tkS (e, lt, v, w) c = some (5, lt, nI (c - 48), w) := by
  unfold tkS
  show (if 48 ≤ c ∧ c ≤ (if lt = 119 then 51 else 52) then some ((if lt = 119 then 4 else 5), lt, nI (c - 48), w) else none) = _
  rw [if_neg hl, if_neg hl, if_pos h]
theorem tk_0 {e lt c w : Nat} {v : Int32} (hc : ¬ c = 59) (h : e = 0) : tk (e, lt, v, w) c = tkL (e, lt, v, w) c := by subst h; exact if_neg hc
theorem tk_1 {e lt c w : Nat} {v : Int32} (hc : ¬ c = 59) (h : e = 1) : tk (e, lt, v, w) c = tkR (e, lt, v, w) c := by subst h; exact if_neg hc
theorem tk_2 {e lt c w : Nat} {v : Int32} (hc : ¬ c = 59) (h : e = 2) : tk (e, lt, v, w) c = tkD (e, lt, v, w) c := by subst h; exact if_neg hc
theorem tk_3 {e lt c w : Nat} {v : Int32} (hc : ¬ c = 59) (h : e = 3) : tk (e, lt, v, w) c = tkS (e, lt, v, w) c := by subst h; exact if_neg hc
theorem tk_4 {e lt c w : Nat} {v : Int32} (hc : ¬ c = 59) (h : e = 4) : tk (e, lt, v, w) c = tkW (e, lt, v, w) c := by subst h; exact if_neg hc
theorem tk_no {e lt c w : Nat} {v : Int32} (h0 : ¬ e = 0) (h1 : ¬ e = 1) (h2 : ¬ e = 2) (h3 : ¬ e = 3) (h4 : ¬ e = 4) : (if e = 0 then tkL (e, lt, v, w) c else if e = 1 then tkR (e, lt, v, w) c else if e = 2 then tkD (e, lt, v, w) c else if e = 3 then tkS (e, lt, v, w) c else if e = 4 then tkW (e, lt, v, w) c else none) = none := by
  rw [if_neg h0, if_neg h1, if_neg h2, if_neg h3, if_neg h4]
theorem tkD_0 {e lt c w : Nat} {v : Int32} (h1 : 48 ≤ c ∧ c ≤ 57) (h2 : ¬ v = 0) (h3 : v ≤ nI 9) (h : ¬ 0 ≤ v) : tkD (e, lt, v, w) c = some (e, lt, nI (c - 48), w) := by
  unfold tkD
  rw [if_pos ⟨h1, h2, h3⟩]
  show some (e, lt, (if v < 0 then nI (c - 48) else v * nI 10 + nI (c - 48)), w) = _
  rw [if_pos (Int32.not_le.mp h)]
theorem tkD_1 {e lt c w : Nat} {v : Int32} (h1 : 48 ≤ c ∧ c ≤ 57) (h2 : ¬ v = 0) (h3 : v ≤ nI 9) (h : 0 ≤ v) : tkD (e, lt, v, w) c = some (e, lt, v * nI 10 + nI (c - 48), w) := by
  unfold tkD
  rw [if_pos ⟨h1, h2, h3⟩]
  show some (e, lt, (if v < 0 then nI (c - 48) else v * nI 10 + nI (c - 48)), w) = _
  rw [if_neg (Int32.not_lt.mpr h)]
theorem sub48_lt {c : Nat} (hc : c < 200) : nI c - nI 48 < 0 ↔ c < 48 := by
  have h1 : (nI c - nI 48).toInt = (c : Int) - 48 := by
    rw [Int32.toInt_sub, nI_toInt (by omega), nI_toInt (by omega)]
    exact Int.bmod_eq_of_le (by omega) (by omega)
  rw [Int32.lt_iff_toInt_lt, h1, show (0 : Int32).toInt = 0 by decide]
  omega
theorem YX0_begin : YV yX0_begin RX0 cX0_begin 1 none 0 := ⟨mw_27_1, mw_27_2, mw_2_0, mw_27_3, by decide +kernel⟩
set_option maxHeartbeats 4000000 in
set_option maxRecDepth 100000 in
theorem c_X0_begin (l : Launch) (G : GP) (q : Nat) (e lt : Nat) (v : Int32) (w : Nat) (he : e < 6) (hlt : lt < 127)  : MV l yX0_begin (.code yX0_begin cX0_begin 1 none :: GW) ({ frames := 0, cells := 0, slots := 0, locals := 0 }) [.ref (q)] G ES (oW q (rvO (e, lt, v, w))) (oW q (rvO (0, lt, v, w))) := by
  refine MV.of (own := RX0) rfl rfl (Nat.le_of_ble_eq_true rfl) ?_
  intro pP eE sS mM below meth cC ls AA E hw hl hr hlk hE
  replace hl : lv_has ls 1 [(0, .ref (q))] := hl
  refine lv_aload_n E.1 E.2.1 dX0_begin_0 rfl (lv_at hl 0 rfl) ?_
  refine lv_iconst (v := nI 0) E.1 E.2.1 dX0_begin_1 (by decide) ?_
  refine pX0_0 E hw mw_27_4 dX0_begin_2 (fun H locs hw => ?_)
  replace hw : HB G AA sS.heap (oW q (rvO (0, lt, v, w))) H locs := HB.eq hw (rfl)
  exact rV E hr hlk (HB.eq hw (rfl)) dX0_begin_5
theorem YX0_mayEnd : YV yX0_mayEnd RX0 cX0_mayEnd 1 (some .boolean) 0 := ⟨mw_27_14, mw_27_15, mw_2_0, mw_27_16, by decide +kernel⟩
set_option maxHeartbeats 4000000 in
set_option maxRecDepth 100000 in
theorem c_X0_mayEnd (l : Launch) (G : GP) (q : Nat) (e lt : Nat) (v : Int32) (w : Nat) (he : e < 6) (hlt : lt < 127)  : MI l yX0_mayEnd (.code yX0_mayEnd cX0_mayEnd 1 (some .boolean) :: GW) ({ frames := 0, cells := 0, slots := 0, locals := 0 }) [.ref (q)] G ES (oW q (rvO (e, lt, v, w))) (oW q (rvO (e, lt, v, w))) (zb (mE (e, lt, v, w))) := by
  refine MI.of (own := RX0) rfl rfl (Nat.le_of_ble_eq_true rfl) ?_
  intro pP eE sS mM below meth cC ls AA E hw hl hr hlk hE
  replace hl : lv_has ls 1 [(0, .ref (q))] := hl
  refine lv_aload_n E.1 E.2.1 dX0_mayEnd_0 rfl (lv_at hl 0 rfl) ?_
  refine gX0_0 E hw mw_27_4 dX0_mayEnd_1 ?_
  refine lv_eqi (y := nI (e)) (rfl) ?_
  by_cases z4_1 : e = 1
  · refine lv_eqi (y := nI 1) (by rw [z4_1]) ?_
    refine lv_lookup (off := 28) (tgt := 32) E.1 E.2.1 dX0_mayEnd_4 (by decide) (by decide) (by decide) ?_
    refine lv_aload_n E.1 E.2.1 dX0_mayEnd_32 rfl (lv_at hl 0 rfl) ?_
    refine gX0_2 E hw mw_27_17 dX0_mayEnd_33 ?_
    refine lv_eqi (y := v) (rfl) ?_
    refine lv_if_le (tgt := 43) E.1 E.2.1 dX0_mayEnd_36 (by decide) (fun c36 => ?_) (fun c36 => ?_)
    · skip
      refine lv_iconst (v := nI 0) E.1 E.2.1 dX0_mayEnd_43 (by decide) ?_
      exact rZ E hr hlk (HB.eq hw (rfl)) ((zb_f (by intro z; rcases z with z | z | z; exact z.2 c36; exact absurd (z4_1.symm.trans z.1) (by decide); exact absurd (z4_1.symm.trans z) (by decide))).symm) rfl dX0_mayEnd_44
    · skip
      refine lv_iconst (v := nI 1) E.1 E.2.1 dX0_mayEnd_39 (by decide) ?_
      refine lv_goto (tgt := 44) E.1 E.2.1 dX0_mayEnd_40 (by decide) ?_
      exact rZ E hr hlk (HB.eq hw (rfl)) ((zb_t (by exact Or.inl ⟨z4_1, c36⟩)).symm) rfl dX0_mayEnd_44
  by_cases z4_2 : e = 2
  · refine lv_eqi (y := nI 2) (by rw [z4_2]) ?_
    refine lv_lookup (off := 41) (tgt := 45) E.1 E.2.1 dX0_mayEnd_4 (by decide) (by decide) (by decide) ?_
    refine lv_aload_n E.1 E.2.1 dX0_mayEnd_45 rfl (lv_at hl 0 rfl) ?_
    refine gX0_2 E hw mw_27_17 dX0_mayEnd_46 ?_
    refine lv_eqi (y := v) (rfl) ?_
    refine lv_if_lt (tgt := 56) E.1 E.2.1 dX0_mayEnd_49 (by decide) (fun c49 => ?_) (fun c49 => ?_)
    · skip
      refine lv_iconst (v := nI 0) E.1 E.2.1 dX0_mayEnd_56 (by decide) ?_
      exact rZ E hr hlk (HB.eq hw (rfl)) ((zb_f (by intro z; rcases z with z | z | z; exact absurd (z4_2.symm.trans z.1) (by decide); exact z.2 c49; exact absurd (z4_2.symm.trans z) (by decide))).symm) rfl dX0_mayEnd_57
    · skip
      refine lv_iconst (v := nI 1) E.1 E.2.1 dX0_mayEnd_52 (by decide) ?_
      refine lv_goto (tgt := 57) E.1 E.2.1 dX0_mayEnd_53 (by decide) ?_
      exact rZ E hr hlk (HB.eq hw (rfl)) ((zb_t (by exact Or.inr (Or.inl ⟨z4_2, c49⟩))).symm) rfl dX0_mayEnd_57
  refine lv_lookup (off := 54) (tgt := 58) E.1 E.2.1 dX0_mayEnd_4 (by decide) (by show Op.lookupswitch.offset _ _ _ = _; simp only []; rw [lv_osw (k := nI 1) (fun z => z4_1 ((nI_eq (by omega) (by decide)).mp z)) (by decide)]; rw [lv_osw (k := nI 2) (fun z => z4_2 ((nI_eq (by omega) (by decide)).mp z)) (by decide)]; rfl) (by decide) ?_
  refine lv_aload_n E.1 E.2.1 dX0_mayEnd_58 rfl (lv_at hl 0 rfl) ?_
  refine gX0_0 E hw mw_27_4 dX0_mayEnd_59 ?_
  refine lv_eqi (y := nI (e)) (rfl) ?_
  refine lv_iconst (v := nI 5) E.1 E.2.1 dX0_mayEnd_62 (by decide) ?_
  refine lv_icmp_neN (tgt := 70) E.1 E.2.1 (by omega) (by omega) dX0_mayEnd_63 (by decide) (fun c63 => ?_) (fun c63 => ?_)
  · skip
    refine lv_iconst (v := nI 0) E.1 E.2.1 dX0_mayEnd_70 (by decide) ?_
    exact rZ E hr hlk (HB.eq hw (rfl)) ((zb_f (by intro z; rcases z with z | z | z; exact z4_1 z.1; exact z4_2 z.1; exact c63 z)).symm) rfl dX0_mayEnd_71
  · skip
    refine lv_iconst (v := nI 1) E.1 E.2.1 dX0_mayEnd_66 (by decide) ?_
    refine lv_goto (tgt := 71) E.1 E.2.1 dX0_mayEnd_67 (by decide) ?_
    exact rZ E hr hlk (HB.eq hw (rfl)) ((zb_t (by exact Or.inr (Or.inr (by omega)))).symm) rfl dX0_mayEnd_71
theorem YX0_takesOrderEnd : YV yX0_takesOrderEnd RX0 cX0_takesOrderEnd 1 (some .boolean) 0 := ⟨mw_27_10, mw_27_11, mw_2_0, mw_27_12, by decide +kernel⟩
set_option maxHeartbeats 4000000 in
set_option maxRecDepth 100000 in
theorem c_X0_takesOrderEnd (l : Launch) (G : GP) (q : Nat) (e lt : Nat) (v : Int32) (w : Nat) (he : e < 6) (hlt : lt < 127)  : MI l yX0_takesOrderEnd (.code yX0_takesOrderEnd cX0_takesOrderEnd 1 (some .boolean) :: GW) ({ frames := 1, cells := 0, slots := 0, locals := 20 }) [.ref (q)] G ES (oW q (rvO (e, lt, v, w))) (oW q (rvO ((tkE (e, lt, v, w)).getD (e, lt, v, w)))) (zb ((tkE (e, lt, v, w)).isSome = true)) := by
  refine MI.of (own := RX0) rfl rfl (Nat.le_of_ble_eq_true rfl) ?_
  intro pP eE sS mM below meth cC ls AA E hw hl hr hlk hE
  replace hl : lv_has ls 1 [(0, .ref (q))] := hl
  refine lv_aload_n E.1 E.2.1 dX0_takesOrderEnd_0 rfl (lv_at hl 0 rfl) ?_
  refine callVI E (c_X0_mayEnd l G q (e) (lt) (v) (w) he hlt) mw_27_13 YX0_mayEnd ⟨rfl, rfl⟩ ⟨Nat.le_of_ble_eq_true rfl, Nat.le_of_ble_eq_true rfl⟩ ⟨Nat.zero_le _, Nat.zero_le _⟩ hw 0 rfl rfl rfl hl rfl (Nat.le_of_ble_eq_true rfl) dX0_takesOrderEnd_1 (fun H locs hw => ?_)
  refine lv_if_neB (tgt := 9) E.1 E.2.1 dX0_takesOrderEnd_4 (by decide) (fun c4 => ?_) (fun c4 => ?_)
  · skip
    refine lv_aload_n E.1 E.2.1 dX0_takesOrderEnd_9 rfl (lv_at hl 0 rfl) ?_
    refine lv_iconst (v := nI 0) E.1 E.2.1 dX0_takesOrderEnd_10 (by decide) ?_
    refine pX0_0 E hw mw_27_4 dX0_takesOrderEnd_11 (fun H locs hw => ?_)
    replace hw : HB G AA sS.heap (oW q (rvO (0, lt, v, w))) H locs := HB.eq hw (rfl)
    refine lv_iconst (v := nI 1) E.1 E.2.1 dX0_takesOrderEnd_14 (by decide) ?_
    exact rZ E hr hlk (HB.eq hw (by rw [show (tkE (e, lt, v, w)) = _ from if_pos c4]; rfl)) (by rw [show (tkE (e, lt, v, w)) = _ from if_pos c4]; rfl) rfl dX0_takesOrderEnd_15
  · skip
    refine lv_iconst (v := nI 0) E.1 E.2.1 dX0_takesOrderEnd_7 (by decide) ?_
    exact rZ E hr hlk (HB.eq hw (by rw [show (tkE (e, lt, v, w)) = _ from if_neg c4]; rfl)) (by rw [show (tkE (e, lt, v, w)) = _ from if_neg c4]; rfl) rfl dX0_takesOrderEnd_8
theorem YX0_takesLetter : YV yX0_takesLetter RX0 cX0_takesLetter 2 (some .boolean) 1 := ⟨mw_27_19, mw_27_20, mw_2_0, mw_27_21, by decide +kernel⟩
set_option maxHeartbeats 4000000 in
set_option maxRecDepth 100000 in
theorem c_X0_takesLetter (l : Launch) (G : GP) (q : Nat) (e lt : Nat) (v : Int32) (w : Nat) (he : e < 6) (hlt : lt < 127) (c : Nat) (hc : c < 127) : MI l yX0_takesLetter (.code yX0_takesLetter cX0_takesLetter 2 (some .boolean) :: GW) ({ frames := 0, cells := 0, slots := 0, locals := 0 }) [.ref (q), .int (nI (c))] G ES (oW q (rvO (e, lt, v, w))) (oW q (rvO ((tkL (e, lt, v, w) c).getD (e, lt, v, w)))) (zb ((tkL (e, lt, v, w) c).isSome = true)) := by
  refine MI.of (own := RX0) rfl rfl (Nat.le_of_ble_eq_true rfl) ?_
  intro pP eE sS mM below meth cC ls AA E hw hl hr hlk hE
  replace hl : lv_has ls 2 [(0, .ref (q)), (1, .int (nI (c)))] := hl
  refine lv_iload_n E.1 E.2.1 dX0_takesLetter_0 rfl (lv_at hl 1 rfl) ?_
  by_cases z1_100 : c = 100
  · refine lv_eqi (y := nI 100) (by rw [z1_100]) ?_
    refine lv_tableIn (tgt := 113) E.1 E.2.1 dX0_takesLetter_1 (by decide) (by decide) rfl (by decide) ?_
    refine lv_aload_n E.1 E.2.1 dX0_takesLetter_113 rfl (lv_at hl 0 rfl) ?_
    refine lv_iconst (v := -1) E.1 E.2.1 dX0_takesLetter_114 (by decide) ?_
    refine pX0_2 E hw mw_27_17 dX0_takesLetter_115 (fun H locs hw => ?_)
    replace hw : HB G AA sS.heap (oW q (rvO (e, lt, -1, w))) H locs := HB.eq hw (rfl)
    refine lv_aload_n E.1 E.2.1 dX0_takesLetter_118 rfl (lv_at hl 0 rfl) ?_
    refine lv_iconst (v := nI 2) E.1 E.2.1 dX0_takesLetter_119 (by decide) ?_
    refine pX0_0 E hw mw_27_4 dX0_takesLetter_120 (fun H locs hw => ?_)
    replace hw : HB G AA sS.heap (oW q (rvO (2, lt, -1, w))) H locs := HB.eq hw (rfl)
    refine lv_goto (tgt := 136) E.1 E.2.1 dX0_takesLetter_123 (by decide) ?_
    refine lv_aload_n E.1 E.2.1 dX0_takesLetter_136 rfl (lv_at hl 0 rfl) ?_
    refine lv_iload_n E.1 E.2.1 dX0_takesLetter_137 rfl (lv_at hl 1 rfl) ?_
    refine pX0_1 E hw mw_27_22 dX0_takesLetter_138 (fun H locs hw => ?_)
    replace hw : HB G AA sS.heap (oW q (rvO (2, c, -1, w))) H locs := HB.eq hw (rfl)
    refine lv_iconst (v := nI 1) E.1 E.2.1 dX0_takesLetter_141 (by decide) ?_
    exact rZ E hr hlk (HB.eq hw (by rw [show (tkL (e, lt, v, w) c) = _ from (if_neg (by omega)).trans (if_pos (by omega))]; rfl)) (by rw [show (tkL (e, lt, v, w) c) = _ from (if_neg (by omega)).trans (if_pos (by omega))]; rfl) rfl dX0_takesLetter_142
  by_cases z1_101 : c = 101
  · refine lv_eqi (y := nI 101) (by rw [z1_101]) ?_
    refine lv_tableIn (tgt := 134) E.1 E.2.1 dX0_takesLetter_1 (by decide) (by decide) rfl (by decide) ?_
    refine lv_iconst (v := nI 0) E.1 E.2.1 dX0_takesLetter_134 (by decide) ?_
    exact rZ E hr hlk (HB.eq hw (by rw [show (tkL (e, lt, v, w) c) = _ from tkL_no (by omega)]; rfl)) (by rw [show (tkL (e, lt, v, w) c) = _ from tkL_no (by omega)]; rfl) rfl dX0_takesLetter_135
  by_cases z1_102 : c = 102
  · refine lv_eqi (y := nI 102) (by rw [z1_102]) ?_
    refine lv_tableIn (tgt := 134) E.1 E.2.1 dX0_takesLetter_1 (by decide) (by decide) rfl (by decide) ?_
    refine lv_iconst (v := nI 0) E.1 E.2.1 dX0_takesLetter_134 (by decide) ?_
    exact rZ E hr hlk (HB.eq hw (by rw [show (tkL (e, lt, v, w) c) = _ from tkL_no (by omega)]; rfl)) (by rw [show (tkL (e, lt, v, w) c) = _ from tkL_no (by omega)]; rfl) rfl dX0_takesLetter_135
  by_cases z1_103 : c = 103
  · refine lv_eqi (y := nI 103) (by rw [z1_103]) ?_
    refine lv_tableIn (tgt := 134) E.1 E.2.1 dX0_takesLetter_1 (by decide) (by decide) rfl (by decide) ?_
    refine lv_iconst (v := nI 0) E.1 E.2.1 dX0_takesLetter_134 (by decide) ?_
    exact rZ E hr hlk (HB.eq hw (by rw [show (tkL (e, lt, v, w) c) = _ from tkL_no (by omega)]; rfl)) (by rw [show (tkL (e, lt, v, w) c) = _ from tkL_no (by omega)]; rfl) rfl dX0_takesLetter_135
  by_cases z1_104 : c = 104
  · refine lv_eqi (y := nI 104) (by rw [z1_104]) ?_
    refine lv_tableIn (tgt := 134) E.1 E.2.1 dX0_takesLetter_1 (by decide) (by decide) rfl (by decide) ?_
    refine lv_iconst (v := nI 0) E.1 E.2.1 dX0_takesLetter_134 (by decide) ?_
    exact rZ E hr hlk (HB.eq hw (by rw [show (tkL (e, lt, v, w) c) = _ from tkL_no (by omega)]; rfl)) (by rw [show (tkL (e, lt, v, w) c) = _ from tkL_no (by omega)]; rfl) rfl dX0_takesLetter_135
  by_cases z1_105 : c = 105
  · refine lv_eqi (y := nI 105) (by rw [z1_105]) ?_
    refine lv_tableIn (tgt := 134) E.1 E.2.1 dX0_takesLetter_1 (by decide) (by decide) rfl (by decide) ?_
    refine lv_iconst (v := nI 0) E.1 E.2.1 dX0_takesLetter_134 (by decide) ?_
    exact rZ E hr hlk (HB.eq hw (by rw [show (tkL (e, lt, v, w) c) = _ from tkL_no (by omega)]; rfl)) (by rw [show (tkL (e, lt, v, w) c) = _ from tkL_no (by omega)]; rfl) rfl dX0_takesLetter_135
  by_cases z1_106 : c = 106
  · refine lv_eqi (y := nI 106) (by rw [z1_106]) ?_
    refine lv_tableIn (tgt := 134) E.1 E.2.1 dX0_takesLetter_1 (by decide) (by decide) rfl (by decide) ?_
    refine lv_iconst (v := nI 0) E.1 E.2.1 dX0_takesLetter_134 (by decide) ?_
    exact rZ E hr hlk (HB.eq hw (by rw [show (tkL (e, lt, v, w) c) = _ from tkL_no (by omega)]; rfl)) (by rw [show (tkL (e, lt, v, w) c) = _ from tkL_no (by omega)]; rfl) rfl dX0_takesLetter_135
  by_cases z1_107 : c = 107
  · refine lv_eqi (y := nI 107) (by rw [z1_107]) ?_
    refine lv_tableIn (tgt := 134) E.1 E.2.1 dX0_takesLetter_1 (by decide) (by decide) rfl (by decide) ?_
    refine lv_iconst (v := nI 0) E.1 E.2.1 dX0_takesLetter_134 (by decide) ?_
    exact rZ E hr hlk (HB.eq hw (by rw [show (tkL (e, lt, v, w) c) = _ from tkL_no (by omega)]; rfl)) (by rw [show (tkL (e, lt, v, w) c) = _ from tkL_no (by omega)]; rfl) rfl dX0_takesLetter_135
  by_cases z1_108 : c = 108
  · refine lv_eqi (y := nI 108) (by rw [z1_108]) ?_
    refine lv_tableIn (tgt := 113) E.1 E.2.1 dX0_takesLetter_1 (by decide) (by decide) rfl (by decide) ?_
    refine lv_aload_n E.1 E.2.1 dX0_takesLetter_113 rfl (lv_at hl 0 rfl) ?_
    refine lv_iconst (v := -1) E.1 E.2.1 dX0_takesLetter_114 (by decide) ?_
    refine pX0_2 E hw mw_27_17 dX0_takesLetter_115 (fun H locs hw => ?_)
    replace hw : HB G AA sS.heap (oW q (rvO (e, lt, -1, w))) H locs := HB.eq hw (rfl)
    refine lv_aload_n E.1 E.2.1 dX0_takesLetter_118 rfl (lv_at hl 0 rfl) ?_
    refine lv_iconst (v := nI 2) E.1 E.2.1 dX0_takesLetter_119 (by decide) ?_
    refine pX0_0 E hw mw_27_4 dX0_takesLetter_120 (fun H locs hw => ?_)
    replace hw : HB G AA sS.heap (oW q (rvO (2, lt, -1, w))) H locs := HB.eq hw (rfl)
    refine lv_goto (tgt := 136) E.1 E.2.1 dX0_takesLetter_123 (by decide) ?_
    refine lv_aload_n E.1 E.2.1 dX0_takesLetter_136 rfl (lv_at hl 0 rfl) ?_
    refine lv_iload_n E.1 E.2.1 dX0_takesLetter_137 rfl (lv_at hl 1 rfl) ?_
    refine pX0_1 E hw mw_27_22 dX0_takesLetter_138 (fun H locs hw => ?_)
    replace hw : HB G AA sS.heap (oW q (rvO (2, c, -1, w))) H locs := HB.eq hw (rfl)
    refine lv_iconst (v := nI 1) E.1 E.2.1 dX0_takesLetter_141 (by decide) ?_
    exact rZ E hr hlk (HB.eq hw (by rw [show (tkL (e, lt, v, w) c) = _ from (if_neg (by omega)).trans (if_pos (by omega))]; rfl)) (by rw [show (tkL (e, lt, v, w) c) = _ from (if_neg (by omega)).trans (if_pos (by omega))]; rfl) rfl dX0_takesLetter_142
  by_cases z1_109 : c = 109
  · refine lv_eqi (y := nI 109) (by rw [z1_109]) ?_
    refine lv_tableIn (tgt := 134) E.1 E.2.1 dX0_takesLetter_1 (by decide) (by decide) rfl (by decide) ?_
    refine lv_iconst (v := nI 0) E.1 E.2.1 dX0_takesLetter_134 (by decide) ?_
    exact rZ E hr hlk (HB.eq hw (by rw [show (tkL (e, lt, v, w) c) = _ from tkL_no (by omega)]; rfl)) (by rw [show (tkL (e, lt, v, w) c) = _ from tkL_no (by omega)]; rfl) rfl dX0_takesLetter_135
  by_cases z1_110 : c = 110
  · refine lv_eqi (y := nI 110) (by rw [z1_110]) ?_
    refine lv_tableIn (tgt := 134) E.1 E.2.1 dX0_takesLetter_1 (by decide) (by decide) rfl (by decide) ?_
    refine lv_iconst (v := nI 0) E.1 E.2.1 dX0_takesLetter_134 (by decide) ?_
    exact rZ E hr hlk (HB.eq hw (by rw [show (tkL (e, lt, v, w) c) = _ from tkL_no (by omega)]; rfl)) (by rw [show (tkL (e, lt, v, w) c) = _ from tkL_no (by omega)]; rfl) rfl dX0_takesLetter_135
  by_cases z1_111 : c = 111
  · refine lv_eqi (y := nI 111) (by rw [z1_111]) ?_
    refine lv_tableIn (tgt := 100) E.1 E.2.1 dX0_takesLetter_1 (by decide) (by decide) rfl (by decide) ?_
    refine lv_aload_n E.1 E.2.1 dX0_takesLetter_100 rfl (lv_at hl 0 rfl) ?_
    refine lv_iconst (v := nI 0) E.1 E.2.1 dX0_takesLetter_101 (by decide) ?_
    refine pX0_2 E hw mw_27_17 dX0_takesLetter_102 (fun H locs hw => ?_)
    replace hw : HB G AA sS.heap (oW q (rvO (e, lt, nI (0), w))) H locs := HB.eq hw (rfl)
    refine lv_aload_n E.1 E.2.1 dX0_takesLetter_105 rfl (lv_at hl 0 rfl) ?_
    refine lv_iconst (v := nI 1) E.1 E.2.1 dX0_takesLetter_106 (by decide) ?_
    refine pX0_0 E hw mw_27_4 dX0_takesLetter_107 (fun H locs hw => ?_)
    replace hw : HB G AA sS.heap (oW q (rvO (1, lt, nI (0), w))) H locs := HB.eq hw (rfl)
    refine lv_goto (tgt := 136) E.1 E.2.1 dX0_takesLetter_110 (by decide) ?_
    refine lv_aload_n E.1 E.2.1 dX0_takesLetter_136 rfl (lv_at hl 0 rfl) ?_
    refine lv_iload_n E.1 E.2.1 dX0_takesLetter_137 rfl (lv_at hl 1 rfl) ?_
    refine pX0_1 E hw mw_27_22 dX0_takesLetter_138 (fun H locs hw => ?_)
    replace hw : HB G AA sS.heap (oW q (rvO (1, c, nI (0), w))) H locs := HB.eq hw (rfl)
    refine lv_iconst (v := nI 1) E.1 E.2.1 dX0_takesLetter_141 (by decide) ?_
    exact rZ E hr hlk (HB.eq hw (by rw [show (tkL (e, lt, v, w) c) = _ from if_pos z1_111]; rfl)) (by rw [show (tkL (e, lt, v, w) c) = _ from if_pos z1_111]; rfl) rfl dX0_takesLetter_142
  by_cases z1_112 : c = 112
  · refine lv_eqi (y := nI 112) (by rw [z1_112]) ?_
    refine lv_tableIn (tgt := 134) E.1 E.2.1 dX0_takesLetter_1 (by decide) (by decide) rfl (by decide) ?_
    refine lv_iconst (v := nI 0) E.1 E.2.1 dX0_takesLetter_134 (by decide) ?_
    exact rZ E hr hlk (HB.eq hw (by rw [show (tkL (e, lt, v, w) c) = _ from tkL_no (by omega)]; rfl)) (by rw [show (tkL (e, lt, v, w) c) = _ from tkL_no (by omega)]; rfl) rfl dX0_takesLetter_135
  by_cases z1_113 : c = 113
  · refine lv_eqi (y := nI 113) (by rw [z1_113]) ?_
    refine lv_tableIn (tgt := 134) E.1 E.2.1 dX0_takesLetter_1 (by decide) (by decide) rfl (by decide) ?_
    refine lv_iconst (v := nI 0) E.1 E.2.1 dX0_takesLetter_134 (by decide) ?_
    exact rZ E hr hlk (HB.eq hw (by rw [show (tkL (e, lt, v, w) c) = _ from tkL_no (by omega)]; rfl)) (by rw [show (tkL (e, lt, v, w) c) = _ from tkL_no (by omega)]; rfl) rfl dX0_takesLetter_135
  by_cases z1_114 : c = 114
  · refine lv_eqi (y := nI 114) (by rw [z1_114]) ?_
    refine lv_tableIn (tgt := 126) E.1 E.2.1 dX0_takesLetter_1 (by decide) (by decide) rfl (by decide) ?_
    refine lv_aload_n E.1 E.2.1 dX0_takesLetter_126 rfl (lv_at hl 0 rfl) ?_
    refine lv_iconst (v := nI 3) E.1 E.2.1 dX0_takesLetter_127 (by decide) ?_
    refine pX0_0 E hw mw_27_4 dX0_takesLetter_128 (fun H locs hw => ?_)
    replace hw : HB G AA sS.heap (oW q (rvO (3, lt, v, w))) H locs := HB.eq hw (rfl)
    refine lv_goto (tgt := 136) E.1 E.2.1 dX0_takesLetter_131 (by decide) ?_
    refine lv_aload_n E.1 E.2.1 dX0_takesLetter_136 rfl (lv_at hl 0 rfl) ?_
    refine lv_iload_n E.1 E.2.1 dX0_takesLetter_137 rfl (lv_at hl 1 rfl) ?_
    refine pX0_1 E hw mw_27_22 dX0_takesLetter_138 (fun H locs hw => ?_)
    replace hw : HB G AA sS.heap (oW q (rvO (3, c, v, w))) H locs := HB.eq hw (rfl)
    refine lv_iconst (v := nI 1) E.1 E.2.1 dX0_takesLetter_141 (by decide) ?_
    exact rZ E hr hlk (HB.eq hw (by rw [show (tkL (e, lt, v, w) c) = _ from (if_neg (by omega)).trans ((if_neg (by omega)).trans (if_pos (by omega)))]; rfl)) (by rw [show (tkL (e, lt, v, w) c) = _ from (if_neg (by omega)).trans ((if_neg (by omega)).trans (if_pos (by omega)))]; rfl) rfl dX0_takesLetter_142
  by_cases z1_115 : c = 115
  · refine lv_eqi (y := nI 115) (by rw [z1_115]) ?_
    refine lv_tableIn (tgt := 134) E.1 E.2.1 dX0_takesLetter_1 (by decide) (by decide) rfl (by decide) ?_
    refine lv_iconst (v := nI 0) E.1 E.2.1 dX0_takesLetter_134 (by decide) ?_
    exact rZ E hr hlk (HB.eq hw (by rw [show (tkL (e, lt, v, w) c) = _ from tkL_no (by omega)]; rfl)) (by rw [show (tkL (e, lt, v, w) c) = _ from tkL_no (by omega)]; rfl) rfl dX0_takesLetter_135
  by_cases z1_116 : c = 116
  · refine lv_eqi (y := nI 116) (by rw [z1_116]) ?_
    refine lv_tableIn (tgt := 113) E.1 E.2.1 dX0_takesLetter_1 (by decide) (by decide) rfl (by decide) ?_
    refine lv_aload_n E.1 E.2.1 dX0_takesLetter_113 rfl (lv_at hl 0 rfl) ?_
    refine lv_iconst (v := -1) E.1 E.2.1 dX0_takesLetter_114 (by decide) ?_
    refine pX0_2 E hw mw_27_17 dX0_takesLetter_115 (fun H locs hw => ?_)
    replace hw : HB G AA sS.heap (oW q (rvO (e, lt, -1, w))) H locs := HB.eq hw (rfl)
    refine lv_aload_n E.1 E.2.1 dX0_takesLetter_118 rfl (lv_at hl 0 rfl) ?_
    refine lv_iconst (v := nI 2) E.1 E.2.1 dX0_takesLetter_119 (by decide) ?_
    refine pX0_0 E hw mw_27_4 dX0_takesLetter_120 (fun H locs hw => ?_)
    replace hw : HB G AA sS.heap (oW q (rvO (2, lt, -1, w))) H locs := HB.eq hw (rfl)
    refine lv_goto (tgt := 136) E.1 E.2.1 dX0_takesLetter_123 (by decide) ?_
    refine lv_aload_n E.1 E.2.1 dX0_takesLetter_136 rfl (lv_at hl 0 rfl) ?_
    refine lv_iload_n E.1 E.2.1 dX0_takesLetter_137 rfl (lv_at hl 1 rfl) ?_
    refine pX0_1 E hw mw_27_22 dX0_takesLetter_138 (fun H locs hw => ?_)
    replace hw : HB G AA sS.heap (oW q (rvO (2, c, -1, w))) H locs := HB.eq hw (rfl)
    refine lv_iconst (v := nI 1) E.1 E.2.1 dX0_takesLetter_141 (by decide) ?_
    exact rZ E hr hlk (HB.eq hw (by rw [show (tkL (e, lt, v, w) c) = _ from (if_neg (by omega)).trans (if_pos (by omega))]; rfl)) (by rw [show (tkL (e, lt, v, w) c) = _ from (if_neg (by omega)).trans (if_pos (by omega))]; rfl) rfl dX0_takesLetter_142
  by_cases z1_117 : c = 117
  · refine lv_eqi (y := nI 117) (by rw [z1_117]) ?_
    refine lv_tableIn (tgt := 134) E.1 E.2.1 dX0_takesLetter_1 (by decide) (by decide) rfl (by decide) ?_
    refine lv_iconst (v := nI 0) E.1 E.2.1 dX0_takesLetter_134 (by decide) ?_
    exact rZ E hr hlk (HB.eq hw (by rw [show (tkL (e, lt, v, w) c) = _ from tkL_no (by omega)]; rfl)) (by rw [show (tkL (e, lt, v, w) c) = _ from tkL_no (by omega)]; rfl) rfl dX0_takesLetter_135
  by_cases z1_118 : c = 118
  · refine lv_eqi (y := nI 118) (by rw [z1_118]) ?_
    refine lv_tableIn (tgt := 134) E.1 E.2.1 dX0_takesLetter_1 (by decide) (by decide) rfl (by decide) ?_
    refine lv_iconst (v := nI 0) E.1 E.2.1 dX0_takesLetter_134 (by decide) ?_
    exact rZ E hr hlk (HB.eq hw (by rw [show (tkL (e, lt, v, w) c) = _ from tkL_no (by omega)]; rfl)) (by rw [show (tkL (e, lt, v, w) c) = _ from tkL_no (by omega)]; rfl) rfl dX0_takesLetter_135
  by_cases z1_119 : c = 119
  · refine lv_eqi (y := nI 119) (by rw [z1_119]) ?_
    refine lv_tableIn (tgt := 126) E.1 E.2.1 dX0_takesLetter_1 (by decide) (by decide) rfl (by decide) ?_
    refine lv_aload_n E.1 E.2.1 dX0_takesLetter_126 rfl (lv_at hl 0 rfl) ?_
    refine lv_iconst (v := nI 3) E.1 E.2.1 dX0_takesLetter_127 (by decide) ?_
    refine pX0_0 E hw mw_27_4 dX0_takesLetter_128 (fun H locs hw => ?_)
    replace hw : HB G AA sS.heap (oW q (rvO (3, lt, v, w))) H locs := HB.eq hw (rfl)
    refine lv_goto (tgt := 136) E.1 E.2.1 dX0_takesLetter_131 (by decide) ?_
    refine lv_aload_n E.1 E.2.1 dX0_takesLetter_136 rfl (lv_at hl 0 rfl) ?_
    refine lv_iload_n E.1 E.2.1 dX0_takesLetter_137 rfl (lv_at hl 1 rfl) ?_
    refine pX0_1 E hw mw_27_22 dX0_takesLetter_138 (fun H locs hw => ?_)
    replace hw : HB G AA sS.heap (oW q (rvO (3, c, v, w))) H locs := HB.eq hw (rfl)
    refine lv_iconst (v := nI 1) E.1 E.2.1 dX0_takesLetter_141 (by decide) ?_
    exact rZ E hr hlk (HB.eq hw (by rw [show (tkL (e, lt, v, w) c) = _ from (if_neg (by omega)).trans ((if_neg (by omega)).trans (if_pos (by omega)))]; rfl)) (by rw [show (tkL (e, lt, v, w) c) = _ from (if_neg (by omega)).trans ((if_neg (by omega)).trans (if_pos (by omega)))]; rfl) rfl dX0_takesLetter_142
  by_cases z1_120 : c = 120
  · refine lv_eqi (y := nI 120) (by rw [z1_120]) ?_
    refine lv_tableIn (tgt := 126) E.1 E.2.1 dX0_takesLetter_1 (by decide) (by decide) rfl (by decide) ?_
    refine lv_aload_n E.1 E.2.1 dX0_takesLetter_126 rfl (lv_at hl 0 rfl) ?_
    refine lv_iconst (v := nI 3) E.1 E.2.1 dX0_takesLetter_127 (by decide) ?_
    refine pX0_0 E hw mw_27_4 dX0_takesLetter_128 (fun H locs hw => ?_)
    replace hw : HB G AA sS.heap (oW q (rvO (3, lt, v, w))) H locs := HB.eq hw (rfl)
    refine lv_goto (tgt := 136) E.1 E.2.1 dX0_takesLetter_131 (by decide) ?_
    refine lv_aload_n E.1 E.2.1 dX0_takesLetter_136 rfl (lv_at hl 0 rfl) ?_
    refine lv_iload_n E.1 E.2.1 dX0_takesLetter_137 rfl (lv_at hl 1 rfl) ?_
    refine pX0_1 E hw mw_27_22 dX0_takesLetter_138 (fun H locs hw => ?_)
    replace hw : HB G AA sS.heap (oW q (rvO (3, c, v, w))) H locs := HB.eq hw (rfl)
    refine lv_iconst (v := nI 1) E.1 E.2.1 dX0_takesLetter_141 (by decide) ?_
    exact rZ E hr hlk (HB.eq hw (by rw [show (tkL (e, lt, v, w) c) = _ from (if_neg (by omega)).trans ((if_neg (by omega)).trans (if_pos (by omega)))]; rfl)) (by rw [show (tkL (e, lt, v, w) c) = _ from (if_neg (by omega)).trans ((if_neg (by omega)).trans (if_pos (by omega)))]; rfl) rfl dX0_takesLetter_142
  refine lv_tableOutN (tgt := 134) E.1 E.2.1 (by omega) dX0_takesLetter_1 (by omega) (by decide) ?_
  refine lv_iconst (v := nI 0) E.1 E.2.1 dX0_takesLetter_134 (by decide) ?_
  exact rZ E hr hlk (HB.eq hw (by rw [show (tkL (e, lt, v, w) c) = _ from tkL_no (by omega)]; rfl)) (by rw [show (tkL (e, lt, v, w) c) = _ from tkL_no (by omega)]; rfl) rfl dX0_takesLetter_135
theorem YX0_takesRisingClerk : YV yX0_takesRisingClerk RX0 cX0_takesRisingClerk 3 (some .boolean) 1 := ⟨mw_28_0, mw_28_1, mw_2_0, mw_28_2, by decide +kernel⟩
set_option maxHeartbeats 4000000 in
set_option maxRecDepth 100000 in
theorem c_X0_takesRisingClerk (l : Launch) (G : GP) (q : Nat) (e lt : Nat) (v : Int32) (w : Nat) (he : e < 6) (hlt : lt < 127) (c : Nat) (hc : c < 127) : MI l yX0_takesRisingClerk (.code yX0_takesRisingClerk cX0_takesRisingClerk 3 (some .boolean) :: GW) ({ frames := 0, cells := 0, slots := 0, locals := 0 }) [.ref (q), .int (nI (c))] G ES (oW q (rvO (e, lt, v, w))) (oW q (rvO ((tkR (e, lt, v, w) c).getD (e, lt, v, w)))) (zb ((tkR (e, lt, v, w) c).isSome = true)) := by
  refine MI.of (own := RX0) rfl rfl (Nat.le_of_ble_eq_true rfl) ?_
  intro pP eE sS mM below meth cC ls AA E hw hl hr hlk hE
  replace hl : lv_has ls 3 [(0, .ref (q)), (1, .int (nI (c)))] := hl
  refine lv_iload_n E.1 E.2.1 dX0_takesRisingClerk_0 rfl (lv_at hl 1 rfl) ?_
  refine lv_bipush (v := nI 48) E.1 E.2.1 dX0_takesRisingClerk_1 (by decide) ?_
  refine lv_isub E.1 E.2.1 dX0_takesRisingClerk_3 ?_
  refine lv_eqi (y := nI c - nI 48) (rfl) ?_
  refine lv_istore_n (lv' := [(2, .int (nI c - nI 48)), (0, .ref (q)), (1, .int (nI (c)))]) E.1 E.2.1 dX0_takesRisingClerk_4 rfl hl (by decide) rfl (fun ls hl => ?_)
  refine lv_iload_n E.1 E.2.1 dX0_takesRisingClerk_5 rfl (lv_at hl 0 rfl) ?_
  refine lv_if_lt (tgt := 24) E.1 E.2.1 dX0_takesRisingClerk_6 (by decide) (fun c6 => ?_) (fun c6 => ?_)
  · skip
    have h48 : c < 48 := (sub48_lt (by omega)).mp c6
    refine lv_iconst (v := nI 0) E.1 E.2.1 dX0_takesRisingClerk_24 (by decide) ?_
    exact rZ E hr hlk (HB.eq hw (by rw [show (tkR (e, lt, v, w) c) = _ from if_neg (fun z => by have := z.1; omega)]; rfl)) (by rw [show (tkR (e, lt, v, w) c) = _ from if_neg (fun z => by have := z.1; omega)]; rfl) rfl dX0_takesRisingClerk_25
  · skip
    have h48 : 48 ≤ c := Nat.le_of_not_lt (fun z => c6 ((sub48_lt (by omega)).mpr z))
    rw [sub48_n h48] at hl
    refine lv_iload_n E.1 E.2.1 dX0_takesRisingClerk_9 rfl (lv_at hl 0 rfl) ?_
    refine lv_iconst (v := nI 4) E.1 E.2.1 dX0_takesRisingClerk_10 (by decide) ?_
    refine lv_icmp_geN (tgt := 24) E.1 E.2.1 (by omega) (by omega) dX0_takesRisingClerk_11 (by decide) (fun c11 => ?_) (fun c11 => ?_)
    · skip
      refine lv_iconst (v := nI 0) E.1 E.2.1 dX0_takesRisingClerk_24 (by decide) ?_
      exact rZ E hr hlk (HB.eq hw (by rw [show (tkR (e, lt, v, w) c) = _ from if_neg (fun z => by have := z.1; omega)]; rfl)) (by rw [show (tkR (e, lt, v, w) c) = _ from if_neg (fun z => by have := z.1; omega)]; rfl) rfl dX0_takesRisingClerk_25
    · skip
      refine lv_iconst (v := nI 1) E.1 E.2.1 dX0_takesRisingClerk_14 (by decide) ?_
      refine lv_iload_n E.1 E.2.1 dX0_takesRisingClerk_15 rfl (lv_at hl 0 rfl) ?_
      refine lv_ishl E.1 E.2.1 dX0_takesRisingClerk_16 (lv_eqi (y := nI (2 ^ (c - 48))) (shl_1 _ (by omega)) ?_)
      refine lv_aload_n E.1 E.2.1 dX0_takesRisingClerk_17 rfl (lv_at hl 1 rfl) ?_
      refine gX0_2 E hw mw_27_17 dX0_takesRisingClerk_18 ?_
      refine lv_eqi (y := v) (rfl) ?_
      refine lv_icmp_gt (tgt := 26) E.1 E.2.1 dX0_takesRisingClerk_21 (by decide) (fun c21 => ?_) (fun c21 => ?_)
      · skip
        refine lv_aload_n E.1 E.2.1 dX0_takesRisingClerk_26 rfl (lv_at hl 1 rfl) ?_
        refine lv_dup E.1 E.2.1 dX0_takesRisingClerk_27 rfl ?_
        refine gX0_2 E hw mw_27_17 dX0_takesRisingClerk_28 ?_
        refine lv_eqi (y := v) (rfl) ?_
        refine lv_iconst (v := nI 1) E.1 E.2.1 dX0_takesRisingClerk_31 (by decide) ?_
        refine lv_iload_n E.1 E.2.1 dX0_takesRisingClerk_32 rfl (lv_at hl 0 rfl) ?_
        refine lv_ishl E.1 E.2.1 dX0_takesRisingClerk_33 (lv_eqi (y := nI (2 ^ (c - 48))) (shl_1 _ (by omega)) ?_)
        refine lv_ior E.1 E.2.1 dX0_takesRisingClerk_34 ?_
        refine pX0_2 E hw mw_27_17 dX0_takesRisingClerk_35 (fun H locs hw => ?_)
        replace hw : HB G AA sS.heap (oW q (rvO (e, lt, (v) ||| nI (2 ^ (c - 48)), w))) H locs := HB.eq hw (rfl)
        refine lv_iconst (v := nI 1) E.1 E.2.1 dX0_takesRisingClerk_38 (by decide) ?_
        exact rZ E hr hlk (HB.eq hw (by rw [show (tkR (e, lt, v, w) c) = _ from if_pos ⟨by omega, c21⟩]; rfl)) (by rw [show (tkR (e, lt, v, w) c) = _ from if_pos ⟨by omega, c21⟩]; rfl) rfl dX0_takesRisingClerk_39
      · skip
        refine lv_iconst (v := nI 0) E.1 E.2.1 dX0_takesRisingClerk_24 (by decide) ?_
        exact rZ E hr hlk (HB.eq hw (by rw [show (tkR (e, lt, v, w) c) = _ from if_neg (fun z => c21 z.2)]; rfl)) (by rw [show (tkR (e, lt, v, w) c) = _ from if_neg (fun z => c21 z.2)]; rfl) rfl dX0_takesRisingClerk_25
theorem YX0_takesDigit : YV yX0_takesDigit RX0 cX0_takesDigit 3 (some .boolean) 1 := ⟨mw_28_4, mw_28_5, mw_2_0, mw_28_6, by decide +kernel⟩
set_option maxHeartbeats 4000000 in
set_option maxRecDepth 100000 in
theorem c_X0_takesDigit (l : Launch) (G : GP) (q : Nat) (e lt : Nat) (v : Int32) (w : Nat) (he : e < 6) (hlt : lt < 127) (c : Nat) (hc : c < 127) : MI l yX0_takesDigit (.code yX0_takesDigit cX0_takesDigit 3 (some .boolean) :: GW) ({ frames := 0, cells := 0, slots := 0, locals := 0 }) [.ref (q), .int (nI (c))] G ES (oW q (rvO (e, lt, v, w))) (oW q (rvO ((tkD (e, lt, v, w) c).getD (e, lt, v, w)))) (zb ((tkD (e, lt, v, w) c).isSome = true)) := by
  refine MI.of (own := RX0) rfl rfl (Nat.le_of_ble_eq_true rfl) ?_
  intro pP eE sS mM below meth cC ls AA E hw hl hr hlk hE
  replace hl : lv_has ls 3 [(0, .ref (q)), (1, .int (nI (c)))] := hl
  refine lv_iload_n E.1 E.2.1 dX0_takesDigit_0 rfl (lv_at hl 1 rfl) ?_
  refine lv_bipush (v := nI 48) E.1 E.2.1 dX0_takesDigit_1 (by decide) ?_
  refine lv_isub E.1 E.2.1 dX0_takesDigit_3 ?_
  refine lv_eqi (y := nI c - nI 48) (rfl) ?_
  refine lv_istore_n (lv' := [(2, .int (nI c - nI 48)), (0, .ref (q)), (1, .int (nI (c)))]) E.1 E.2.1 dX0_takesDigit_4 rfl hl (by decide) rfl (fun ls hl => ?_)
  refine lv_iload_n E.1 E.2.1 dX0_takesDigit_5 rfl (lv_at hl 0 rfl) ?_
  refine lv_if_lt (tgt := 31) E.1 E.2.1 dX0_takesDigit_6 (by decide) (fun c6 => ?_) (fun c6 => ?_)
  · skip
    have h48 : c < 48 := (sub48_lt (by omega)).mp c6
    refine lv_iconst (v := nI 0) E.1 E.2.1 dX0_takesDigit_31 (by decide) ?_
    exact rZ E hr hlk (HB.eq hw (by rw [show (tkD (e, lt, v, w) c) = _ from if_neg (fun z => by have := z.1; omega)]; rfl)) (by rw [show (tkD (e, lt, v, w) c) = _ from if_neg (fun z => by have := z.1; omega)]; rfl) rfl dX0_takesDigit_32
  · skip
    have h48 : 48 ≤ c := Nat.le_of_not_lt (fun z => c6 ((sub48_lt (by omega)).mpr z))
    rw [sub48_n h48] at hl
    refine lv_iload_n E.1 E.2.1 dX0_takesDigit_9 rfl (lv_at hl 0 rfl) ?_
    refine lv_bipush (v := nI 9) E.1 E.2.1 dX0_takesDigit_10 (by decide) ?_
    refine lv_icmp_gtN (tgt := 31) E.1 E.2.1 (by omega) (by omega) dX0_takesDigit_12 (by decide) (fun c12 => ?_) (fun c12 => ?_)
    · skip
      refine lv_iconst (v := nI 0) E.1 E.2.1 dX0_takesDigit_31 (by decide) ?_
      exact rZ E hr hlk (HB.eq hw (by rw [show (tkD (e, lt, v, w) c) = _ from if_neg (fun z => by have := z.1; omega)]; rfl)) (by rw [show (tkD (e, lt, v, w) c) = _ from if_neg (fun z => by have := z.1; omega)]; rfl) rfl dX0_takesDigit_32
    · skip
      refine lv_aload_n E.1 E.2.1 dX0_takesDigit_15 rfl (lv_at hl 1 rfl) ?_
      refine gX0_2 E hw mw_27_17 dX0_takesDigit_16 ?_
      refine lv_eqi (y := v) (rfl) ?_
      refine lv_if_eq (tgt := 31) E.1 E.2.1 dX0_takesDigit_19 (by decide) (fun c19 => ?_) (fun c19 => ?_)
      · skip
        refine lv_iconst (v := nI 0) E.1 E.2.1 dX0_takesDigit_31 (by decide) ?_
        exact rZ E hr hlk (HB.eq hw (by rw [show (tkD (e, lt, v, w) c) = _ from if_neg (fun z => z.2.1 c19)]; rfl)) (by rw [show (tkD (e, lt, v, w) c) = _ from if_neg (fun z => z.2.1 c19)]; rfl) rfl dX0_takesDigit_32
      · skip
        refine lv_aload_n E.1 E.2.1 dX0_takesDigit_22 rfl (lv_at hl 1 rfl) ?_
        refine gX0_2 E hw mw_27_17 dX0_takesDigit_23 ?_
        refine lv_eqi (y := v) (rfl) ?_
        refine lv_bipush (v := nI 9) E.1 E.2.1 dX0_takesDigit_26 (by decide) ?_
        refine lv_icmp_le (tgt := 33) E.1 E.2.1 dX0_takesDigit_28 (by decide) (fun c28 => ?_) (fun c28 => ?_)
        · skip
          refine lv_aload_n E.1 E.2.1 dX0_takesDigit_33 rfl (lv_at hl 1 rfl) ?_
          refine lv_aload_n E.1 E.2.1 dX0_takesDigit_34 rfl (lv_at hl 1 rfl) ?_
          refine gX0_2 E hw mw_27_17 dX0_takesDigit_35 ?_
          refine lv_eqi (y := v) (rfl) ?_
          refine lv_if_ge (tgt := 45) E.1 E.2.1 dX0_takesDigit_38 (by decide) (fun c38 => ?_) (fun c38 => ?_)
          · skip
            refine lv_aload_n E.1 E.2.1 dX0_takesDigit_45 rfl (lv_at hl 1 rfl) ?_
            refine gX0_2 E hw mw_27_17 dX0_takesDigit_46 ?_
            refine lv_eqi (y := v) (rfl) ?_
            refine lv_bipush (v := nI 10) E.1 E.2.1 dX0_takesDigit_49 (by decide) ?_
            refine lv_imul E.1 E.2.1 dX0_takesDigit_51 ?_
            refine lv_iload_n E.1 E.2.1 dX0_takesDigit_52 rfl (lv_at hl 0 rfl) ?_
            refine lv_iadd E.1 E.2.1 dX0_takesDigit_53 ?_
            refine pX0_2 E hw mw_27_17 dX0_takesDigit_54 (fun H locs hw => ?_)
            replace hw : HB G AA sS.heap (oW q (rvO (e, lt, ((v) * nI (10)) + nI (c - 48), w))) H locs := HB.eq hw (rfl)
            refine lv_iconst (v := nI 1) E.1 E.2.1 dX0_takesDigit_57 (by decide) ?_
            exact rZ E hr hlk (HB.eq hw (by rw [show (tkD (e, lt, v, w) c) = _ from tkD_1 (by omega) c19 c28 c38]; rfl)) (by rw [show (tkD (e, lt, v, w) c) = _ from tkD_1 (by omega) c19 c28 c38]; rfl) rfl dX0_takesDigit_58
          · skip
            refine lv_iload_n E.1 E.2.1 dX0_takesDigit_41 rfl (lv_at hl 0 rfl) ?_
            refine lv_goto (tgt := 54) E.1 E.2.1 dX0_takesDigit_42 (by decide) ?_
            refine pX0_2 E hw mw_27_17 dX0_takesDigit_54 (fun H locs hw => ?_)
            replace hw : HB G AA sS.heap (oW q (rvO (e, lt, nI (c - 48), w))) H locs := HB.eq hw (rfl)
            refine lv_iconst (v := nI 1) E.1 E.2.1 dX0_takesDigit_57 (by decide) ?_
            exact rZ E hr hlk (HB.eq hw (by rw [show (tkD (e, lt, v, w) c) = _ from tkD_0 (by omega) c19 c28 c38]; rfl)) (by rw [show (tkD (e, lt, v, w) c) = _ from tkD_0 (by omega) c19 c28 c38]; rfl) rfl dX0_takesDigit_58
        · skip
          refine lv_iconst (v := nI 0) E.1 E.2.1 dX0_takesDigit_31 (by decide) ?_
          exact rZ E hr hlk (HB.eq hw (by rw [show (tkD (e, lt, v, w) c) = _ from if_neg (fun z => c28 z.2.2)]; rfl)) (by rw [show (tkD (e, lt, v, w) c) = _ from if_neg (fun z => c28 z.2.2)]; rfl) rfl dX0_takesDigit_32
theorem YX0_takesSomebody : YV yX0_takesSomebody RX0 cX0_takesSomebody 4 (some .boolean) 1 := ⟨mw_28_8, mw_28_9, mw_2_0, mw_28_10, by decide +kernel⟩
set_option maxHeartbeats 4000000 in
set_option maxRecDepth 100000 in
theorem c_X0_takesSomebody (l : Launch) (G : GP) (q : Nat) (e lt : Nat) (v : Int32) (w : Nat) (he : e < 6) (hlt : lt < 127) (c : Nat) (hc : c < 127) : MI l yX0_takesSomebody (.code yX0_takesSomebody cX0_takesSomebody 4 (some .boolean) :: GW) ({ frames := 0, cells := 0, slots := 0, locals := 0 }) [.ref (q), .int (nI (c))] G ES (oW q (rvO (e, lt, v, w))) (oW q (rvO ((tkS (e, lt, v, w) c).getD (e, lt, v, w)))) (zb ((tkS (e, lt, v, w) c).isSome = true)) := by
  refine MI.of (own := RX0) rfl rfl (Nat.le_of_ble_eq_true rfl) ?_
  intro pP eE sS mM below meth cC ls AA E hw hl hr hlk hE
  replace hl : lv_has ls 4 [(0, .ref (q)), (1, .int (nI (c)))] := hl
  refine lv_aload_n E.1 E.2.1 dX0_takesSomebody_0 rfl (lv_at hl 0 rfl) ?_
  refine gX0_1 E hw mw_27_22 dX0_takesSomebody_1 ?_
  refine lv_eqi (y := nI (lt)) (rfl) ?_
  refine lv_bipush (v := nI 119) E.1 E.2.1 dX0_takesSomebody_4 (by decide) ?_
  refine lv_icmp_neN (tgt := 13) E.1 E.2.1 (by omega) (by omega) dX0_takesSomebody_6 (by decide) (fun c6 => ?_) (fun c6 => ?_)
  · skip
    refine lv_iconst (v := nI 4) E.1 E.2.1 dX0_takesSomebody_13 (by decide) ?_
    refine lv_istore_n (lv' := [(2, .int (nI (4))), (0, .ref (q)), (1, .int (nI (c)))]) E.1 E.2.1 dX0_takesSomebody_14 rfl hl (by decide) rfl (fun ls hl => ?_)
    refine lv_iload_n E.1 E.2.1 dX0_takesSomebody_15 rfl (lv_at hl 2 rfl) ?_
    refine lv_bipush (v := nI 48) E.1 E.2.1 dX0_takesSomebody_16 (by decide) ?_
    refine lv_isub E.1 E.2.1 dX0_takesSomebody_18 ?_
    refine lv_eqi (y := nI c - nI 48) (rfl) ?_
    refine lv_istore_n (lv' := [(3, .int (nI c - nI 48)), (2, .int (nI (4))), (0, .ref (q)), (1, .int (nI (c)))]) E.1 E.2.1 dX0_takesSomebody_19 rfl hl (by decide) rfl (fun ls hl => ?_)
    refine lv_iload_n E.1 E.2.1 dX0_takesSomebody_20 rfl (lv_at hl 0 rfl) ?_
    refine lv_if_lt (tgt := 29) E.1 E.2.1 dX0_takesSomebody_21 (by decide) (fun c21 => ?_) (fun c21 => ?_)
    · skip
      have h48 : c < 48 := (sub48_lt (by omega)).mp c21
      refine lv_iconst (v := nI 0) E.1 E.2.1 dX0_takesSomebody_29 (by decide) ?_
      exact rZ E hr hlk (HB.eq hw (by rw [show (tkS (e, lt, v, w) c) = _ from tkS_no (by rw [if_neg c6]; omega)]; rfl)) (by rw [show (tkS (e, lt, v, w) c) = _ from tkS_no (by rw [if_neg c6]; omega)]; rfl) rfl dX0_takesSomebody_30
    · skip
      have h48 : 48 ≤ c := Nat.le_of_not_lt (fun z => c21 ((sub48_lt (by omega)).mpr z))
      rw [sub48_n h48] at hl
      refine lv_iload_n E.1 E.2.1 dX0_takesSomebody_24 rfl (lv_at hl 0 rfl) ?_
      refine lv_iload_n E.1 E.2.1 dX0_takesSomebody_25 rfl (lv_at hl 1 rfl) ?_
      refine lv_icmp_leN (tgt := 31) E.1 E.2.1 (by omega) (by omega) dX0_takesSomebody_26 (by decide) (fun c26 => ?_) (fun c26 => ?_)
      · skip
        refine lv_aload_n E.1 E.2.1 dX0_takesSomebody_31 rfl (lv_at hl 2 rfl) ?_
        refine lv_iload_n E.1 E.2.1 dX0_takesSomebody_32 rfl (lv_at hl 0 rfl) ?_
        refine pX0_2 E hw mw_27_17 dX0_takesSomebody_33 (fun H locs hw => ?_)
        replace hw : HB G AA sS.heap (oW q (rvO (e, lt, nI (c - 48), w))) H locs := HB.eq hw (rfl)
        refine lv_aload_n E.1 E.2.1 dX0_takesSomebody_36 rfl (lv_at hl 2 rfl) ?_
        refine lv_aload_n E.1 E.2.1 dX0_takesSomebody_37 rfl (lv_at hl 2 rfl) ?_
        refine gX0_1 E hw mw_27_22 dX0_takesSomebody_38 ?_
        refine lv_eqi (y := nI (lt)) (rfl) ?_
        refine lv_bipush (v := nI 119) E.1 E.2.1 dX0_takesSomebody_41 (by decide) ?_
        refine lv_icmp_neN (tgt := 50) E.1 E.2.1 (by omega) (by omega) dX0_takesSomebody_43 (by decide) (fun c43 => ?_) (fun c43 => ?_)
        · skip
          refine lv_iconst (v := nI 5) E.1 E.2.1 dX0_takesSomebody_50 (by decide) ?_
          refine pX0_0 E hw mw_27_4 dX0_takesSomebody_51 (fun H locs hw => ?_)
          replace hw : HB G AA sS.heap (oW q (rvO (5, lt, nI (c - 48), w))) H locs := HB.eq hw (rfl)
          refine lv_iconst (v := nI 1) E.1 E.2.1 dX0_takesSomebody_54 (by decide) ?_
          exact rZ E hr hlk (HB.eq hw (by rw [show (tkS (e, lt, v, w) c) = _ from tkS_0 c6 (by omega)]; rfl)) (by rw [show (tkS (e, lt, v, w) c) = _ from tkS_0 c6 (by omega)]; rfl) rfl dX0_takesSomebody_55
        · exact absurd c43 c6
      · skip
        refine lv_iconst (v := nI 0) E.1 E.2.1 dX0_takesSomebody_29 (by decide) ?_
        exact rZ E hr hlk (HB.eq hw (by rw [show (tkS (e, lt, v, w) c) = _ from tkS_no (by rw [if_neg c6]; omega)]; rfl)) (by rw [show (tkS (e, lt, v, w) c) = _ from tkS_no (by rw [if_neg c6]; omega)]; rfl) rfl dX0_takesSomebody_30
  · skip
    refine lv_iconst (v := nI 3) E.1 E.2.1 dX0_takesSomebody_9 (by decide) ?_
    refine lv_goto (tgt := 14) E.1 E.2.1 dX0_takesSomebody_10 (by decide) ?_
    refine lv_istore_n (lv' := [(2, .int (nI (3))), (0, .ref (q)), (1, .int (nI (c)))]) E.1 E.2.1 dX0_takesSomebody_14 rfl hl (by decide) rfl (fun ls hl => ?_)
    refine lv_iload_n E.1 E.2.1 dX0_takesSomebody_15 rfl (lv_at hl 2 rfl) ?_
    refine lv_bipush (v := nI 48) E.1 E.2.1 dX0_takesSomebody_16 (by decide) ?_
    refine lv_isub E.1 E.2.1 dX0_takesSomebody_18 ?_
    refine lv_eqi (y := nI c - nI 48) (rfl) ?_
    refine lv_istore_n (lv' := [(3, .int (nI c - nI 48)), (2, .int (nI (3))), (0, .ref (q)), (1, .int (nI (c)))]) E.1 E.2.1 dX0_takesSomebody_19 rfl hl (by decide) rfl (fun ls hl => ?_)
    refine lv_iload_n E.1 E.2.1 dX0_takesSomebody_20 rfl (lv_at hl 0 rfl) ?_
    refine lv_if_lt (tgt := 29) E.1 E.2.1 dX0_takesSomebody_21 (by decide) (fun c21 => ?_) (fun c21 => ?_)
    · skip
      have h48 : c < 48 := (sub48_lt (by omega)).mp c21
      refine lv_iconst (v := nI 0) E.1 E.2.1 dX0_takesSomebody_29 (by decide) ?_
      exact rZ E hr hlk (HB.eq hw (by rw [show (tkS (e, lt, v, w) c) = _ from tkS_no (by rw [if_pos c6]; omega)]; rfl)) (by rw [show (tkS (e, lt, v, w) c) = _ from tkS_no (by rw [if_pos c6]; omega)]; rfl) rfl dX0_takesSomebody_30
    · skip
      have h48 : 48 ≤ c := Nat.le_of_not_lt (fun z => c21 ((sub48_lt (by omega)).mpr z))
      rw [sub48_n h48] at hl
      refine lv_iload_n E.1 E.2.1 dX0_takesSomebody_24 rfl (lv_at hl 0 rfl) ?_
      refine lv_iload_n E.1 E.2.1 dX0_takesSomebody_25 rfl (lv_at hl 1 rfl) ?_
      refine lv_icmp_leN (tgt := 31) E.1 E.2.1 (by omega) (by omega) dX0_takesSomebody_26 (by decide) (fun c26 => ?_) (fun c26 => ?_)
      · skip
        refine lv_aload_n E.1 E.2.1 dX0_takesSomebody_31 rfl (lv_at hl 2 rfl) ?_
        refine lv_iload_n E.1 E.2.1 dX0_takesSomebody_32 rfl (lv_at hl 0 rfl) ?_
        refine pX0_2 E hw mw_27_17 dX0_takesSomebody_33 (fun H locs hw => ?_)
        replace hw : HB G AA sS.heap (oW q (rvO (e, lt, nI (c - 48), w))) H locs := HB.eq hw (rfl)
        refine lv_aload_n E.1 E.2.1 dX0_takesSomebody_36 rfl (lv_at hl 2 rfl) ?_
        refine lv_aload_n E.1 E.2.1 dX0_takesSomebody_37 rfl (lv_at hl 2 rfl) ?_
        refine gX0_1 E hw mw_27_22 dX0_takesSomebody_38 ?_
        refine lv_eqi (y := nI (lt)) (rfl) ?_
        refine lv_bipush (v := nI 119) E.1 E.2.1 dX0_takesSomebody_41 (by decide) ?_
        refine lv_icmp_neN (tgt := 50) E.1 E.2.1 (by omega) (by omega) dX0_takesSomebody_43 (by decide) (fun c43 => ?_) (fun c43 => ?_)
        · exact absurd c6 c43
        · skip
          refine lv_iconst (v := nI 4) E.1 E.2.1 dX0_takesSomebody_46 (by decide) ?_
          refine lv_goto (tgt := 51) E.1 E.2.1 dX0_takesSomebody_47 (by decide) ?_
          refine pX0_0 E hw mw_27_4 dX0_takesSomebody_51 (fun H locs hw => ?_)
          replace hw : HB G AA sS.heap (oW q (rvO (4, lt, nI (c - 48), w))) H locs := HB.eq hw (rfl)
          refine lv_iconst (v := nI 1) E.1 E.2.1 dX0_takesSomebody_54 (by decide) ?_
          exact rZ E hr hlk (HB.eq hw (by rw [show (tkS (e, lt, v, w) c) = _ from tkS_1 c6 (by omega)]; rfl)) (by rw [show (tkS (e, lt, v, w) c) = _ from tkS_1 c6 (by omega)]; rfl) rfl dX0_takesSomebody_55
      · skip
        refine lv_iconst (v := nI 0) E.1 E.2.1 dX0_takesSomebody_29 (by decide) ?_
        exact rZ E hr hlk (HB.eq hw (by rw [show (tkS (e, lt, v, w) c) = _ from tkS_no (by rw [if_pos c6]; omega)]; rfl)) (by rw [show (tkS (e, lt, v, w) c) = _ from tkS_no (by rw [if_pos c6]; omega)]; rfl) rfl dX0_takesSomebody_30
theorem YX0_takesSign : YV yX0_takesSign RX0 cX0_takesSign 2 (some .boolean) 1 := ⟨mw_28_12, mw_28_13, mw_2_0, mw_28_14, by decide +kernel⟩
set_option maxHeartbeats 4000000 in
set_option maxRecDepth 100000 in
theorem c_X0_takesSign (l : Launch) (G : GP) (q : Nat) (e lt : Nat) (v : Int32) (w : Nat) (he : e < 6) (hlt : lt < 127) (c : Nat) (hc : c < 127) : MI l yX0_takesSign (.code yX0_takesSign cX0_takesSign 2 (some .boolean) :: GW) ({ frames := 0, cells := 0, slots := 0, locals := 0 }) [.ref (q), .int (nI (c))] G ES (oW q (rvO (e, lt, v, w))) (oW q (rvO ((tkW (e, lt, v, w) c).getD (e, lt, v, w)))) (zb ((tkW (e, lt, v, w) c).isSome = true)) := by
  refine MI.of (own := RX0) rfl rfl (Nat.le_of_ble_eq_true rfl) ?_
  intro pP eE sS mM below meth cC ls AA E hw hl hr hlk hE
  replace hl : lv_has ls 2 [(0, .ref (q)), (1, .int (nI (c)))] := hl
  refine lv_iload_n E.1 E.2.1 dX0_takesSign_0 rfl (lv_at hl 1 rfl) ?_
  refine lv_bipush (v := nI 43) E.1 E.2.1 dX0_takesSign_1 (by decide) ?_
  refine lv_icmp_eqN (tgt := 14) E.1 E.2.1 (by omega) (by omega) dX0_takesSign_3 (by decide) (fun c3 => ?_) (fun c3 => ?_)
  · skip
    refine lv_aload_n E.1 E.2.1 dX0_takesSign_14 rfl (lv_at hl 0 rfl) ?_
    refine lv_iload_n E.1 E.2.1 dX0_takesSign_15 rfl (lv_at hl 1 rfl) ?_
    refine lv_bipush (v := nI 43) E.1 E.2.1 dX0_takesSign_16 (by decide) ?_
    refine lv_icmp_neN (tgt := 25) E.1 E.2.1 (by omega) (by omega) dX0_takesSign_18 (by decide) (fun c18 => ?_) (fun c18 => ?_)
    · skip
      refine lv_iconst (v := nI 0) E.1 E.2.1 dX0_takesSign_25 (by decide) ?_
      refine pX0_3 E hw mw_28_15 dX0_takesSign_26 (fun H locs hw => ?_)
      replace hw : HB G AA sS.heap (oW q (rvO (e, lt, v, 0))) H locs := HB.eq hw (rfl)
      refine lv_aload_n E.1 E.2.1 dX0_takesSign_29 rfl (lv_at hl 0 rfl) ?_
      refine lv_iconst (v := nI 5) E.1 E.2.1 dX0_takesSign_30 (by decide) ?_
      refine pX0_0 E hw mw_27_4 dX0_takesSign_31 (fun H locs hw => ?_)
      replace hw : HB G AA sS.heap (oW q (rvO (5, lt, v, 0))) H locs := HB.eq hw (rfl)
      refine lv_iconst (v := nI 1) E.1 E.2.1 dX0_takesSign_34 (by decide) ?_
      exact rZ E hr hlk (HB.eq hw (by rw [show (tkW (e, lt, v, w) c) = _ from (if_neg c18).trans (if_pos (by omega))]; rfl)) (by rw [show (tkW (e, lt, v, w) c) = _ from (if_neg c18).trans (if_pos (by omega))]; rfl) rfl dX0_takesSign_35
    · skip
      refine lv_iconst (v := nI 1) E.1 E.2.1 dX0_takesSign_21 (by decide) ?_
      refine lv_goto (tgt := 26) E.1 E.2.1 dX0_takesSign_22 (by decide) ?_
      refine pX0_3 E hw mw_28_15 dX0_takesSign_26 (fun H locs hw => ?_)
      replace hw : HB G AA sS.heap (oW q (rvO (e, lt, v, 1))) H locs := HB.eq hw (rfl)
      refine lv_aload_n E.1 E.2.1 dX0_takesSign_29 rfl (lv_at hl 0 rfl) ?_
      refine lv_iconst (v := nI 5) E.1 E.2.1 dX0_takesSign_30 (by decide) ?_
      refine pX0_0 E hw mw_27_4 dX0_takesSign_31 (fun H locs hw => ?_)
      replace hw : HB G AA sS.heap (oW q (rvO (5, lt, v, 1))) H locs := HB.eq hw (rfl)
      refine lv_iconst (v := nI 1) E.1 E.2.1 dX0_takesSign_34 (by decide) ?_
      exact rZ E hr hlk (HB.eq hw (by rw [show (tkW (e, lt, v, w) c) = _ from if_pos c18]; rfl)) (by rw [show (tkW (e, lt, v, w) c) = _ from if_pos c18]; rfl) rfl dX0_takesSign_35
  · skip
    refine lv_iload_n E.1 E.2.1 dX0_takesSign_6 rfl (lv_at hl 1 rfl) ?_
    refine lv_bipush (v := nI 45) E.1 E.2.1 dX0_takesSign_7 (by decide) ?_
    refine lv_icmp_eqN (tgt := 14) E.1 E.2.1 (by omega) (by omega) dX0_takesSign_9 (by decide) (fun c9 => ?_) (fun c9 => ?_)
    · skip
      refine lv_aload_n E.1 E.2.1 dX0_takesSign_14 rfl (lv_at hl 0 rfl) ?_
      refine lv_iload_n E.1 E.2.1 dX0_takesSign_15 rfl (lv_at hl 1 rfl) ?_
      refine lv_bipush (v := nI 43) E.1 E.2.1 dX0_takesSign_16 (by decide) ?_
      refine lv_icmp_neN (tgt := 25) E.1 E.2.1 (by omega) (by omega) dX0_takesSign_18 (by decide) (fun c18 => ?_) (fun c18 => ?_)
      · skip
        refine lv_iconst (v := nI 0) E.1 E.2.1 dX0_takesSign_25 (by decide) ?_
        refine pX0_3 E hw mw_28_15 dX0_takesSign_26 (fun H locs hw => ?_)
        replace hw : HB G AA sS.heap (oW q (rvO (e, lt, v, 0))) H locs := HB.eq hw (rfl)
        refine lv_aload_n E.1 E.2.1 dX0_takesSign_29 rfl (lv_at hl 0 rfl) ?_
        refine lv_iconst (v := nI 5) E.1 E.2.1 dX0_takesSign_30 (by decide) ?_
        refine pX0_0 E hw mw_27_4 dX0_takesSign_31 (fun H locs hw => ?_)
        replace hw : HB G AA sS.heap (oW q (rvO (5, lt, v, 0))) H locs := HB.eq hw (rfl)
        refine lv_iconst (v := nI 1) E.1 E.2.1 dX0_takesSign_34 (by decide) ?_
        exact rZ E hr hlk (HB.eq hw (by rw [show (tkW (e, lt, v, w) c) = _ from (if_neg c18).trans (if_pos (by omega))]; rfl)) (by rw [show (tkW (e, lt, v, w) c) = _ from (if_neg c18).trans (if_pos (by omega))]; rfl) rfl dX0_takesSign_35
      · skip
        refine lv_iconst (v := nI 1) E.1 E.2.1 dX0_takesSign_21 (by decide) ?_
        refine lv_goto (tgt := 26) E.1 E.2.1 dX0_takesSign_22 (by decide) ?_
        refine pX0_3 E hw mw_28_15 dX0_takesSign_26 (fun H locs hw => ?_)
        replace hw : HB G AA sS.heap (oW q (rvO (e, lt, v, 1))) H locs := HB.eq hw (rfl)
        refine lv_aload_n E.1 E.2.1 dX0_takesSign_29 rfl (lv_at hl 0 rfl) ?_
        refine lv_iconst (v := nI 5) E.1 E.2.1 dX0_takesSign_30 (by decide) ?_
        refine pX0_0 E hw mw_27_4 dX0_takesSign_31 (fun H locs hw => ?_)
        replace hw : HB G AA sS.heap (oW q (rvO (5, lt, v, 1))) H locs := HB.eq hw (rfl)
        refine lv_iconst (v := nI 1) E.1 E.2.1 dX0_takesSign_34 (by decide) ?_
        exact rZ E hr hlk (HB.eq hw (by rw [show (tkW (e, lt, v, w) c) = _ from if_pos c18]; rfl)) (by rw [show (tkW (e, lt, v, w) c) = _ from if_pos c18]; rfl) rfl dX0_takesSign_35
    · skip
      refine lv_iconst (v := nI 0) E.1 E.2.1 dX0_takesSign_12 (by decide) ?_
      exact rZ E hr hlk (HB.eq hw (by rw [show (tkW (e, lt, v, w) c) = _ from (if_neg c3).trans (if_neg c9)]; rfl)) (by rw [show (tkW (e, lt, v, w) c) = _ from (if_neg c3).trans (if_neg c9)]; rfl) rfl dX0_takesSign_13
theorem YX0_takes : YV yX0_takes RX0 cX0_takes 2 (some .boolean) 1 := ⟨mw_27_6, mw_27_7, mw_2_0, mw_27_8, by decide +kernel⟩
set_option maxHeartbeats 4000000 in
set_option maxRecDepth 100000 in
theorem c_X0_takes (l : Launch) (G : GP) (q : Nat) (e lt : Nat) (v : Int32) (w : Nat) (he : e < 6) (hlt : lt < 127) (c : Nat) (hc : c < 127) : MI l yX0_takes (.code yX0_takes cX0_takes 2 (some .boolean) :: GW) ({ frames := 2, cells := 0, slots := 0, locals := 40 }) [.ref (q), .int (nI (c))] G ES (oW q (rvO (e, lt, v, w))) (oW q (rvO ((tk (e, lt, v, w) c).getD (e, lt, v, w)))) (zb ((tk (e, lt, v, w) c).isSome = true)) := by
  refine MI.of (own := RX0) rfl rfl (Nat.le_of_ble_eq_true rfl) ?_
  intro pP eE sS mM below meth cC ls AA E hw hl hr hlk hE
  replace hl : lv_has ls 2 [(0, .ref (q)), (1, .int (nI (c)))] := hl
  refine lv_iload_n E.1 E.2.1 dX0_takes_0 rfl (lv_at hl 1 rfl) ?_
  refine lv_bipush (v := nI 59) E.1 E.2.1 dX0_takes_1 (by decide) ?_
  refine lv_icmp_neN (tgt := 11) E.1 E.2.1 (by omega) (by omega) dX0_takes_3 (by decide) (fun c3 => ?_) (fun c3 => ?_)
  · skip
    refine lv_aload_n E.1 E.2.1 dX0_takes_11 rfl (lv_at hl 0 rfl) ?_
    refine gX0_0 E hw mw_27_4 dX0_takes_12 ?_
    refine lv_eqi (y := nI (e)) (rfl) ?_
    by_cases z15_0 : e = 0
    · refine lv_eqi (y := nI 0) (by rw [z15_0]) ?_
      refine lv_tableIn (tgt := 48) E.1 E.2.1 dX0_takes_15 (by decide) (by decide) rfl (by decide) ?_
      refine lv_aload_n E.1 E.2.1 dX0_takes_48 rfl (lv_at hl 0 rfl) ?_
      refine lv_iload_n E.1 E.2.1 dX0_takes_49 rfl (lv_at hl 1 rfl) ?_
      refine callVI E (c_X0_takesLetter l G q e lt v w he hlt c (by omega)) mw_27_18 YX0_takesLetter ⟨rfl, rfl⟩ ⟨Nat.le_of_ble_eq_true rfl, Nat.le_of_ble_eq_true rfl⟩ ⟨Nat.zero_le _, Nat.zero_le _⟩ hw 0 rfl rfl rfl hl rfl (Nat.le_of_ble_eq_true rfl) dX0_takes_50 (fun H locs hw => ?_)
      exact rZ E hr hlk (HB.eq hw (by rw [show (tk (e, lt, v, w) c) = _ from tk_0 c3 z15_0])) (by rw [show (tk (e, lt, v, w) c) = _ from tk_0 c3 z15_0]) (zb_nar _) dX0_takes_53
    by_cases z15_1 : e = 1
    · refine lv_eqi (y := nI 1) (by rw [z15_1]) ?_
      refine lv_tableIn (tgt := 54) E.1 E.2.1 dX0_takes_15 (by decide) (by decide) rfl (by decide) ?_
      refine lv_aload_n E.1 E.2.1 dX0_takes_54 rfl (lv_at hl 0 rfl) ?_
      refine lv_iload_n E.1 E.2.1 dX0_takes_55 rfl (lv_at hl 1 rfl) ?_
      refine callVI E (c_X0_takesRisingClerk l G q e lt v w he hlt c (by omega)) mw_27_23 YX0_takesRisingClerk ⟨rfl, rfl⟩ ⟨Nat.le_of_ble_eq_true rfl, Nat.le_of_ble_eq_true rfl⟩ ⟨Nat.zero_le _, Nat.zero_le _⟩ hw 0 rfl rfl rfl hl rfl (Nat.le_of_ble_eq_true rfl) dX0_takes_56 (fun H locs hw => ?_)
      exact rZ E hr hlk (HB.eq hw (by rw [show (tk (e, lt, v, w) c) = _ from tk_1 c3 z15_1])) (by rw [show (tk (e, lt, v, w) c) = _ from tk_1 c3 z15_1]) (zb_nar _) dX0_takes_59
    by_cases z15_2 : e = 2
    · refine lv_eqi (y := nI 2) (by rw [z15_2]) ?_
      refine lv_tableIn (tgt := 60) E.1 E.2.1 dX0_takes_15 (by decide) (by decide) rfl (by decide) ?_
      refine lv_aload_n E.1 E.2.1 dX0_takes_60 rfl (lv_at hl 0 rfl) ?_
      refine lv_iload_n E.1 E.2.1 dX0_takes_61 rfl (lv_at hl 1 rfl) ?_
      refine callVI E (c_X0_takesDigit l G q e lt v w he hlt c (by omega)) mw_28_3 YX0_takesDigit ⟨rfl, rfl⟩ ⟨Nat.le_of_ble_eq_true rfl, Nat.le_of_ble_eq_true rfl⟩ ⟨Nat.zero_le _, Nat.zero_le _⟩ hw 0 rfl rfl rfl hl rfl (Nat.le_of_ble_eq_true rfl) dX0_takes_62 (fun H locs hw => ?_)
      exact rZ E hr hlk (HB.eq hw (by rw [show (tk (e, lt, v, w) c) = _ from tk_2 c3 z15_2])) (by rw [show (tk (e, lt, v, w) c) = _ from tk_2 c3 z15_2]) (zb_nar _) dX0_takes_65
    by_cases z15_3 : e = 3
    · refine lv_eqi (y := nI 3) (by rw [z15_3]) ?_
      refine lv_tableIn (tgt := 66) E.1 E.2.1 dX0_takes_15 (by decide) (by decide) rfl (by decide) ?_
      refine lv_aload_n E.1 E.2.1 dX0_takes_66 rfl (lv_at hl 0 rfl) ?_
      refine lv_iload_n E.1 E.2.1 dX0_takes_67 rfl (lv_at hl 1 rfl) ?_
      refine callVI E (c_X0_takesSomebody l G q e lt v w he hlt c (by omega)) mw_28_7 YX0_takesSomebody ⟨rfl, rfl⟩ ⟨Nat.le_of_ble_eq_true rfl, Nat.le_of_ble_eq_true rfl⟩ ⟨Nat.zero_le _, Nat.zero_le _⟩ hw 0 rfl rfl rfl hl rfl (Nat.le_of_ble_eq_true rfl) dX0_takes_68 (fun H locs hw => ?_)
      exact rZ E hr hlk (HB.eq hw (by rw [show (tk (e, lt, v, w) c) = _ from tk_3 c3 z15_3])) (by rw [show (tk (e, lt, v, w) c) = _ from tk_3 c3 z15_3]) (zb_nar _) dX0_takes_71
    by_cases z15_4 : e = 4
    · refine lv_eqi (y := nI 4) (by rw [z15_4]) ?_
      refine lv_tableIn (tgt := 72) E.1 E.2.1 dX0_takes_15 (by decide) (by decide) rfl (by decide) ?_
      refine lv_aload_n E.1 E.2.1 dX0_takes_72 rfl (lv_at hl 0 rfl) ?_
      refine lv_iload_n E.1 E.2.1 dX0_takes_73 rfl (lv_at hl 1 rfl) ?_
      refine callVI E (c_X0_takesSign l G q e lt v w he hlt c (by omega)) mw_28_11 YX0_takesSign ⟨rfl, rfl⟩ ⟨Nat.le_of_ble_eq_true rfl, Nat.le_of_ble_eq_true rfl⟩ ⟨Nat.zero_le _, Nat.zero_le _⟩ hw 0 rfl rfl rfl hl rfl (Nat.le_of_ble_eq_true rfl) dX0_takes_74 (fun H locs hw => ?_)
      exact rZ E hr hlk (HB.eq hw (by rw [show (tk (e, lt, v, w) c) = _ from tk_4 c3 z15_4])) (by rw [show (tk (e, lt, v, w) c) = _ from tk_4 c3 z15_4]) (zb_nar _) dX0_takes_77
    refine lv_tableOutN (tgt := 78) E.1 E.2.1 (by omega) dX0_takes_15 (by omega) (by decide) ?_
    refine lv_iconst (v := nI 0) E.1 E.2.1 dX0_takes_78 (by decide) ?_
    exact rZ E hr hlk (HB.eq hw (by rw [show (tk (e, lt, v, w) c) = _ from (if_neg c3).trans (tk_no (by omega) (by omega) (by omega) (by omega) (by omega))]; rfl)) (by rw [show (tk (e, lt, v, w) c) = _ from (if_neg c3).trans (tk_no (by omega) (by omega) (by omega) (by omega) (by omega))]; rfl) rfl dX0_takes_79
  · skip
    refine lv_aload_n E.1 E.2.1 dX0_takes_6 rfl (lv_at hl 0 rfl) ?_
    refine callVI E (c_X0_takesOrderEnd l G q e lt v w he hlt) mw_27_9 YX0_takesOrderEnd ⟨rfl, rfl⟩ ⟨Nat.le_of_ble_eq_true rfl, Nat.le_of_ble_eq_true rfl⟩ ⟨Nat.zero_le _, Nat.zero_le _⟩ hw 0 rfl rfl rfl hl rfl (Nat.le_of_ble_eq_true rfl) dX0_takes_7 (fun H locs hw => ?_)
    exact rZ E hr hlk (HB.eq hw (by rw [show (tk (e, lt, v, w) c) = _ from if_pos c3])) (by rw [show (tk (e, lt, v, w) c) = _ from if_pos c3]) (zb_nar _) dX0_takes_10

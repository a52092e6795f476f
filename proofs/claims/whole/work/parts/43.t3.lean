theorem c_X4_readOne (l : Launch) (G : GP) (a : Nat → Nat) (N : NS) (x : MX) (C : Nat → Nat) (n : Nat) (hPd : PadM x C n) (r p : Nat) (O : Nat → Int32) (hr : r < 60) (hp : p < 80) : MV l yX4_readOne (.code yX4_readOne cX4_readOne 3 none :: GW) { frames := 4, cells := 0, slots := 0, locals := 110 } [.ref (a 0)] G ES (mN G a N (tX (nI r) (nI p) (nI 0) O x)) (mN G a N (tX (nI (r + 1)) (nI (rdF C n r p O).2.1) (nI (rdF C n r p O).1) (rdF C n r p O).2.2 x)) := by
  by_cases h111 : sg C n p = 111
  · by_cases hd : 48 ≤ sg C n (p + 1) ∧ sg C n (p + 1) ≤ 51
    · have e : rdF C n r p O = (0, (cmu C n 4 (p + 2) (sg C n (p + 1) - 48) (2 ^ (sg C n (p + 1) - 48))).1, upd (upd (O) (3 * r) (nI 111)) (3 * r + 1) (nI (cmu C n 4 (p + 2) (sg C n (p + 1) - 48) (2 ^ (sg C n (p + 1) - 48))).2)) := by simp only [rdF, h111, reduceIte, Nat.reduceEqDiff, or_true, true_or, or_false, false_or, or_self, hd, and_self]
      rw [e]
      exact c_X4_readOne_o l G a N x C n hPd r p O hr hp h111 hd
    · have e : rdF C n r p O = (1, p + 1, upd (upd (O) (3 * r) (nI 111)) (3 * r + 1) (nI 0)) := by simp only [rdF, h111, reduceIte, Nat.reduceEqDiff, or_true, true_or, or_false, false_or, or_self, hd]
      rw [e]
      exact c_X4_readOne_ob l G a N x C n hPd r p O hr hp h111 hd
  · skip
    by_cases h100 : sg C n p = 100
    · by_cases hd : 48 ≤ sg C n (p + 1) ∧ sg C n (p + 1) ≤ 57
      · have e : rdF C n r p O = (0, n2p C n (p + 2) (sg C n (p + 1) - 48), upd (upd (O) (3 * r) (nI 100)) (3 * r + 1) (nI (n2v C n (p + 2) (sg C n (p + 1) - 48)))) := by simp only [rdF, h100, reduceIte, Nat.reduceEqDiff, or_true, true_or, or_false, false_or, or_self, hd, and_self]
        rw [e]
        exact c_X4_readOne_n100 l G a N x C n hPd r p O hr hp h100 hd
      · have e : rdF C n r p O = (1, p + 1, upd (upd (O) (3 * r) (nI 100)) (3 * r + 1) (nI (sg C n (p + 1)) - nI 48)) := by simp only [rdF, h100, reduceIte, Nat.reduceEqDiff, or_true, true_or, or_false, false_or, or_self, hd]
        rw [e]
        exact c_X4_readOne_nb100 l G a N x C n hPd r p O hr hp h100 hd
    · skip
      by_cases h108 : sg C n p = 108
      · by_cases hd : 48 ≤ sg C n (p + 1) ∧ sg C n (p + 1) ≤ 57
        · have e : rdF C n r p O = (0, n2p C n (p + 2) (sg C n (p + 1) - 48), upd (upd (O) (3 * r) (nI 108)) (3 * r + 1) (nI (n2v C n (p + 2) (sg C n (p + 1) - 48)))) := by simp only [rdF, h108, reduceIte, Nat.reduceEqDiff, or_true, true_or, or_false, false_or, or_self, hd, and_self]
          rw [e]
          exact c_X4_readOne_n108 l G a N x C n hPd r p O hr hp h108 hd
        · have e : rdF C n r p O = (1, p + 1, upd (upd (O) (3 * r) (nI 108)) (3 * r + 1) (nI (sg C n (p + 1)) - nI 48)) := by simp only [rdF, h108, reduceIte, Nat.reduceEqDiff, or_true, true_or, or_false, false_or, or_self, hd]
          rw [e]
          exact c_X4_readOne_nb108 l G a N x C n hPd r p O hr hp h108 hd
      · skip
        by_cases h116 : sg C n p = 116
        · by_cases hd : 48 ≤ sg C n (p + 1) ∧ sg C n (p + 1) ≤ 57
          · have e : rdF C n r p O = (0, n2p C n (p + 2) (sg C n (p + 1) - 48), upd (upd (O) (3 * r) (nI 116)) (3 * r + 1) (nI (n2v C n (p + 2) (sg C n (p + 1) - 48)))) := by simp only [rdF, h116, reduceIte, Nat.reduceEqDiff, or_true, true_or, or_false, false_or, or_self, hd, and_self]
            rw [e]
            exact c_X4_readOne_n116 l G a N x C n hPd r p O hr hp h116 hd
          · have e : rdF C n r p O = (1, p + 1, upd (upd (O) (3 * r) (nI 116)) (3 * r + 1) (nI (sg C n (p + 1)) - nI 48)) := by simp only [rdF, h116, reduceIte, Nat.reduceEqDiff, or_true, true_or, or_false, false_or, or_self, hd]
            rw [e]
            exact c_X4_readOne_nb116 l G a N x C n hPd r p O hr hp h116 hd
        · skip
          by_cases h114 : sg C n p = 114
          · by_cases hd : 48 ≤ sg C n (p + 1) ∧ sg C n (p + 1) ≤ 52
            · have e : rdF C n r p O = (0, p + 2, upd (upd (O) (3 * r) (nI 114)) (3 * r + 1) (nI (sg C n (p + 1) - 48))) := by simp only [rdF, h114, reduceIte, Nat.reduceEqDiff, or_true, true_or, or_false, false_or, or_self, hd, and_self]
              rw [e]
              exact c_X4_readOne_s114 l G a N x C n hPd r p O hr hp h114 hd
            · have e : rdF C n r p O = (1, p + 1, upd (upd (O) (3 * r) (nI 114)) (3 * r + 1) (nI (sg C n (p + 1)) - nI 48)) := by simp only [rdF, h114, reduceIte, Nat.reduceEqDiff, or_true, true_or, or_false, false_or, or_self, hd]
              rw [e]
              exact c_X4_readOne_sb114 l G a N x C n hPd r p O hr hp h114 hd
          · skip
            by_cases h120 : sg C n p = 120
            · by_cases hd : 48 ≤ sg C n (p + 1) ∧ sg C n (p + 1) ≤ 52
              · have e : rdF C n r p O = (0, p + 2, upd (upd (O) (3 * r) (nI 120)) (3 * r + 1) (nI (sg C n (p + 1) - 48))) := by simp only [rdF, h120, reduceIte, Nat.reduceEqDiff, or_true, true_or, or_false, false_or, or_self, hd, and_self]
                rw [e]
                exact c_X4_readOne_s120 l G a N x C n hPd r p O hr hp h120 hd
              · have e : rdF C n r p O = (1, p + 1, upd (upd (O) (3 * r) (nI 120)) (3 * r + 1) (nI (sg C n (p + 1)) - nI 48)) := by simp only [rdF, h120, reduceIte, Nat.reduceEqDiff, or_true, true_or, or_false, false_or, or_self, hd]
                rw [e]
                exact c_X4_readOne_sb120 l G a N x C n hPd r p O hr hp h120 hd
            · skip
              by_cases h119 : sg C n p = 119
              · by_cases hd : 48 ≤ sg C n (p + 1) ∧ sg C n (p + 1) ≤ 51
                · by_cases h43 : sg C n (p + 2) = 43
                  · have e : rdF C n r p O = (0, p + 3, upd (upd (upd (O) (3 * r) (nI 119)) (3 * r + 1) (nI (sg C n (p + 1) - 48))) (3 * r + 2) (nI 1)) := by simp only [rdF, h119, reduceIte, Nat.reduceEqDiff, or_true, true_or, or_false, false_or, or_self, hd, h43, and_self]
                    rw [e]
                    exact c_X4_readOne_wy l G a N x C n hPd r p O hr hp h119 hd h43
                  · by_cases h45 : sg C n (p + 2) = 45
                    · have e : rdF C n r p O = (0, p + 3, upd (upd (upd (O) (3 * r) (nI 119)) (3 * r + 1) (nI (sg C n (p + 1) - 48))) (3 * r + 2) (nI 0)) := by simp only [rdF, h119, reduceIte, Nat.reduceEqDiff, or_true, true_or, or_false, false_or, or_self, hd, h45, and_self]
                      rw [e]
                      exact c_X4_readOne_wn l G a N x C n hPd r p O hr hp h119 hd h45
                    · have e : rdF C n r p O = (1, p + 2, upd (upd (upd (O) (3 * r) (nI 119)) (3 * r + 1) (nI (sg C n (p + 1) - 48))) (3 * r + 2) (nI 0)) := by simp only [rdF, h119, reduceIte, Nat.reduceEqDiff, or_true, true_or, or_false, false_or, or_self, hd, h43, h45, and_self]
                      rw [e]
                      exact c_X4_readOne_wx l G a N x C n hPd r p O hr hp h119 hd ⟨h43, h45⟩
                · have e : rdF C n r p O = (1, p + 1, upd (upd (upd (O) (3 * r) (nI 119)) (3 * r + 1) (nI (sg C n (p + 1)) - nI 48)) (3 * r + 2) (nI 0)) := by simp only [rdF, h119, reduceIte, Nat.reduceEqDiff, or_true, true_or, or_false, false_or, or_self, hd]
                  rw [e]
                  exact c_X4_readOne_wb l G a N x C n hPd r p O hr hp h119 hd
              · skip
                have e : rdF C n r p O = (1, p, upd O (3 * r) (nI (sg C n p))) := by simp only [rdF, h111, h100, h108, h116, h114, h120, h119, reduceIte, or_self]
                rw [e]
                exact c_X4_readOne_x l G a N x C n hPd r p O hr hp ⟨h111, h100, h108, h116, h114, h120, h119⟩
theorem rd_le {C : Nat → Nat} {n r p : Nat} {O : Nat → Int32} (hC : ∀ i, sg C n i ≠ 0 → i < n) (h : p ≤ n) : (rdF C n r p O).1 ≤ 1 ∧ p ≤ (rdF C n r p O).2.1 ∧ (rdF C n r p O).2.1 ≤ n ∧ ((rdF C n r p O).1 = 0 → p + 2 ≤ (rdF C n r p O).2.1) := by
  have s0 := hC p
  have s1 := hC (p + 1)
  have s2 := hC (p + 2)
  have hc : ∀ f q k S, q ≤ n → q ≤ (cmu C n f q k S).1 ∧ (cmu C n f q k S).1 ≤ n := by
    intro f
    induction f with
    | zero => intro q k S hq; exact ⟨Nat.le_refl _, hq⟩
    | succ f ih =>
      intro q k S hq
      rw [cmu]
      by_cases z : k + 1 + 48 ≤ sg C n q ∧ sg C n q ≤ 3 + 48
      · rw [if_pos z]
        have s3 := hC q (by omega)
        have := ih (q + 1) (sg C n q - 48) (S ||| 2 ^ (sg C n q - 48)) (by omega)
        omega
      · rw [if_neg z]; exact ⟨Nat.le_refl _, hq⟩
  unfold rdF
  by_cases h1 : sg C n p = 111
  · simp only [h1, reduceIte]
    by_cases hd : 48 ≤ sg C n (p + 1) ∧ sg C n (p + 1) ≤ 51
    · have := hc 4 (p + 2) (sg C n (p + 1) - 48) (2 ^ (sg C n (p + 1) - 48)) (by omega)
      simp only [hd, and_self, reduceIte]; omega
    · simp only [hd, reduceIte]; omega
  · simp only [h1, reduceIte]
    by_cases h2 : sg C n p = 100 ∨ sg C n p = 108 ∨ sg C n p = 116
    · simp only [h2, reduceIte]
      by_cases hd : 48 ≤ sg C n (p + 1) ∧ sg C n (p + 1) ≤ 57
      · simp only [hd, and_self, reduceIte, n2p]
        by_cases z : n2c C n (p + 2) (sg C n (p + 1) - 48)
        · rw [if_pos z]; have := s2 (by have := z.2.1; omega); omega
        · rw [if_neg z]; omega
      · simp only [hd, reduceIte]; omega
    · simp only [h2, reduceIte]
      by_cases h3 : sg C n p = 114 ∨ sg C n p = 120
      · simp only [h3, reduceIte]
        by_cases hd : 48 ≤ sg C n (p + 1) ∧ sg C n (p + 1) ≤ 52
        · simp only [hd, and_self, reduceIte]; omega
        · simp only [hd, reduceIte]; omega
      · simp only [h3, reduceIte]
        by_cases h4 : sg C n p = 119
        · simp only [h4, reduceIte]
          by_cases hd : 48 ≤ sg C n (p + 1) ∧ sg C n (p + 1) ≤ 51
          · simp only [hd, and_self, reduceIte]
            by_cases h5 : sg C n (p + 2) = 43
            · simp only [h5, reduceIte]; omega
            · simp only [h5, reduceIte]
              by_cases h6 : sg C n (p + 2) = 45
              · simp only [h6, reduceIte]; omega
              · simp only [h6, reduceIte]; omega
          · simp only [hd, reduceIte]; omega
        · simp only [h4, reduceIte]; omega
theorem fR_w {C : Nat → Nat} {n : Nat} {q : FQ} (h : ¬ (q.2.2.1 = 0 ∧ q.2.1 < n)) : ∀ k, fR C n k q = q
  | 0 => rfl
  | k + 1 => if_neg h
theorem YX4_faultOf : YV yX4_faultOf RX4 cX4_faultOf 1 (some .int) 0 := ⟨mw_28_22, mw_28_23, mw_1_5, mw_29_0, by decide +kernel⟩
set_option maxHeartbeats 4000000 in
set_option maxRecDepth 100000 in
theorem c_X4_faultOf (l : Launch) (G : GP) (a : Nat → Nat) (N : NS) (x : MX) (C : Nat → Nat) (n : Nat) (hPd : PadM x C n) (r p w : Int32) (O : Nat → Int32) : MI l yX4_faultOf (.code yX4_faultOf cX4_faultOf 1 (some .int) :: GW) ({ frames := 6, cells := 0, slots := 0, locals := 150 }) [.ref (a 0)] G ES (mN G a (N) (tX (r) (p) (w) (O) x)) (mN G a (N) (tX (nI ((fF C n O).1)) (nI ((fF C n O).2.1)) (nI ((fF C n O).2.2.1)) ((fF C n O).2.2.2) x)) ((if (fF C n O).2.2.1 = 0 then -6 else nI (fF C n O).2.1)) := by
  refine MI.of (own := RX4) rfl rfl (Nat.le_of_ble_eq_true rfl) ?_
  intro pP eE sS mM below meth cC ls AA E hw hl hr hlk hE
  replace hl : lv_has ls 1 [(0, .ref (a 0))] := hl
  have hn6 := hPd.2.1
  have hsl := fun i => hPd.lt i
  have hC0 : ∀ i, sg C n i ≠ 0 → i < n := fun i z => ((hsl i).2 z).1
  refine lv_aload_n E.1 E.2.1 dX4_faultOf_0 rfl (lv_at hl 0 rfl) ?_
  refine lv_iconst (v := nI 0) E.1 E.2.1 dX4_faultOf_1 (by decide) ?_
  refine pX4_11 E hw mw_29_1 dX4_faultOf_2 (fun H locs hw => ?_)
  replace hw : HB G AA sS.heap (mN G a (N) (tX (r) (nI (0)) (w) (O) x)) H locs := HB.eq hw (by rw [tX_4])
  refine lv_aload_n E.1 E.2.1 dX4_faultOf_5 rfl (lv_at hl 0 rfl) ?_
  refine lv_iconst (v := nI 0) E.1 E.2.1 dX4_faultOf_6 (by decide) ?_
  refine pX4_10 E hw mw_29_2 dX4_faultOf_7 (fun H locs hw => ?_)
  replace hw : HB G AA sS.heap (mN G a (N) (tX (nI (0)) (nI (0)) (w) (O) x)) H locs := HB.eq hw (by rw [tX_3])
  refine lv_aload_n E.1 E.2.1 dX4_faultOf_10 rfl (lv_at hl 0 rfl) ?_
  refine lv_iconst (v := nI 0) E.1 E.2.1 dX4_faultOf_11 (by decide) ?_
  refine pX4_12 E hw mw_29_3 rfl rfl dX4_faultOf_12 (fun H locs hw => ?_)
  replace hw : HB G AA sS.heap (mN G a (N) (tX (nI (0)) (nI (0)) (nI (0)) (O) x)) H locs := HB.eq hw (by rw [tX_5])
  refine lv_aload_n E.1 E.2.1 dX4_faultOf_15 rfl (lv_at hl 0 rfl) ?_
  refine callVV E (c_X4_readOne l G a N x C n hPd (0) (0) (O) (by omega) (by omega)) mw_29_4 YX4_readOne ⟨rfl, rfl⟩ ⟨Nat.le_of_ble_eq_true rfl, Nat.le_of_ble_eq_true rfl⟩ ⟨Nat.zero_le _, Nat.zero_le _⟩ hw 0 rfl rfl rfl hl rfl (Nat.le_of_ble_eq_true rfl) dX4_faultOf_16 (fun H locs hw => ?_)
  have hr0 := rd_le (r := 0) (O := O) hC0 (Nat.zero_le n)
  refine W_ind2 (nL := 1) (P := fun f q => fR C n f q = fF C n O ∧ q.2.2.1 ≤ 1 ∧ q.2.1 ≤ n ∧ q.1 ≤ 61 ∧ (q.2.2.1 = 0 → q.1 ≤ q.2.1 ∧ n < q.2.1 + f)) (μ := fun f q => f) (I := fun f q => mN G a (N) (tX (nI (q.1)) (nI (q.2.1)) (nI (q.2.2.1)) (q.2.2.2) x)) (L := fun f q => [(0, .ref (a 0))]) ?_ (61) ((1, (rdF C n 0 0 O).2.1, (rdF C n 0 0 O).1, (rdF C n 0 0 O).2.2)) (⟨rfl, hr0.1, hr0.2.2.1, (by decide : 1 ≤ 61), fun z => ⟨by have := hr0.2.2.2 z; show 1 ≤ (rdF C n 0 0 O).2.1; omega, by show n < (rdF C n 0 0 O).2.1 + 61; omega⟩⟩) (HB.eq hw (rfl)) (lvh_eq (l := [(0, .ref (a 0))]) (lv_sub hl [0] rfl) (rfl))
  intro f q hP ih H locs ls hw hl
  replace hw : HB G AA sS.heap (mN G a (N) (tX (nI (q.1)) (nI (q.2.1)) (nI (q.2.2.1)) (q.2.2.2) x)) H locs := hw
  replace hl : lv_has ls 1 [(0, .ref (a 0))] := hl
  obtain ⟨hP1, hP2, hP3, hP4, hP5⟩ := hP
  refine lv_aload_n E.1 E.2.1 dX4_faultOf_19 rfl (lv_at hl 0 rfl) ?_
  refine gX4_12 E hw mw_29_3 dX4_faultOf_20 ?_
  refine lv_eqi (y := nI (q.2.2.1)) (rfl) ?_
  refine lv_if_neN (tgt := 79) E.1 E.2.1 (by omega) dX4_faultOf_23 (by decide) (fun c23 => ?_) (fun c23 => ?_)
  · skip
    have hq : fF C n O = q := by rw [← hP1]; exact fR_w (by omega) f
    refine lv_aload_n E.1 E.2.1 dX4_faultOf_79 rfl (lv_at hl 0 rfl) ?_
    refine gX4_12 E hw mw_29_3 dX4_faultOf_80 ?_
    refine lv_eqi (y := nI (q.2.2.1)) (rfl) ?_
    refine lv_if_eqN (tgt := 93) E.1 E.2.1 (by omega) dX4_faultOf_83 (by decide) (fun c83 => ?_) (fun c83 => ?_)
    · skip
      refine lv_bipush (v := -6) E.1 E.2.1 dX4_faultOf_93 (by decide) ?_
      exact rI E hr hlk (HB.eq hw (by rw [hq])) (by rw [hq]; exact (if_pos c83).symm) dX4_faultOf_95
    · skip
      refine lv_aload_n E.1 E.2.1 dX4_faultOf_86 rfl (lv_at hl 0 rfl) ?_
      refine gX4_11 E hw mw_29_1 dX4_faultOf_87 ?_
      refine lv_eqi (y := nI (q.2.1)) (rfl) ?_
      refine lv_goto (tgt := 95) E.1 E.2.1 dX4_faultOf_90 (by decide) ?_
      exact rI E hr hlk (HB.eq hw (by rw [hq])) (by rw [hq]; exact (if_neg c83).symm) dX4_faultOf_95
  · skip
    refine lv_aload_n E.1 E.2.1 dX4_faultOf_26 rfl (lv_at hl 0 rfl) ?_
    refine gX4_11 E hw mw_29_1 dX4_faultOf_27 ?_
    refine lv_eqi (y := nI (q.2.1)) (rfl) ?_
    refine lv_aload_n E.1 E.2.1 dX4_faultOf_30 rfl (lv_at hl 0 rfl) ?_
    refine gX4_7 E hw mw_21_19 dX4_faultOf_31 ?_
    refine lv_eqi (y := nI (n)) (hPd.1) ?_
    refine lv_icmp_geN (tgt := 79) E.1 E.2.1 (by omega) (by omega) dX4_faultOf_34 (by decide) (fun c34 => ?_) (fun c34 => ?_)
    · skip
      have hq : fF C n O = q := by rw [← hP1]; exact fR_w (by omega) f
      refine lv_aload_n E.1 E.2.1 dX4_faultOf_79 rfl (lv_at hl 0 rfl) ?_
      refine gX4_12 E hw mw_29_3 dX4_faultOf_80 ?_
      refine lv_eqi (y := nI (q.2.2.1)) (rfl) ?_
      refine lv_if_eqN (tgt := 93) E.1 E.2.1 (by omega) dX4_faultOf_83 (by decide) (fun c83 => ?_) (fun c83 => ?_)
      · skip
        refine lv_bipush (v := -6) E.1 E.2.1 dX4_faultOf_93 (by decide) ?_
        exact rI E hr hlk (HB.eq hw (by rw [hq])) (by rw [hq]; exact (if_pos c83).symm) dX4_faultOf_95
      · skip
        refine lv_aload_n E.1 E.2.1 dX4_faultOf_86 rfl (lv_at hl 0 rfl) ?_
        refine gX4_11 E hw mw_29_1 dX4_faultOf_87 ?_
        refine lv_eqi (y := nI (q.2.1)) (rfl) ?_
        refine lv_goto (tgt := 95) E.1 E.2.1 dX4_faultOf_90 (by decide) ?_
        exact rI E hr hlk (HB.eq hw (by rw [hq])) (by rw [hq]; exact (if_neg c83).symm) dX4_faultOf_95
    · skip
      have hq5 := hP5 c23
      have hsC : sg C n q.2.1 = C q.2.1 := if_pos (by omega)
      refine lv_aload_n E.1 E.2.1 dX4_faultOf_37 rfl (lv_at hl 0 rfl) ?_
      refine lv_aload_n E.1 E.2.1 dX4_faultOf_38 rfl (lv_at hl 0 rfl) ?_
      refine callVI E (c_X4_sign l G a (N) x C n hPd (q.1) (q.2.1) (nI (q.2.2.1)) (q.2.2.2) (by omega)) mw_29_8 YX4_sign ⟨rfl, rfl⟩ ⟨Nat.le_of_ble_eq_true rfl, Nat.le_of_ble_eq_true rfl⟩ ⟨Nat.zero_le _, Nat.zero_le _⟩ hw 0 rfl rfl rfl hl rfl (Nat.le_of_ble_eq_true rfl) dX4_faultOf_39 (fun H locs hw => ?_)
      have q39 := hsl (q.2.1)
      refine lv_bipush (v := nI 59) E.1 E.2.1 dX4_faultOf_42 (by decide) ?_
      refine lv_icmp_eqN (tgt := 51) E.1 E.2.1 (by omega) (by omega) dX4_faultOf_44 (by decide) (fun c44 => ?_) (fun c44 => ?_)
      · skip
        have hs59 : C q.2.1 = 59 := by omega
        have hrd := rd_le (r := q.1) (p := q.2.1 + 1) (O := q.2.2.2) hC0 (by omega)
        refine lv_iconst (v := nI 0) E.1 E.2.1 dX4_faultOf_51 (by decide) ?_
        refine pX4_12 E hw mw_29_3 rfl rfl dX4_faultOf_52 (fun H locs hw => ?_)
        replace hw : HB G AA sS.heap (mN G a (N) (tX (nI (q.1)) (nI (q.2.1)) (nI (0)) (q.2.2.2) x)) H locs := HB.eq hw (by rw [tX_5])
        refine lv_aload_n E.1 E.2.1 dX4_faultOf_55 rfl (lv_at hl 0 rfl) ?_
        refine gX4_12 E hw mw_29_3 dX4_faultOf_56 ?_
        refine lv_eqi (y := nI (0)) (rfl) ?_
        refine lv_if_neN (tgt := 19) E.1 E.2.1 (by omega) dX4_faultOf_59 (by decide) (fun c59 => ?_) (fun c59 => ?_)
        · exact absurd c59 (by decide)
        · skip
          refine lv_aload_n E.1 E.2.1 dX4_faultOf_62 rfl (lv_at hl 0 rfl) ?_
          refine lv_dup E.1 E.2.1 dX4_faultOf_63 rfl ?_
          refine gX4_11 E hw mw_29_1 dX4_faultOf_64 ?_
          refine lv_eqi (y := nI (q.2.1)) (rfl) ?_
          refine lv_iconst (v := nI 1) E.1 E.2.1 dX4_faultOf_67 (by decide) ?_
          refine lv_addN E.1 E.2.1 dX4_faultOf_68 ?_
          refine pX4_11 E hw mw_29_1 dX4_faultOf_69 (fun H locs hw => ?_)
          replace hw : HB G AA sS.heap (mN G a (N) (tX (nI (q.1)) (nI (q.2.1 + 1)) (nI (0)) (q.2.2.2) x)) H locs := HB.eq hw (by rw [tX_4])
          refine lv_aload_n E.1 E.2.1 dX4_faultOf_72 rfl (lv_at hl 0 rfl) ?_
          refine callVV E (c_X4_readOne l G a N x C n hPd (q.1) (q.2.1 + 1) (q.2.2.2) (by omega) (by omega)) mw_29_4 YX4_readOne ⟨rfl, rfl⟩ ⟨Nat.le_of_ble_eq_true rfl, Nat.le_of_ble_eq_true rfl⟩ ⟨Nat.zero_le _, Nat.zero_le _⟩ hw 0 rfl rfl rfl hl rfl (Nat.le_of_ble_eq_true rfl) dX4_faultOf_73 (fun H locs hw => ?_)
          refine lv_goto (tgt := 19) E.1 E.2.1 dX4_faultOf_76 (by decide) ?_
          exact ih (f - 1) (fS C n q) (⟨by rw [← hP1]; obtain ⟨f2, rfl⟩ : ∃ f2, f = f2 + 1 := ⟨f - 1, by omega⟩; rw [fR, if_pos ⟨c23, by omega⟩, if_pos hs59]; rfl, hrd.1, hrd.2.2.1, (by have := hP5 c23; show q.1 + 1 ≤ 61; omega), fun z => ⟨by have := hrd.2.2.2 z; have := hP5 c23; show q.1 + 1 ≤ (rdF C n q.1 (q.2.1 + 1) q.2.2.2).2.1; omega, by have := hrd.2.2.2 z; have := hP5 c23; show n < (rdF C n q.1 (q.2.1 + 1) q.2.2.2).2.1 + (f - 1); omega⟩⟩) (by omega) _ _ _ (HB.eq hw (rfl)) (lvh_eq (l := [(0, .ref (a 0))]) (lv_sub hl [0] rfl) (rfl))
      · skip
        have hs59 : ¬ C q.2.1 = 59 := by omega
        refine lv_iconst (v := nI 1) E.1 E.2.1 dX4_faultOf_47 (by decide) ?_
        refine lv_goto (tgt := 52) E.1 E.2.1 dX4_faultOf_48 (by decide) ?_
        refine pX4_12 E hw mw_29_3 rfl rfl dX4_faultOf_52 (fun H locs hw => ?_)
        replace hw : HB G AA sS.heap (mN G a (N) (tX (nI (q.1)) (nI (q.2.1)) (nI (1)) (q.2.2.2) x)) H locs := HB.eq hw (by rw [tX_5])
        refine lv_aload_n E.1 E.2.1 dX4_faultOf_55 rfl (lv_at hl 0 rfl) ?_
        refine gX4_12 E hw mw_29_3 dX4_faultOf_56 ?_
        refine lv_eqi (y := nI (1)) (rfl) ?_
        refine lv_if_neN (tgt := 19) E.1 E.2.1 (by omega) dX4_faultOf_59 (by decide) (fun c59 => ?_) (fun c59 => ?_)
        · skip
          exact ih (f - 1) ((q.1, q.2.1, 1, q.2.2.2)) (⟨by rw [← hP1, fR_w (fun z => absurd z.1 Nat.one_ne_zero)]; obtain ⟨f2, rfl⟩ : ∃ f2, f = f2 + 1 := ⟨f - 1, by omega⟩; rw [fR, if_pos ⟨c23, by omega⟩, if_neg hs59], (by decide : (1 : Nat) ≤ 1), hP3, hP4, fun z => absurd z Nat.one_ne_zero⟩) (by omega) _ _ _ (HB.eq hw (rfl)) (lvh_eq (l := [(0, .ref (a 0))]) (lv_sub hl [0] rfl) (rfl))
        · exact absurd c59 (by decide)

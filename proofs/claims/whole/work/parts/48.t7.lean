theorem nL_sh8 {k : Nat} (hk : k < 2 ^ 64) : ((nL k).toUInt64 >>> ((nI 8).toInt64.toUInt64 &&& Int64.toUInt64 63)).toInt64 = nL (k / 256) := by
  have := nL_shr hk 1 (by decide)
  rwa [Nat.pow_one] at this
def chI (X i : Nat) : Prop := i ≤ 8 ∧ ch 8 X = (ch (8 - i) (X / 256 ^ i)).map (· + i)
theorem chI.o (X : Nat) : chI X 0 := by
  refine ⟨Nat.zero_le _, ?_⟩
  rw [Nat.pow_zero, Nat.div_one]
  show ch 8 X = (ch 8 X).map (· + 0)
  cases ch 8 X <;> rfl
theorem ch_z0 : ∀ f, ch f 0 = some 0
  | 0 => rfl
  | _ + 1 => rfl
theorem chI.z {X i : Nat} (h : chI X i) (h1 : X / 256 ^ i = 0) : ch 8 X = some i := by
  rw [h.2, h1, ch_z0]
  show some (0 + i) = _
  rw [Nat.zero_add]
theorem chI.nz {X i : Nat} (h : chI X i) (h0 : X / 256 ^ i % 256 = 0) (h1 : ¬ X / 256 ^ i = 0) : ch 8 X = none := by
  rw [h.2]
  cases 8 - i with
  | zero => unfold ch; rw [if_neg h1]; rfl
  | succ f => unfold ch; rw [if_pos h0, if_neg h1]; rfl
theorem chI.no {X i : Nat} (h : chI X i) (h0 : ¬ X / 256 ^ i % 256 = 0) (h1 : ¬ (33 ≤ X / 256 ^ i % 256 ∧ X / 256 ^ i % 256 ≤ 126)) : ch 8 X = none := by
  rw [h.2]
  cases 8 - i with
  | zero => unfold ch; rw [if_neg (fun z => h0 (by rw [z]))]; rfl
  | succ f => unfold ch; rw [if_neg h0, if_neg h1]; rfl
theorem chI.h8 {X i : Nat} (hX : X < 2 ^ 64) (h : chI X i) (h0 : ¬ X / 256 ^ i % 256 = 0) : i < 8 := by
  rcases Nat.lt_or_ge i 8 with q | q
  · exact q
  · have : i = 8 := by have := h.1; omega
    subst this
    exact absurd (by rw [Nat.div_eq_of_lt (by omega)]) h0
theorem chI.up {X i : Nat} (hX : X < 2 ^ 64) (h : chI X i) (h0 : ¬ X / 256 ^ i % 256 = 0) (h1 : 33 ≤ X / 256 ^ i % 256 ∧ X / 256 ^ i % 256 ≤ 126) : chI X (i + 1) := by
  have h8 := h.h8 hX h0
  refine ⟨by omega, ?_⟩
  rw [h.2, show 8 - i = (8 - (i + 1)) + 1 by omega, ch, if_neg h0, if_pos h1, Option.map_map, Nat.div_div_eq_div_mul, ← Nat.pow_succ]
  cases ch (8 - (i + 1)) (X / 256 ^ (i + 1)) with
  | none => rfl
  | some z => show some (z + 1 + i) = some (z + (i + 1)); rw [show z + 1 + i = z + (i + 1) by omega]
theorem chI.e8 {X i : Nat} (hX : X < 2 ^ 64) (h : chI X i) (h8 : 8 ≤ i) : ch 8 X = some 8 := by
  obtain rfl : i = 8 := by have := h.1; omega
  exact h.z (Nat.div_eq_of_lt (by omega))
theorem dvd8 {X : Nat} (hX : X < 2 ^ 64) (i : Nat) : X / 256 ^ i < 2 ^ 64 := Nat.lt_of_le_of_lt (Nat.div_le_self _ _) hX
theorem YX3_codeAt : YS yX3_codeAt RX3 cX3_codeAt 3 (some .int) 2 := ⟨mw_26_0, mw_1_2, mw_26_1, by decide +kernel⟩
set_option maxHeartbeats 4000000 in
set_option maxRecDepth 100000 in
theorem c_X3_codeAt (l : Launch) (G : GP) (X : Nat) (hX : X < 2 ^ 64) (i : Nat) (hi : i < 8) : MI l yX3_codeAt (.code yX3_codeAt cX3_codeAt 3 (some .int) :: GW) ({ frames := 0, cells := 0, slots := 0, locals := 0 }) [.long (nL (X)), .int (nI (i))] G ES ([]) ([]) (nI (X / 256 ^ i % 256)) := by
  refine MI.of (own := RX3) rfl rfl (Nat.le_of_ble_eq_true rfl) ?_
  intro pP eE sS mM below meth cC ls AA E hw hl hr hlk hE
  replace hl : lv_has ls 3 [(0, .long (nL (X))), (2, .int (nI (i)))] := hl
  have hd := dvd8 hX i
  refine lv_lload_n E.1 E.2.1 dX3_codeAt_0 rfl (lv_at hl 0 rfl) ?_
  refine lv_bipush (v := nI 8) E.1 E.2.1 dX3_codeAt_1 (by decide) ?_
  refine lv_iload_n E.1 E.2.1 dX3_codeAt_3 rfl (lv_at hl 1 rfl) ?_
  refine lv_mulN E.1 E.2.1 dX3_codeAt_4 ?_
  refine lv_eqi (y := nI (8 * i)) (by rw [Nat.mul_comm]) ?_
  refine lv_lushr (v := nL ((X) / 256 ^ i)) E.1 E.2.1 dX3_codeAt_5 (nL_shr (by omega) i (by omega)) ?_
  refine lv_ldc2 (v := 255) E.1 E.2.1 E.2.2.2.1 (E.2.2.2.2.1 _ mw_26_2) dX3_codeAt_6 ?_
  refine lv_land E.1 E.2.1 dX3_codeAt_9 (lv_eqL (y := nL (((X) / 256 ^ i) % 256)) (nL_and (by omega)) ?_)
  refine lv_l2i (v := nI (((X) / 256 ^ i) % 256)) E.1 E.2.1 dX3_codeAt_10 (nL_i _ (by omega)) ?_
  exact rI E hr hlk (HB.eq hw (rfl)) (rfl) dX3_codeAt_11
theorem YX3_charactersIn : YS yX3_charactersIn RX3 cX3_charactersIn 4 (some .int) 1 := ⟨mw_25_21, mw_1_2, mw_25_22, by decide +kernel⟩
set_option maxHeartbeats 4000000 in
set_option maxRecDepth 100000 in
theorem c_X3_charactersIn (l : Launch) (G : GP) (X : Nat) (hX : X < 2 ^ 64)  : MI l yX3_charactersIn (.code yX3_charactersIn cX3_charactersIn 4 (some .int) :: GW) ({ frames := 1, cells := 0, slots := 0, locals := 22 }) [.long (nL (X))] G ES ([]) ([]) (nI ((ch 8 X).getD 0)) := by
  refine MI.of (own := RX3) rfl rfl (Nat.le_of_ble_eq_true rfl) ?_
  intro pP eE sS mM below meth cC ls AA E hw hl hr hlk hE
  replace hl : lv_has ls 4 [(0, .long (nL (X)))] := hl
  refine lv_iconst (v := nI 0) E.1 E.2.1 dX3_charactersIn_0 (by decide) ?_
  refine lv_istore_n (lv' := [(2, .int (nI (0))), (0, .long (nL (X)))]) E.1 E.2.1 dX3_charactersIn_1 rfl hl (by decide) rfl (fun ls hl => ?_)
  refine W_ind1 (nL := 4) (P := fun i => chI X i) (μ := fun i => 8 - i) (I := fun i => []) (L := fun i => [(0, .long (nL (X))), (2, .int (nI (i)))]) ?_ (0) (chI.o X) (HB.eq hw (rfl)) (lvh_eq (l := [(0, .long (nL (X))), (2, .int (nI (0)))]) (lv_sub hl [1, 0] rfl) (rfl))
  intro i hP ih H locs ls hw hl
  replace hw : HB G AA sS.heap ([]) H locs := hw
  replace hl : lv_has ls 4 [(0, .long (nL (X))), (2, .int (nI (i)))] := hl
  have hPi := hP.1
  have hdv := dvd8 hX i
  refine lv_iload_n E.1 E.2.1 dX3_charactersIn_2 rfl (lv_at hl 1 rfl) ?_
  refine lv_bipush (v := nI 8) E.1 E.2.1 dX3_charactersIn_3 (by decide) ?_
  refine lv_icmp_geN (tgt := 55) E.1 E.2.1 (by omega) (by omega) dX3_charactersIn_5 (by decide) (fun c5 => ?_) (fun c5 => ?_)
  · skip
    refine lv_bipush (v := nI 8) E.1 E.2.1 dX3_charactersIn_55 (by decide) ?_
    exact rI E hr hlk (HB.eq hw (rfl)) (by rw [hP.e8 hX c5]; rfl) dX3_charactersIn_57
  · skip
    refine lv_lload_n E.1 E.2.1 dX3_charactersIn_8 rfl (lv_at hl 0 rfl) ?_
    refine lv_iload_n E.1 E.2.1 dX3_charactersIn_9 rfl (lv_at hl 1 rfl) ?_
    refine callSI E (c_X3_codeAt l G X hX i (by omega)) mw_25_23 YX3_codeAt ⟨rfl, rfl⟩ ⟨Nat.le_of_ble_eq_true rfl, Nat.le_of_ble_eq_true rfl⟩ ⟨Nat.zero_le _, Nat.zero_le _⟩ hw (w := []) (w' := []) (rr := []) (big' := []) (List.Perm.refl _) (List.Perm.refl _) rfl hl rfl (Nat.le_of_ble_eq_true rfl) dX3_charactersIn_10 (fun H locs hw => ?_)
    refine lv_istore_n (lv' := [(3, .int (nI (X / 256 ^ i % 256))), (0, .long (nL (X))), (2, .int (nI (i)))]) E.1 E.2.1 dX3_charactersIn_13 rfl hl (by decide) rfl (fun ls hl => ?_)
    refine lv_iload_n E.1 E.2.1 dX3_charactersIn_14 rfl (lv_at hl 0 rfl) ?_
    refine lv_if_neN (tgt := 35) E.1 E.2.1 (by omega) dX3_charactersIn_15 (by decide) (fun c15 => ?_) (fun c15 => ?_)
    · skip
      refine lv_iload_n E.1 E.2.1 dX3_charactersIn_35 rfl (lv_at hl 0 rfl) ?_
      refine lv_bipush (v := nI 33) E.1 E.2.1 dX3_charactersIn_36 (by decide) ?_
      refine lv_icmp_ltN (tgt := 47) E.1 E.2.1 (by omega) (by omega) dX3_charactersIn_38 (by decide) (fun c38 => ?_) (fun c38 => ?_)
      · skip
        refine lv_iconst (v := nI 0) E.1 E.2.1 dX3_charactersIn_47 (by decide) ?_
        exact rI E hr hlk (HB.eq hw (rfl)) (by rw [hP.no c15 (by omega)]; rfl) dX3_charactersIn_48
      · skip
        refine lv_iload_n E.1 E.2.1 dX3_charactersIn_41 rfl (lv_at hl 0 rfl) ?_
        refine lv_bipush (v := nI 126) E.1 E.2.1 dX3_charactersIn_42 (by decide) ?_
        refine lv_icmp_leN (tgt := 49) E.1 E.2.1 (by omega) (by omega) dX3_charactersIn_44 (by decide) (fun c44 => ?_) (fun c44 => ?_)
        · skip
          refine lv_iincN (k := 2) (lv' := [(2, .int (nI (i + 1))), (3, .int (nI (X / 256 ^ i % 256))), (0, .long (nL (X)))]) E.1 E.2.1 dX3_charactersIn_49 hl rfl (by decide) rfl (fun ls hl => ?_)
          refine lv_goto (tgt := 2) E.1 E.2.1 dX3_charactersIn_52 (by decide) ?_
          exact ih (i + 1) (hP.up hX c15 (by omega)) (by have := hP.h8 hX c15; omega) _ _ _ (HB.eq hw (rfl)) (lvh_eq (l := [(0, .long (nL (X))), (2, .int (nI (i + 1)))]) (lv_sub hl [2, 0] rfl) (rfl))
        · skip
          refine lv_iconst (v := nI 0) E.1 E.2.1 dX3_charactersIn_47 (by decide) ?_
          exact rI E hr hlk (HB.eq hw (rfl)) (by rw [hP.no c15 (by omega)]; rfl) dX3_charactersIn_48
    · skip
      refine lv_lload_n E.1 E.2.1 dX3_charactersIn_18 rfl (lv_at hl 1 rfl) ?_
      refine lv_bipush (v := nI 8) E.1 E.2.1 dX3_charactersIn_19 (by decide) ?_
      refine lv_iload_n E.1 E.2.1 dX3_charactersIn_21 rfl (lv_at hl 2 rfl) ?_
      refine lv_mulN E.1 E.2.1 dX3_charactersIn_22 ?_
      refine lv_eqi (y := nI (8 * i)) (by rw [Nat.mul_comm]) ?_
      refine lv_lushr (v := nL ((X) / 256 ^ i)) E.1 E.2.1 dX3_charactersIn_23 (nL_shr (by omega) i (by omega)) ?_
      refine lv_lconst (v := 0) E.1 E.2.1 dX3_charactersIn_24 (by decide) ?_
      refine W.lcmp E.1 E.2.1 dX3_charactersIn_25 ?_
      refine lv_if_ne (tgt := 33) E.1 E.2.1 dX3_charactersIn_26 (by decide) (fun c26 => ?_) (fun c26 => ?_)
      · skip
        refine lv_iconst (v := nI 0) E.1 E.2.1 dX3_charactersIn_33 (by decide) ?_
        exact rI E hr hlk (HB.eq hw (rfl)) (by rw [hP.nz c15 (fun z => c26 ((cmp_0 (by omega)).mpr z))]; rfl) dX3_charactersIn_34
      · skip
        refine lv_iload_n E.1 E.2.1 dX3_charactersIn_29 rfl (lv_at hl 2 rfl) ?_
        refine lv_goto (tgt := 34) E.1 E.2.1 dX3_charactersIn_30 (by decide) ?_
        exact rI E hr hlk (HB.eq hw (rfl)) (by rw [hP.z ((cmp_0 (by omega)).mp c26)]; rfl) dX3_charactersIn_34

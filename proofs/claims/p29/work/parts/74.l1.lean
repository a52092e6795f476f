theorem va_A0 {n : Nat} : ∀ a : Nat, a < n → ¬ va_A [] n a := fun a h z => by
  rcases z with ⟨k, e, hk⟩ | z
  · cases hk
  · omega
def iA (G : GP) (q : Nat) (f : Nat → Int32) : Nat × va_E := (q, .inl (G.2 0, 8, .inl f))
theorem HB.tl {G : GP} {A : Nat → Prop} {H0 : Heap} {q : Nat × va_E} {w : va_W} {H : Heap} {locs : List Loc} (h : HB G A H0 (q :: w) H locs) : HB G A H0 w H locs :=
  ⟨fun k x hk => h.1 (k + 1) x hk, ⟨fun i j p r hi hj e => by have := h.2.1.1 (i + 1) (j + 1) p r hi hj e; omega, fun k x hk => h.2.1.2 (k + 1) x hk⟩, h.2.2⟩
/-- a number out of the script -/
def cellR (L : Nat) (xs : Nat → Int32) (k n : Nat) : Nat := (if L = 0 then k * 37 + 5 else ((xs (k % L) >>> (nI (k % 7) &&& 31)).toBitVec.toNat % 2 ^ 22)) % n
theorem cellR_lt {L : Nat} {xs : Nat → Int32} {k n : Nat} (h : 0 < n) : cellR L xs k n < n := Nat.mod_lt _ h
def pcn (S : Nat) : Nat → Nat
  | 0 => 0
  | c + 1 => pcn S c + (if S.testBit c = true then 1 else 0)
theorem pcn_le {S : Nat} : ∀ n, pcn S n ≤ n
  | 0 => Nat.le_refl _
  | n + 1 => by rw [pcn]; have := pcn_le (S := S) n; split <;> omega
theorem pcn_s1 {S c : Nat} (h : S.testBit c = true) : pcn S (c + 1) = pcn S c + 1 := by rw [pcn, if_pos h]
theorem pcn_s0 {S c : Nat} (h : ¬ S.testBit c = true) : pcn S (c + 1) = pcn S c := by rw [pcn, if_neg h, Nat.add_zero]
theorem pcn_mono {S : Nat} {a b : Nat} (h : a ≤ b) : pcn S a ≤ pcn S b := by
  induction h with
  | refl => exact Nat.le_refl _
  | step _ ih => rw [pcn]; omega
/-- what is told as sent to the clerks S stands from a place on -/
def snt2 (N : NS) (a k d f S : Nat) : Prop := ∀ c, c < 4 → S.testBit c = true → a + pcn S c < 60 → a + pcn S c < N 6 ∧ N (150 + 4 * (a + pcn S c) + 0) = k ∧ N (150 + 4 * (a + pcn S c) + 1) = d ∧ N (150 + 4 * (a + pcn S c) + 2) = f ∧ N (150 + 4 * (a + pcn S c) + 3) = c
theorem YL_has : YS yL_has RL cL_has 2 (some .boolean) 2 := ⟨mn_8_3, mn_3_2, mn_8_4, by decide +kernel⟩
set_option maxHeartbeats 4000000 in
set_option maxRecDepth 100000 in
theorem c_L_has (l : Launch) (G : GP) (S k : Nat) (hS : S < 2 ^ 31) (hk : k < 31) : MI l yL_has (.code yL_has cL_has 2 (some .boolean) :: GW) ({ frames := 0, cells := 0, slots := 0, locals := 0 }) [.int (nI (S)), .int (nI (k))] G (ES) ([]) ([]) (zb (S.testBit k = true)) := by
  refine MI.of (own := RL) rfl rfl (Nat.le_of_ble_eq_true rfl) ?_
  intro pP eE sS mM below meth cC ls AA E hw hl hr hlk hE
  replace hl : lv_has ls 2 [(0, .int (nI (S))), (1, .int (nI (k)))] := hl
  refine lv_iload_n E.1 E.2.1 dL_has_0 rfl (lv_at hl 0 rfl) ?_
  refine lv_iload_n E.1 E.2.1 dL_has_1 rfl (lv_at hl 1 rfl) ?_
  refine lv_ishr E.1 E.2.1 dL_has_2 ?_
  refine lv_iconst (v := nI 1) E.1 E.2.1 dL_has_3 (by decide) ?_
  refine lv_iand E.1 E.2.1 dL_has_4 ?_
  refine lv_eqi (y := nI (if S.testBit k then 1 else 0)) (sh_bit hS hk) ?_
  refine lv_iconst (v := nI 1) E.1 E.2.1 dL_has_5 (by decide) ?_
  refine lv_icmp_ne (tgt := 13) E.1 E.2.1 dL_has_6 (by decide) (fun c6 => ?_) (fun c6 => ?_)
  · skip
    refine lv_iconst (v := nI 0) E.1 E.2.1 dL_has_13 (by decide) ?_
    exact rZ E hr hlk (HB.eq hw (rfl)) ((zb_f (fun z => c6 (by rw [if_pos z]))).symm) rfl dL_has_14
  · skip
    refine lv_iconst (v := nI 1) E.1 E.2.1 dL_has_9 (by decide) ?_
    refine lv_goto (tgt := 14) E.1 E.2.1 dL_has_10 (by decide) ?_
    exact rZ E hr hlk (HB.eq hw (rfl)) ((zb_t (by by_cases z : S.testBit k = true; exact z; rw [if_neg z] at c6; exact absurd c6 (by decide))).symm) rfl dL_has_14
theorem YL_cell : YS yL_cell RL cL_cell 3 (some .int) 3 := ⟨mn_3_1, mn_3_2, mn_3_3, by decide +kernel⟩
set_option maxHeartbeats 4000000 in
set_option maxRecDepth 100000 in
theorem c_L_cell (l : Launch) (G : GP) (sb L : Nat) (xs : Nat → Int32) (hL : L ≤ 260) (k n : Nat) (hk : k < 1000) (hn : 0 < n) (hn2 : n < 1000) : MI l yL_cell (.code yL_cell cL_cell 3 (some .int) :: GW) ({ frames := 0, cells := 0, slots := 0, locals := 0 }) [.ref (sb), .int (nI (k)), .int (nI (n))] G ((XSc sb L xs)) ([]) ([]) (nI (cellR L xs k n)) := by
  refine MI.ofE (own := RL) rfl rfl (Nat.le_of_ble_eq_true rfl) ?_
  intro pP eE sS mM below meth cC ls AA E hw hl hr hlk hE
  replace hl : lv_has ls 3 [(0, .ref (sb)), (1, .int (nI (k))), (2, .int (nI (n)))] := hl
  have hsA : ¬ AA sb := by rw [hE.2]; exact va_A0 sb hE.1.2
  refine lv_aload_n E.1 E.2.1 dL_cell_0 rfl (lv_at hl 0 rfl) ?_
  refine va_slen E.1 E.2.1 hE.1.1 hE.1.2 hsA hw.2.2.1 dL_cell_1 ?_
  refine lv_if_neN (tgt := 14) E.1 E.2.1 (by omega) dL_cell_2 (by decide) (fun c2 => ?_) (fun c2 => ?_)
  · skip
    refine lv_aload_n E.1 E.2.1 dL_cell_14 rfl (lv_at hl 0 rfl) ?_
    refine lv_iload_n E.1 E.2.1 dL_cell_15 rfl (lv_at hl 1 rfl) ?_
    refine lv_aload_n E.1 E.2.1 dL_cell_16 rfl (lv_at hl 0 rfl) ?_
    refine va_slen E.1 E.2.1 hE.1.1 hE.1.2 hsA hw.2.2.1 dL_cell_17 ?_
    refine lv_irem E.1 E.2.1 dL_cell_18 (nI_ne0 (Nat.pos_of_ne_zero c2) (by omega)) ?_
    refine lv_eqi (y := nI (k % L)) (pk_rem (by omega) (Nat.pos_of_ne_zero c2) (by omega)) ?_
    refine va_sld E.1 E.2.1 hE.1.1 hE.1.2 hsA hw.2.2.1 (vp_in_nI (Nat.mod_lt _ (Nat.pos_of_ne_zero c2)) (by omega)) dL_cell_19 ?_
    rw [nI_clamp (Nat.lt_of_lt_of_le (Nat.mod_lt _ (Nat.pos_of_ne_zero c2)) (by omega))]
    refine lv_iload_n E.1 E.2.1 dL_cell_20 rfl (lv_at hl 1 rfl) ?_
    refine lv_bipush (v := nI 7) E.1 E.2.1 dL_cell_21 (by decide) ?_
    refine lv_irem E.1 E.2.1 dL_cell_23 (by decide) ?_
    refine lv_eqi (y := nI (k % 7)) (pk_rem (by omega) (by decide) (by decide)) ?_
    refine lv_ishr E.1 E.2.1 dL_cell_24 ?_
    refine lv_ldc (v := 4194303) E.1 E.2.1 E.2.2.2.1 (E.2.2.2.2.1 _ mn_3_4) dL_cell_25 ?_
    refine lv_iand E.1 E.2.1 dL_cell_27 ?_
    refine lv_eqi (y := nI ((xs (k % L) >>> (nI (k % 7) &&& 31)).toBitVec.toNat % 2 ^ 22)) (pk_and _ 22 (by decide)) ?_
    refine lv_iload_n E.1 E.2.1 dL_cell_28 rfl (lv_at hl 2 rfl) ?_
    refine lv_irem E.1 E.2.1 dL_cell_29 (nI_ne0 hn (by omega)) ?_
    refine lv_eqi (y := nI (cellR L xs k n)) ((pk_rem (Nat.lt_of_lt_of_le (Nat.mod_lt _ (by decide)) (by decide)) hn (by omega)).trans (by rw [cellR, if_neg c2])) ?_
    exact rI E hr hlk (HB.eq hw (rfl)) (rfl) dL_cell_30
  · skip
    refine lv_iload_n E.1 E.2.1 dL_cell_5 rfl (lv_at hl 1 rfl) ?_
    refine lv_bipush (v := nI 37) E.1 E.2.1 dL_cell_6 (by decide) ?_
    refine lv_mulN E.1 E.2.1 dL_cell_8 ?_
    refine lv_iconst (v := nI 5) E.1 E.2.1 dL_cell_9 (by decide) ?_
    refine lv_addN E.1 E.2.1 dL_cell_10 ?_
    refine lv_goto (tgt := 28) E.1 E.2.1 dL_cell_11 (by decide) ?_
    refine lv_iload_n E.1 E.2.1 dL_cell_28 rfl (lv_at hl 2 rfl) ?_
    refine lv_irem E.1 E.2.1 dL_cell_29 (nI_ne0 hn (by omega)) ?_
    refine lv_eqi (y := nI (cellR L xs k n)) ((pk_rem (by omega) hn (by omega)).trans (by rw [cellR, if_pos c2])) ?_
    exact rI E hr hlk (HB.eq hw (rfl)) (rfl) dL_cell_30
theorem YL_isMessage : YS yL_isMessage RL cL_isMessage 6 (some .boolean) 6 := ⟨mn_8_6, mn_3_2, mn_8_7, by decide +kernel⟩
set_option maxHeartbeats 4000000 in
set_option maxRecDepth 100000 in
theorem c_L_isMessage (l : Launch) (G : GP) (b : Nat → Nat) (ad : Nat → Nat → Nat) (v pd rv : Nat → Int32) (Ns : Nat → NS) (hF : FI (Ns 0)) (p k d f t : Nat) (hp : p < Ns 0 6) (m0 : Ns 0 (150 + 4 * p + 0) = k) (m1 : Ns 0 (150 + 4 * p + 1) = d) (m2 : Ns 0 (150 + 4 * p + 2) = f) (m3 : Ns 0 (150 + 4 * p + 3) = t) (hk : k < 2 ^ 31) (hd : d < 2 ^ 31) (hf : f < 2 ^ 31) (ht : t < 2 ^ 31) : MI l yL_isMessage (.code yL_isMessage cL_isMessage 6 (some .boolean) :: GW) ({ frames := 3, cells := 0, slots := 0, locals := 66 }) [.ref (b 0), .int (nI (p)), .int (nI (k)), .int (nI (d)), .int (nI (f)), .int (nI (t))] G (ES) (cW G b ad v pd rv Ns) (cW G b ad v pd rv Ns) (1) := by
  refine MI.of (own := RL) rfl rfl (Nat.le_of_ble_eq_true rfl) ?_
  intro pP eE sS mM below meth cC ls AA E hw hl hr hlk hE
  replace hl : lv_has ls 6 [(0, .ref (b 0)), (1, .int (nI (p))), (2, .int (nI (k))), (3, .int (nI (d))), (4, .int (nI (f))), (5, .int (nI (t)))] := hl
  refine lv_aload_n E.1 E.2.1 dL_isMessage_0 rfl (lv_at hl 0 rfl) ?_
  refine lv_iload_n E.1 E.2.1 dL_isMessage_1 rfl (lv_at hl 1 rfl) ?_
  refine lv_iconst (v := nI 0) E.1 E.2.1 dL_isMessage_2 (by decide) ?_
  refine callVIp E (c_X3_message_ok l G b ad v pd rv Ns p (by omega) hF 0 (by decide)) ES.eb (fun _ _ _ => trivial) mn_8_8 YX3_message ⟨rfl, rfl⟩ ⟨Nat.le_of_ble_eq_true rfl, Nat.le_of_ble_eq_true rfl⟩ ⟨Nat.le_of_ble_eq_true rfl, Nat.le_of_ble_eq_true rfl⟩ hw (rr := []) (big' := cW G b ad v pd rv Ns) (by rw [List.append_nil]) (by rw [List.append_nil]) 0 rfl rfl rfl hl rfl (Nat.le_of_ble_eq_true rfl) dL_isMessage_3 (fun H locs hw => ?_)
  refine lv_eqi (y := nI (k)) (congrArg nI m0) ?_
  refine lv_iload_n E.1 E.2.1 dL_isMessage_6 rfl (lv_at hl 2 rfl) ?_
  refine lv_icmp_neN (tgt := 46) E.1 E.2.1 (by omega) (by omega) dL_isMessage_7 (by decide) (fun c7 => ?_) (fun c7 => ?_)
  · exact absurd rfl c7
  · skip
    refine lv_aload_n E.1 E.2.1 dL_isMessage_10 rfl (lv_at hl 0 rfl) ?_
    refine lv_iload_n E.1 E.2.1 dL_isMessage_11 rfl (lv_at hl 1 rfl) ?_
    refine lv_iconst (v := nI 1) E.1 E.2.1 dL_isMessage_12 (by decide) ?_
    refine callVIp E (c_X3_message_ok l G b ad v pd rv Ns p (by omega) hF 1 (by decide)) ES.eb (fun _ _ _ => trivial) mn_8_8 YX3_message ⟨rfl, rfl⟩ ⟨Nat.le_of_ble_eq_true rfl, Nat.le_of_ble_eq_true rfl⟩ ⟨Nat.le_of_ble_eq_true rfl, Nat.le_of_ble_eq_true rfl⟩ hw (rr := []) (big' := cW G b ad v pd rv Ns) (by rw [List.append_nil]) (by rw [List.append_nil]) 0 rfl rfl rfl hl rfl (Nat.le_of_ble_eq_true rfl) dL_isMessage_13 (fun H locs hw => ?_)
    refine lv_eqi (y := nI (d)) (congrArg nI m1) ?_
    refine lv_iload_n E.1 E.2.1 dL_isMessage_16 rfl (lv_at hl 3 rfl) ?_
    refine lv_icmp_neN (tgt := 46) E.1 E.2.1 (by omega) (by omega) dL_isMessage_17 (by decide) (fun c17 => ?_) (fun c17 => ?_)
    · exact absurd rfl c17
    · skip
      refine lv_aload_n E.1 E.2.1 dL_isMessage_20 rfl (lv_at hl 0 rfl) ?_
      refine lv_iload_n E.1 E.2.1 dL_isMessage_21 rfl (lv_at hl 1 rfl) ?_
      refine lv_iconst (v := nI 2) E.1 E.2.1 dL_isMessage_22 (by decide) ?_
      refine callVIp E (c_X3_message_ok l G b ad v pd rv Ns p (by omega) hF 2 (by decide)) ES.eb (fun _ _ _ => trivial) mn_8_8 YX3_message ⟨rfl, rfl⟩ ⟨Nat.le_of_ble_eq_true rfl, Nat.le_of_ble_eq_true rfl⟩ ⟨Nat.le_of_ble_eq_true rfl, Nat.le_of_ble_eq_true rfl⟩ hw (rr := []) (big' := cW G b ad v pd rv Ns) (by rw [List.append_nil]) (by rw [List.append_nil]) 0 rfl rfl rfl hl rfl (Nat.le_of_ble_eq_true rfl) dL_isMessage_23 (fun H locs hw => ?_)
      refine lv_eqi (y := nI (f)) (congrArg nI m2) ?_
      refine lv_iload E.1 E.2.1 dL_isMessage_26 (lv_at hl 4 rfl) ?_
      refine lv_icmp_neN (tgt := 46) E.1 E.2.1 (by omega) (by omega) dL_isMessage_28 (by decide) (fun c28 => ?_) (fun c28 => ?_)
      · exact absurd rfl c28
      · skip
        refine lv_aload_n E.1 E.2.1 dL_isMessage_31 rfl (lv_at hl 0 rfl) ?_
        refine lv_iload_n E.1 E.2.1 dL_isMessage_32 rfl (lv_at hl 1 rfl) ?_
        refine lv_iconst (v := nI 3) E.1 E.2.1 dL_isMessage_33 (by decide) ?_
        refine callVIp E (c_X3_message_ok l G b ad v pd rv Ns p (by omega) hF 3 (by decide)) ES.eb (fun _ _ _ => trivial) mn_8_8 YX3_message ⟨rfl, rfl⟩ ⟨Nat.le_of_ble_eq_true rfl, Nat.le_of_ble_eq_true rfl⟩ ⟨Nat.le_of_ble_eq_true rfl, Nat.le_of_ble_eq_true rfl⟩ hw (rr := []) (big' := cW G b ad v pd rv Ns) (by rw [List.append_nil]) (by rw [List.append_nil]) 0 rfl rfl rfl hl rfl (Nat.le_of_ble_eq_true rfl) dL_isMessage_34 (fun H locs hw => ?_)
        refine lv_eqi (y := nI (t)) (congrArg nI m3) ?_
        refine lv_iload E.1 E.2.1 dL_isMessage_37 (lv_at hl 5 rfl) ?_
        refine lv_icmp_neN (tgt := 46) E.1 E.2.1 (by omega) (by omega) dL_isMessage_39 (by decide) (fun c39 => ?_) (fun c39 => ?_)
        · exact absurd rfl c39
        · skip
          refine lv_iconst (v := nI 1) E.1 E.2.1 dL_isMessage_42 (by decide) ?_
          refine lv_goto (tgt := 47) E.1 E.2.1 dL_isMessage_43 (by decide) ?_
          exact rZ E hr hlk (HB.eq hw (rfl)) (rfl) rfl dL_isMessage_47
theorem YL_sentTo : YS yL_sentTo RL cL_sentTo 8 (some .int) 6 := ⟨mn_8_0, mn_3_2, mn_8_1, by decide +kernel⟩
set_option maxHeartbeats 4000000 in
set_option maxRecDepth 100000 in
theorem c_L_sentTo (l : Launch) (G : GP) (b : Nat → Nat) (ad : Nat → Nat → Nat) (v pd rv : Nat → Int32) (Ns : Nat → NS) (hF : FI (Ns 0)) (p k d f S : Nat) (hp : p ≤ 60) (hs : snt2 (Ns 0) p k d f S) (hk : k < 2 ^ 31) (hd : d < 2 ^ 31) (hf : f < 2 ^ 31) (hS : S < 2 ^ 31) : MI l yL_sentTo (.code yL_sentTo cL_sentTo 8 (some .int) :: GW) ({ frames := 4, cells := 0, slots := 0, locals := 91 }) [.ref (b 0), .int (nI (p)), .int (nI (k)), .int (nI (d)), .int (nI (f)), .int (nI (S))] G (ES) (cW G b ad v pd rv Ns) (cW G b ad v pd rv Ns) (nI (pcn S 4)) := by
  refine MI.of (own := RL) rfl rfl (Nat.le_of_ble_eq_true rfl) ?_
  intro pP eE sS mM below meth cC ls AA E hw hl hr hlk hE
  replace hl : lv_has ls 8 [(0, .ref (b 0)), (1, .int (nI (p))), (2, .int (nI (k))), (3, .int (nI (d))), (4, .int (nI (f))), (5, .int (nI (S)))] := hl
  refine lv_iload_n E.1 E.2.1 dL_sentTo_0 rfl (lv_at hl 1 rfl) ?_
  refine lv_istore (lv' := [(6, .int (nI (p))), (0, .ref (b 0)), (1, .int (nI (p))), (2, .int (nI (k))), (3, .int (nI (d))), (4, .int (nI (f))), (5, .int (nI (S)))]) E.1 E.2.1 dL_sentTo_1 hl (by decide) rfl (fun ls hl => ?_)
  refine lv_iconst (v := nI 0) E.1 E.2.1 dL_sentTo_3 (by decide) ?_
  refine lv_istore (lv' := [(7, .int (nI (0))), (6, .int (nI (p))), (0, .ref (b 0)), (1, .int (nI (p))), (2, .int (nI (k))), (3, .int (nI (d))), (4, .int (nI (f))), (5, .int (nI (S)))]) E.1 E.2.1 dL_sentTo_4 hl (by decide) rfl (fun ls hl => ?_)
  refine W_ind1 (nL := 8) (P := fun c => c ≤ 4) (μ := fun c => 4 - c) (I := fun c => cW G b ad v pd rv Ns) (L := fun c => [(0, .ref (b 0)), (1, .int (nI (p))), (2, .int (nI (k))), (3, .int (nI (d))), (4, .int (nI (f))), (5, .int (nI (S))), (6, .int (nI (p + pcn S c))), (7, .int (nI (c)))]) ?_ (0) (Nat.zero_le _) (HB.eq hw (rfl)) (lvh_eq (l := [(0, .ref (b 0)), (1, .int (nI (p))), (2, .int (nI (k))), (3, .int (nI (d))), (4, .int (nI (f))), (5, .int (nI (S))), (6, .int (nI (p))), (7, .int (nI (0)))]) (lv_sub hl [2, 3, 4, 5, 6, 7, 1, 0] rfl) (rfl))
  intro c hP ih H locs ls hw hl
  replace hw : HB G AA sS.heap (cW G b ad v pd rv Ns) H locs := hw
  replace hl : lv_has ls 8 [(0, .ref (b 0)), (1, .int (nI (p))), (2, .int (nI (k))), (3, .int (nI (d))), (4, .int (nI (f))), (5, .int (nI (S))), (6, .int (nI (p + pcn S c))), (7, .int (nI (c)))] := hl
  have hpc := pcn_le (S := S) c
  refine lv_iload E.1 E.2.1 dL_sentTo_6 (lv_at hl 7 rfl) ?_
  refine lv_iconst (v := nI 4) E.1 E.2.1 dL_sentTo_8 (by decide) ?_
  refine lv_icmp_geN (tgt := 55) E.1 E.2.1 (by omega) (by omega) dL_sentTo_9 (by decide) (fun c9 => ?_) (fun c9 => ?_)
  · skip
    refine lv_iload E.1 E.2.1 dL_sentTo_55 (lv_at hl 6 rfl) ?_
    refine lv_iload_n E.1 E.2.1 dL_sentTo_57 rfl (lv_at hl 1 rfl) ?_
    refine lv_isub E.1 E.2.1 dL_sentTo_58 ?_
    refine lv_eqi (y := nI (pcn S 4)) (by rw [show c = 4 by omega, ← nI_add, Int32.add_comm, Int32.add_sub_cancel]) ?_
    exact rI E hr hlk (HB.eq hw (rfl)) (rfl) dL_sentTo_59
  · skip
    refine lv_iload E.1 E.2.1 dL_sentTo_12 (lv_at hl 5 rfl) ?_
    refine lv_iload E.1 E.2.1 dL_sentTo_14 (lv_at hl 7 rfl) ?_
    refine callSX E (c_L_has l G S c hS (by omega)) ES.eb (fun _ _ _ => trivial) mn_8_2 YL_has ⟨rfl, rfl⟩ ⟨Nat.le_of_ble_eq_true rfl, Nat.le_of_ble_eq_true rfl⟩ ⟨Nat.le_of_ble_eq_true rfl, Nat.le_of_ble_eq_true rfl⟩ hw (w := []) (w' := []) (rr := cW G b ad v pd rv Ns) (big' := cW G b ad v pd rv Ns) (List.Perm.refl _) (List.Perm.refl _) rfl hl rfl (Nat.le_of_ble_eq_true rfl) dL_sentTo_16 (fun H locs hw => ?_)
    refine lv_if_eqB (tgt := 49) E.1 E.2.1 dL_sentTo_19 (by decide) (fun c19 => ?_) (fun c19 => ?_)
    · skip
      refine lv_iincN (k := 7) (lv' := [(7, .int (nI (c + 1))), (0, .ref (b 0)), (1, .int (nI (p))), (2, .int (nI (k))), (3, .int (nI (d))), (4, .int (nI (f))), (5, .int (nI (S))), (6, .int (nI (p + pcn S c)))]) E.1 E.2.1 dL_sentTo_49 hl rfl (by decide) rfl (fun ls hl => ?_)
      refine lv_goto (tgt := 6) E.1 E.2.1 dL_sentTo_52 (by decide) ?_
      exact ih (c + 1) (by omega) (by omega) _ _ _ (HB.eq hw (rfl)) (lvh_eq (l := [(0, .ref (b 0)), (1, .int (nI (p))), (2, .int (nI (k))), (3, .int (nI (d))), (4, .int (nI (f))), (5, .int (nI (S))), (6, .int (nI (p + pcn S c))), (7, .int (nI (c + 1)))]) (lv_sub hl [1, 2, 3, 4, 5, 6, 7, 0] rfl) (by rw [pcn_s0 c19]))
    · skip
      refine lv_iload E.1 E.2.1 dL_sentTo_22 (lv_at hl 6 rfl) ?_
      refine lv_bipush (v := nI 60) E.1 E.2.1 dL_sentTo_24 (by decide) ?_
      refine lv_icmp_geN (tgt := 46) E.1 E.2.1 (by omega) (by omega) dL_sentTo_26 (by decide) (fun c26 => ?_) (fun c26 => ?_)
      · skip
        refine lv_iincN (k := 6) (lv' := [(6, .int (nI (p + pcn S c + 1))), (0, .ref (b 0)), (1, .int (nI (p))), (2, .int (nI (k))), (3, .int (nI (d))), (4, .int (nI (f))), (5, .int (nI (S))), (7, .int (nI (c)))]) E.1 E.2.1 dL_sentTo_46 hl rfl (by decide) rfl (fun ls hl => ?_)
        refine lv_iincN (k := 7) (lv' := [(7, .int (nI (c + 1))), (6, .int (nI (p + pcn S c + 1))), (0, .ref (b 0)), (1, .int (nI (p))), (2, .int (nI (k))), (3, .int (nI (d))), (4, .int (nI (f))), (5, .int (nI (S)))]) E.1 E.2.1 dL_sentTo_49 hl rfl (by decide) rfl (fun ls hl => ?_)
        refine lv_goto (tgt := 6) E.1 E.2.1 dL_sentTo_52 (by decide) ?_
        exact ih (c + 1) (by omega) (by omega) _ _ _ (HB.eq hw (rfl)) (lvh_eq (l := [(0, .ref (b 0)), (1, .int (nI (p))), (2, .int (nI (k))), (3, .int (nI (d))), (4, .int (nI (f))), (5, .int (nI (S))), (6, .int (nI (p + pcn S c + 1))), (7, .int (nI (c + 1)))]) (lv_sub hl [2, 3, 4, 5, 6, 7, 1, 0] rfl) (by rw [pcn_s1 c19]; rfl))
      · skip
        refine lv_aload_n E.1 E.2.1 dL_sentTo_29 rfl (lv_at hl 0 rfl) ?_
        refine lv_iload E.1 E.2.1 dL_sentTo_30 (lv_at hl 6 rfl) ?_
        refine lv_iload_n E.1 E.2.1 dL_sentTo_32 rfl (lv_at hl 2 rfl) ?_
        refine lv_iload_n E.1 E.2.1 dL_sentTo_33 rfl (lv_at hl 3 rfl) ?_
        refine lv_iload E.1 E.2.1 dL_sentTo_34 (lv_at hl 4 rfl) ?_
        refine lv_iload E.1 E.2.1 dL_sentTo_36 (lv_at hl 7 rfl) ?_
        have h19 : S.testBit c = true := c19
        obtain ⟨s6, s0, s1, s2, s3⟩ := hs c (by omega) h19 (by omega)
        refine callSX E (c_L_isMessage l G b ad v pd rv Ns hF (p + pcn S c) k d f c s6 s0 s1 s2 s3 hk hd hf (by omega)) ES.eb (fun _ _ _ => trivial) mn_8_5 YL_isMessage ⟨rfl, rfl⟩ ⟨Nat.le_of_ble_eq_true rfl, Nat.le_of_ble_eq_true rfl⟩ ⟨Nat.le_of_ble_eq_true rfl, Nat.le_of_ble_eq_true rfl⟩ hw (rr := []) (big' := cW G b ad v pd rv Ns) (by rw [List.append_nil]) (by rw [List.append_nil]) rfl hl rfl (Nat.le_of_ble_eq_true rfl) dL_sentTo_38 (fun H locs hw => ?_)
        refine lv_eqi (y := nI (1)) (by decide) ?_
        refine lv_if_neN (tgt := 46) E.1 E.2.1 (by omega) dL_sentTo_41 (by decide) (fun c41 => ?_) (fun c41 => ?_)
        · skip
          refine lv_iincN (k := 6) (lv' := [(6, .int (nI (p + pcn S c + 1))), (0, .ref (b 0)), (1, .int (nI (p))), (2, .int (nI (k))), (3, .int (nI (d))), (4, .int (nI (f))), (5, .int (nI (S))), (7, .int (nI (c)))]) E.1 E.2.1 dL_sentTo_46 hl rfl (by decide) rfl (fun ls hl => ?_)
          refine lv_iincN (k := 7) (lv' := [(7, .int (nI (c + 1))), (6, .int (nI (p + pcn S c + 1))), (0, .ref (b 0)), (1, .int (nI (p))), (2, .int (nI (k))), (3, .int (nI (d))), (4, .int (nI (f))), (5, .int (nI (S)))]) E.1 E.2.1 dL_sentTo_49 hl rfl (by decide) rfl (fun ls hl => ?_)
          refine lv_goto (tgt := 6) E.1 E.2.1 dL_sentTo_52 (by decide) ?_
          exact ih (c + 1) (by omega) (by omega) _ _ _ (HB.eq hw (rfl)) (lvh_eq (l := [(0, .ref (b 0)), (1, .int (nI (p))), (2, .int (nI (k))), (3, .int (nI (d))), (4, .int (nI (f))), (5, .int (nI (S))), (6, .int (nI (p + pcn S c + 1))), (7, .int (nI (c + 1)))]) (lv_sub hl [2, 3, 4, 5, 6, 7, 1, 0] rfl) (by rw [pcn_s1 c19]; rfl))
        · exact absurd c41 (by decide)

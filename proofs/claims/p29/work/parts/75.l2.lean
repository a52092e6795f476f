theorem bit_an {S R e : Nat} (he : e < 4) : (S &&& (15 ^^^ R)).testBit e = true ↔ (S.testBit e = true ∧ ¬ R.testBit e = true) := by
  rw [Nat.testBit_and, Nat.testBit_xor, Bool.and_eq_true, show Nat.testBit 15 e = true by
    rcases (show e = 0 ∨ e = 1 ∨ e = 2 ∨ e = 3 by omega) with rfl | rfl | rfl | rfl <;> rfl]
  cases R.testBit e <;> simp
theorem bit_rd {N : NS} {d e : Nat} (he : e < 4) : (N (30 + 14 * d + 0) &&& (15 ^^^ cOf d 1 N)).testBit e = true ↔ ((N (30 + 14 * d + 0)).testBit e = true ∧ ¬ N (30 + 14 * d + (6 + e)) = 1) := by
  rw [bit_an he, cOf_t he]
  exact ⟨fun z => ⟨z.1, fun q => z.2 ⟨z.1, q⟩⟩, fun z => ⟨z.1, fun q => z.2 q.2⟩⟩
theorem cqI_no {d c : Nat} {N : NS} (h : ¬ (¬ N (10 + c) = 1 ∧ (N (30 + 14 * d + 0)).testBit c = true ∧ N (30 + 14 * d + (6 + c)) = 1)) : cqI d N (c + 1) = cqI d N c := by
  rw [cqI, if_neg (fun z => h (caB_i.mp z).2), Nat.or_zero]
theorem YL_isAsk : YS yL_isAsk RL cL_isAsk 7 (some .boolean) 2 := ⟨mn_16_5, mn_3_2, mn_16_6, by decide +kernel⟩
set_option maxHeartbeats 4000000 in
set_option maxRecDepth 100000 in
theorem c_L_isAsk (l : Launch) (G : GP) (b : Nat → Nat) (ad : Nat → Nat → Nat) (v pd rv : Nat → Int32) (Ns : Nat → NS) (hF : FI (Ns 0)) (hDV : dvI (Ns 0) 5 = Ns 0 7) (hm : ∀ p, p < Ns 0 6 → Ns 0 (150 + 4 * p + 3) < 2 ^ 31) (d : Nat) (hd : d < Ns 0 5) : MI l yL_isAsk (.code yL_isAsk cL_isAsk 7 (some .boolean) :: GW) ({ frames := 4, cells := 0, slots := 0, locals := 89 }) [.ref (b 0), .int (nI (d))] G (ES) (cW G b ad v pd rv Ns) (cW G b ad v pd rv Ns) (1) := by
  refine MI.of (own := RL) rfl rfl (Nat.le_of_ble_eq_true rfl) ?_
  intro pP eE sS mM below meth cC ls AA E hw hl hr hlk hE
  replace hl : lv_has ls 7 [(0, .ref (b 0)), (1, .int (nI (d)))] := hl
  have h5 := hF.2.1
  have h3 := hF.2.2.2.1
  have hS := hF.f0 (d := d) (by omega)
  have hR : cOf d 1 (Ns 0) < 16 := cOf_lt
  have f1 := hF.f1 (d := d) (by omega)
  have hand : Ns 0 (30 + 14 * d + 0) &&& (15 ^^^ cOf d 1 (Ns 0)) < 16 := and_lt16 hS
  have i4 : Ns 0 14 ≤ 1 := hF.il (w := 4) (by omega)
  refine lv_iconst (v := nI 0) E.1 E.2.1 dL_isAsk_0 (by decide) ?_
  refine lv_istore_n (lv' := [(2, .int (nI (0))), (0, .ref (b 0)), (1, .int (nI (d)))]) E.1 E.2.1 dL_isAsk_1 rfl hl (by decide) rfl (fun ls hl => ?_)
  refine lv_iconst (v := nI 0) E.1 E.2.1 dL_isAsk_2 (by decide) ?_
  refine lv_istore_n (lv' := [(3, .int (nI (0))), (2, .int (nI (0))), (0, .ref (b 0)), (1, .int (nI (d)))]) E.1 E.2.1 dL_isAsk_3 rfl hl (by decide) rfl (fun ls hl => ?_)
  refine W_ind1 (nL := 7) (P := fun c => c ≤ 4) (μ := fun c => 4 - c) (I := fun c => cW G b ad v pd rv Ns) (L := fun c => [(0, .ref (b 0)), (1, .int (nI (d))), (2, .int (nI (cqI d (Ns 0) c))), (3, .int (nI (c)))]) ?_ (0) (Nat.zero_le _) (HB.eq hw (rfl)) (lvh_eq (l := [(0, .ref (b 0)), (1, .int (nI (d))), (2, .int (nI (0))), (3, .int (nI (0)))]) (lv_sub hl [2, 3, 1, 0] rfl) (rfl))
  intro c hPc ihc H locs ls hw hl
  replace hw : HB G AA sS.heap (cW G b ad v pd rv Ns) H locs := hw
  replace hl : lv_has ls 7 [(0, .ref (b 0)), (1, .int (nI (d))), (2, .int (nI (cqI d (Ns 0) c))), (3, .int (nI (c)))] := hl
  refine lv_iload_n E.1 E.2.1 dL_isAsk_4 rfl (lv_at hl 3 rfl) ?_
  refine lv_iconst (v := nI 4) E.1 E.2.1 dL_isAsk_5 (by decide) ?_
  refine lv_icmp_geN (tgt := 167) E.1 E.2.1 (by omega) (by omega) dL_isAsk_6 (by decide) (fun c6 => ?_) (fun c6 => ?_)
  · skip
    have hq : cqI d (Ns 0) 4 < 16 := by rw [cqI_b]; exact bitsI_lt 4
    have hq2 : cqI d (Ns 0) c < 16 := by rw [show c = 4 by omega]; exact hq
    refine lv_aload_n E.1 E.2.1 dL_isAsk_167 rfl (lv_at hl 0 rfl) ?_
    refine lv_iload_n E.1 E.2.1 dL_isAsk_168 rfl (lv_at hl 1 rfl) ?_
    refine callVIp E (c_X3_couldAsk_ok l G b ad v pd rv Ns d hd hF) ES.eb (fun _ _ _ => trivial) mn_16_7 YX3_couldAsk ⟨rfl, rfl⟩ ⟨Nat.le_of_ble_eq_true rfl, Nat.le_of_ble_eq_true rfl⟩ ⟨Nat.le_of_ble_eq_true rfl, Nat.le_of_ble_eq_true rfl⟩ hw (rr := []) (big' := cW G b ad v pd rv Ns) (by rw [List.append_nil]) (by rw [List.append_nil]) 0 rfl rfl rfl hl rfl (Nat.le_of_ble_eq_true rfl) dL_isAsk_169 (fun H locs hw => ?_)
    refine lv_iload_n E.1 E.2.1 dL_isAsk_172 rfl (lv_at hl 2 rfl) ?_
    refine lv_icmp_neN (tgt := 180) E.1 E.2.1 (by omega) (by omega) dL_isAsk_173 (by decide) (fun c173 => ?_) (fun c173 => ?_)
    · exact absurd (by rw [show c = 4 by omega]) c173
    · skip
      refine lv_iconst (v := nI 1) E.1 E.2.1 dL_isAsk_176 (by decide) ?_
      refine lv_goto (tgt := 181) E.1 E.2.1 dL_isAsk_177 (by decide) ?_
      exact rZ E hr hlk (HB.eq hw (rfl)) (rfl) rfl dL_isAsk_181
  · skip
    refine lv_aload_n E.1 E.2.1 dL_isAsk_9 rfl (lv_at hl 0 rfl) ?_
    refine lv_iload_n E.1 E.2.1 dL_isAsk_10 rfl (lv_at hl 3 rfl) ?_
    refine lv_iconst (v := nI 0) E.1 E.2.1 dL_isAsk_11 (by decide) ?_
    have ic := hF.il (w := c) (by omega)
    refine callVIp E (c_X3_who_ok l G b ad v pd rv Ns c 0 (by omega) (by decide) hF hm) ES.eb (fun _ _ _ => trivial) mn_6_14 YX3_who ⟨rfl, rfl⟩ ⟨Nat.le_of_ble_eq_true rfl, Nat.le_of_ble_eq_true rfl⟩ ⟨Nat.le_of_ble_eq_true rfl, Nat.le_of_ble_eq_true rfl⟩ hw (rr := []) (big' := cW G b ad v pd rv Ns) (by rw [List.append_nil]) (by rw [List.append_nil]) 0 rfl rfl rfl hl rfl (Nat.le_of_ble_eq_true rfl) dL_isAsk_12 (fun H locs hw => ?_)
    refine lv_eqi (y := nI (Ns 0 (10 + c))) (rfl) ?_
    refine lv_if_neN (tgt := 161) E.1 E.2.1 (by omega) dL_isAsk_15 (by decide) (fun c15 => ?_) (fun c15 => ?_)
    · skip
      refine lv_iincN (k := 3) (lv' := [(3, .int (nI (c + 1))), (0, .ref (b 0)), (1, .int (nI (d))), (2, .int (nI (cqI d (Ns 0) c)))]) E.1 E.2.1 dL_isAsk_161 hl rfl (by decide) rfl (fun ls hl => ?_)
      refine lv_goto (tgt := 4) E.1 E.2.1 dL_isAsk_164 (by decide) ?_
      exact ihc (c + 1) (by omega) (by omega) _ _ _ (HB.eq hw (rfl)) (lvh_eq (l := [(0, .ref (b 0)), (1, .int (nI (d))), (2, .int (nI (cqI d (Ns 0) c))), (3, .int (nI (c + 1)))]) (lv_sub hl [1, 2, 3, 0] rfl) (by rw [cqI_no (fun z => z.1 (by omega))]))
    · skip
      refine lv_aload_n E.1 E.2.1 dL_isAsk_18 rfl (lv_at hl 0 rfl) ?_
      refine lv_iload_n E.1 E.2.1 dL_isAsk_19 rfl (lv_at hl 1 rfl) ?_
      refine lv_bipush (v := nI 6) E.1 E.2.1 dL_isAsk_20 (by decide) ?_
      refine callVIp E (c_X3_ofDeal_ok l G b ad v pd rv Ns d (by omega) hF 6 (by decide)) ES.eb (fun _ _ _ => trivial) mn_7_11 YX3_ofDeal ⟨rfl, rfl⟩ ⟨Nat.le_of_ble_eq_true rfl, Nat.le_of_ble_eq_true rfl⟩ ⟨Nat.le_of_ble_eq_true rfl, Nat.le_of_ble_eq_true rfl⟩ hw (rr := []) (big' := cW G b ad v pd rv Ns) (by rw [List.append_nil]) (by rw [List.append_nil]) 0 rfl rfl rfl hl rfl (Nat.le_of_ble_eq_true rfl) dL_isAsk_22 (fun H locs hw => ?_)
      refine lv_eqi (y := nI (cOf d 1 (Ns 0))) (rfl) ?_
      refine lv_iload_n E.1 E.2.1 dL_isAsk_25 rfl (lv_at hl 3 rfl) ?_
      refine callSX E (c_L_has l G (cOf d 1 (Ns 0)) c (by omega) (by omega)) ES.eb (fun _ _ _ => trivial) mn_8_2 YL_has ⟨rfl, rfl⟩ ⟨Nat.le_of_ble_eq_true rfl, Nat.le_of_ble_eq_true rfl⟩ ⟨Nat.le_of_ble_eq_true rfl, Nat.le_of_ble_eq_true rfl⟩ hw (w := []) (w' := []) (rr := cW G b ad v pd rv Ns) (big' := cW G b ad v pd rv Ns) (List.Perm.refl _) (List.Perm.refl _) rfl hl rfl (Nat.le_of_ble_eq_true rfl) dL_isAsk_26 (fun H locs hw => ?_)
      refine lv_if_eqB (tgt := 161) E.1 E.2.1 dL_isAsk_29 (by decide) (fun c29 => ?_) (fun c29 => ?_)
      · skip
        refine lv_iincN (k := 3) (lv' := [(3, .int (nI (c + 1))), (0, .ref (b 0)), (1, .int (nI (d))), (2, .int (nI (cqI d (Ns 0) c)))]) E.1 E.2.1 dL_isAsk_161 hl rfl (by decide) rfl (fun ls hl => ?_)
        refine lv_goto (tgt := 4) E.1 E.2.1 dL_isAsk_164 (by decide) ?_
        exact ihc (c + 1) (by omega) (by omega) _ _ _ (HB.eq hw (rfl)) (lvh_eq (l := [(0, .ref (b 0)), (1, .int (nI (d))), (2, .int (nI (cqI d (Ns 0) c))), (3, .int (nI (c + 1)))]) (lv_sub hl [1, 2, 3, 0] rfl) (by rw [cqI_no (fun z => c29 ((cOf_t (by omega)).mpr z.2))]))
      · skip
        refine W_join0 (G := G) (A := AA) (H0 := sS.heap) (nL := 7) 55 (True) (cW G b ad v pd rv Ns) ([(0, .ref (b 0)), (1, .int (nI (d))), (2, .int (nI (cqI d (Ns 0) c))), (3, .int (nI (c)))]) ([.int (zb (elB d c (Ns 0) 0 = true))]) (fun jk32 => ?_) ?_
        · skip
          refine lv_aload_n E.1 E.2.1 dL_isAsk_32 rfl (lv_at hl 0 rfl) ?_
          refine lv_iconst (v := nI 4) E.1 E.2.1 dL_isAsk_33 (by decide) ?_
          refine lv_iconst (v := nI 0) E.1 E.2.1 dL_isAsk_34 (by decide) ?_
          refine callVIp E (c_X3_who_ok l G b ad v pd rv Ns 4 0 (by decide) (by decide) hF hm) ES.eb (fun _ _ _ => trivial) mn_6_14 YX3_who ⟨rfl, rfl⟩ ⟨Nat.le_of_ble_eq_true rfl, Nat.le_of_ble_eq_true rfl⟩ ⟨Nat.le_of_ble_eq_true rfl, Nat.le_of_ble_eq_true rfl⟩ hw (rr := []) (big' := cW G b ad v pd rv Ns) (by rw [List.append_nil]) (by rw [List.append_nil]) 0 rfl rfl rfl hl rfl (Nat.le_of_ble_eq_true rfl) dL_isAsk_35 (fun H locs hw => ?_)
          refine lv_eqi (y := nI (Ns 0 14)) (rfl) ?_
          refine lv_if_neN (tgt := 54) E.1 E.2.1 (by omega) dL_isAsk_38 (by decide) (fun c38 => ?_) (fun c38 => ?_)
          · skip
            refine lv_iconst (v := nI 0) E.1 E.2.1 dL_isAsk_54 (by decide) ?_
            refine lv_eqi (y := zb (elB d c (Ns 0) 0 = true)) ((zb_f (fun z => (elB_0.mp z).1 (by omega))).symm) ?_
            exact jk32  (trivial) _ _ _ (HB.eq hw (rfl)) (lvh_eq (l := [(0, .ref (b 0)), (1, .int (nI (d))), (2, .int (nI (cqI d (Ns 0) c))), (3, .int (nI (c)))]) (lv_sub hl [0, 1, 2, 3] rfl) (rfl))
          · skip
            refine lv_aload_n E.1 E.2.1 dL_isAsk_41 rfl (lv_at hl 0 rfl) ?_
            refine lv_iload_n E.1 E.2.1 dL_isAsk_42 rfl (lv_at hl 1 rfl) ?_
            refine lv_iconst (v := nI 1) E.1 E.2.1 dL_isAsk_43 (by decide) ?_
            refine callVIp E (c_X3_ofDeal_ok l G b ad v pd rv Ns d (by omega) hF 1 (by decide)) ES.eb (fun _ _ _ => trivial) mn_7_11 YX3_ofDeal ⟨rfl, rfl⟩ ⟨Nat.le_of_ble_eq_true rfl, Nat.le_of_ble_eq_true rfl⟩ ⟨Nat.le_of_ble_eq_true rfl, Nat.le_of_ble_eq_true rfl⟩ hw (rr := []) (big' := cW G b ad v pd rv Ns) (by rw [List.append_nil]) (by rw [List.append_nil]) 0 rfl rfl rfl hl rfl (Nat.le_of_ble_eq_true rfl) dL_isAsk_44 (fun H locs hw => ?_)
            refine lv_eqi (y := nI (Ns 0 (30 + 14 * d + 1))) (rfl) ?_
            refine lv_if_eqN (tgt := 54) E.1 E.2.1 (by omega) dL_isAsk_47 (by decide) (fun c47 => ?_) (fun c47 => ?_)
            · skip
              refine lv_iconst (v := nI 0) E.1 E.2.1 dL_isAsk_54 (by decide) ?_
              refine lv_eqi (y := zb (elB d c (Ns 0) 0 = true)) ((zb_f (fun z => (elB_0.mp z).2 (by omega))).symm) ?_
              exact jk32  (trivial) _ _ _ (HB.eq hw (rfl)) (lvh_eq (l := [(0, .ref (b 0)), (1, .int (nI (d))), (2, .int (nI (cqI d (Ns 0) c))), (3, .int (nI (c)))]) (lv_sub hl [0, 1, 2, 3] rfl) (rfl))
            · skip
              refine lv_iconst (v := nI 1) E.1 E.2.1 dL_isAsk_50 (by decide) ?_
              refine lv_goto (tgt := 55) E.1 E.2.1 dL_isAsk_51 (by decide) ?_
              refine lv_eqi (y := zb (elB d c (Ns 0) 0 = true)) ((zb_t (elB_0.mpr ⟨by omega, by omega⟩)).symm) ?_
              exact jk32  (trivial) _ _ _ (HB.eq hw (rfl)) (lvh_eq (l := [(0, .ref (b 0)), (1, .int (nI (d))), (2, .int (nI (cqI d (Ns 0) c))), (3, .int (nI (c)))]) (lv_sub hl [0, 1, 2, 3] rfl) (rfl))
        · intro  hP32 H locs ls hw hl
          replace hw : HB G AA sS.heap (cW G b ad v pd rv Ns) H locs := hw
          replace hl : lv_has ls 7 [(0, .ref (b 0)), (1, .int (nI (d))), (2, .int (nI (cqI d (Ns 0) c))), (3, .int (nI (c)))] := hl
          show W _ _ _ _ _ _ _ _ _ _ _ _ _ _ _ (F0 mM 55 ls [.int (zb (elB d c (Ns 0) 0 = true))])
          refine lv_istore (lv' := [(4, .int (zb (elB d c (Ns 0) 0 = true))), (0, .ref (b 0)), (1, .int (nI (d))), (2, .int (nI (cqI d (Ns 0) c))), (3, .int (nI (c)))]) E.1 E.2.1 dL_isAsk_55 hl (by decide) rfl (fun ls hl => ?_)
          refine lv_iconst (v := nI 0) E.1 E.2.1 dL_isAsk_57 (by decide) ?_
          refine lv_istore (lv' := [(5, .int (nI (0))), (4, .int (zb (elB d c (Ns 0) 0 = true))), (0, .ref (b 0)), (1, .int (nI (d))), (2, .int (nI (cqI d (Ns 0) c))), (3, .int (nI (c)))]) E.1 E.2.1 dL_isAsk_58 hl (by decide) rfl (fun ls hl => ?_)
          refine W_ind1 (nL := 7) (P := fun e => e ≤ 4) (μ := fun e => 4 - e) (I := fun e => cW G b ad v pd rv Ns) (L := fun e => [(0, .ref (b 0)), (1, .int (nI (d))), (2, .int (nI (cqI d (Ns 0) c))), (3, .int (nI (c))), (4, .int (zb (elB d c (Ns 0) e = true))), (5, .int (nI (e)))]) ?_ (0) (Nat.zero_le _) (HB.eq hw (rfl)) (lvh_eq (l := [(0, .ref (b 0)), (1, .int (nI (d))), (2, .int (nI (cqI d (Ns 0) c))), (3, .int (nI (c))), (4, .int (zb (elB d c (Ns 0) 0 = true))), (5, .int (nI (0)))]) (lv_sub hl [2, 3, 4, 5, 1, 0] rfl) (rfl))
          intro e hPe ihe H locs ls hw hl
          replace hw : HB G AA sS.heap (cW G b ad v pd rv Ns) H locs := hw
          replace hl : lv_has ls 7 [(0, .ref (b 0)), (1, .int (nI (d))), (2, .int (nI (cqI d (Ns 0) c))), (3, .int (nI (c))), (4, .int (zb (elB d c (Ns 0) e = true))), (5, .int (nI (e)))] := hl
          refine lv_iload E.1 E.2.1 dL_isAsk_60 (lv_at hl 5 rfl) ?_
          refine lv_iconst (v := nI 4) E.1 E.2.1 dL_isAsk_62 (by decide) ?_
          refine lv_icmp_geN (tgt := 146) E.1 E.2.1 (by omega) (by omega) dL_isAsk_63 (by decide) (fun c63 => ?_) (fun c63 => ?_)
          · skip
            refine lv_iload_n E.1 E.2.1 dL_isAsk_146 rfl (lv_at hl 2 rfl) ?_
            refine W_join0 (G := G) (A := AA) (H0 := sS.heap) (nL := 7) 159 (True) (cW G b ad v pd rv Ns) ([(0, .ref (b 0)), (1, .int (nI (d))), (2, .int (nI (cqI d (Ns 0) c))), (3, .int (nI (c))), (4, .int (zb (elB d c (Ns 0) e = true))), (5, .int (nI (e)))]) ([.int (nI (if caB d c (Ns 0) = true then 2 ^ c else 0)), .int (nI (cqI d (Ns 0) c))]) (fun jk147 => ?_) ?_
            · skip
              refine lv_iload E.1 E.2.1 dL_isAsk_147 (lv_at hl 4 rfl) ?_
              refine lv_if_eqB (tgt := 158) E.1 E.2.1 dL_isAsk_149 (by decide) (fun c149 => ?_) (fun c149 => ?_)
              · skip
                refine lv_iconst (v := nI 0) E.1 E.2.1 dL_isAsk_158 (by decide) ?_
                refine lv_eqi (y := nI (if caB d c (Ns 0) = true then 2 ^ c else 0)) (by rw [if_neg (show ¬ caB d c (Ns 0) = true from fun z => c149 (by rw [show e = 4 by omega]; exact (caB_i.mp z).1))]) ?_
                exact jk147  (trivial) _ _ _ (HB.eq hw (rfl)) (lvh_eq (l := [(0, .ref (b 0)), (1, .int (nI (d))), (2, .int (nI (cqI d (Ns 0) c))), (3, .int (nI (c))), (4, .int (zb (elB d c (Ns 0) e = true))), (5, .int (nI (e)))]) (lv_sub hl [0, 1, 2, 3, 4, 5] rfl) (rfl))
              · skip
                refine lv_iconst (v := nI 1) E.1 E.2.1 dL_isAsk_152 (by decide) ?_
                refine lv_iload_n E.1 E.2.1 dL_isAsk_153 rfl (lv_at hl 3 rfl) ?_
                refine lv_ishl E.1 E.2.1 dL_isAsk_154 (lv_eqi (y := nI (2 ^ c)) (shl_1 _ (by omega)) ?_)
                refine lv_goto (tgt := 159) E.1 E.2.1 dL_isAsk_155 (by decide) ?_
                refine lv_eqi (y := nI (if caB d c (Ns 0) = true then 2 ^ c else 0)) (by rw [if_pos (caB_i.mpr ⟨by have q := c149; rw [show e = 4 by omega] at q; exact q, by omega, ((cOf_t (by omega)).mp c29).1, ((cOf_t (by omega)).mp c29).2⟩)]) ?_
                exact jk147  (trivial) _ _ _ (HB.eq hw (rfl)) (lvh_eq (l := [(0, .ref (b 0)), (1, .int (nI (d))), (2, .int (nI (cqI d (Ns 0) c))), (3, .int (nI (c))), (4, .int (zb (elB d c (Ns 0) e = true))), (5, .int (nI (e)))]) (lv_sub hl [0, 1, 2, 3, 4, 5] rfl) (rfl))
            · intro  hP147 H locs ls hw hl
              replace hw : HB G AA sS.heap (cW G b ad v pd rv Ns) H locs := hw
              replace hl : lv_has ls 7 [(0, .ref (b 0)), (1, .int (nI (d))), (2, .int (nI (cqI d (Ns 0) c))), (3, .int (nI (c))), (4, .int (zb (elB d c (Ns 0) e = true))), (5, .int (nI (e)))] := hl
              show W _ _ _ _ _ _ _ _ _ _ _ _ _ _ _ (F0 mM 159 ls [.int (nI (if caB d c (Ns 0) = true then 2 ^ c else 0)), .int (nI (cqI d (Ns 0) c))])
              refine lv_ior E.1 E.2.1 dL_isAsk_159 (lv_eqi (y := nI (cqI d (Ns 0) c ||| (if caB d c (Ns 0) = true then 2 ^ c else 0))) (or_nI _ _) ?_)
              refine lv_eqi (y := nI (cqI d (Ns 0) (c + 1))) (rfl) ?_
              refine lv_istore_n (lv' := [(2, .int (nI (cqI d (Ns 0) (c + 1)))), (0, .ref (b 0)), (1, .int (nI (d))), (3, .int (nI (c))), (4, .int (zb (elB d c (Ns 0) e = true))), (5, .int (nI (e)))]) E.1 E.2.1 dL_isAsk_160 rfl hl (by decide) rfl (fun ls hl => ?_)
              refine lv_iincN (k := 3) (lv' := [(3, .int (nI (c + 1))), (2, .int (nI (cqI d (Ns 0) (c + 1)))), (0, .ref (b 0)), (1, .int (nI (d))), (4, .int (zb (elB d c (Ns 0) e = true))), (5, .int (nI (e)))]) E.1 E.2.1 dL_isAsk_161 hl rfl (by decide) rfl (fun ls hl => ?_)
              refine lv_goto (tgt := 4) E.1 E.2.1 dL_isAsk_164 (by decide) ?_
              exact ihc (c + 1) (by omega) (by omega) _ _ _ (HB.eq hw (rfl)) (lvh_eq (l := [(0, .ref (b 0)), (1, .int (nI (d))), (2, .int (nI (cqI d (Ns 0) (c + 1)))), (3, .int (nI (c + 1)))]) (lv_sub hl [2, 3, 1, 0] rfl) (rfl))
          · skip
            refine W_join0 (G := G) (A := AA) (H0 := sS.heap) (nL := 7) 111 (True) (cW G b ad v pd rv Ns) ([(0, .ref (b 0)), (1, .int (nI (d))), (2, .int (nI (cqI d (Ns 0) c))), (3, .int (nI (c))), (4, .int (zb (elB d c (Ns 0) e = true))), (5, .int (nI (e)))]) ([.int (zb (Ns 0 3 = 1 ∧ ¬ e = c ∧ (Ns 0 (30 + 14 * d + 0)).testBit e = true ∧ ¬ Ns 0 (30 + 14 * d + (6 + e)) = 1))]) (fun jk66 => ?_) ?_
            · skip
              refine lv_aload_n E.1 E.2.1 dL_isAsk_66 rfl (lv_at hl 0 rfl) ?_
              refine lv_bipush (v := nI 10) E.1 E.2.1 dL_isAsk_67 (by decide) ?_
              refine callVIp E (c_X3_count_ok l G b ad v pd rv Ns 10 (by decide) (by decide) (by decide) hF hDV) ES.eb (fun _ _ _ => trivial) mn_3_8 YX3_count ⟨rfl, rfl⟩ ⟨Nat.le_of_ble_eq_true rfl, Nat.le_of_ble_eq_true rfl⟩ ⟨Nat.le_of_ble_eq_true rfl, Nat.le_of_ble_eq_true rfl⟩ hw (rr := []) (big' := cW G b ad v pd rv Ns) (by rw [List.append_nil]) (by rw [List.append_nil]) 0 rfl rfl rfl hl rfl (Nat.le_of_ble_eq_true rfl) dL_isAsk_69 (fun H locs hw => ?_)
              refine lv_eqi (y := nI (Ns 0 3)) (rfl) ?_
              refine lv_iconst (v := nI 1) E.1 E.2.1 dL_isAsk_72 (by decide) ?_
              refine lv_icmp_neN (tgt := 110) E.1 E.2.1 (by omega) (by omega) dL_isAsk_73 (by decide) (fun c73 => ?_) (fun c73 => ?_)
              · skip
                refine lv_iconst (v := nI 0) E.1 E.2.1 dL_isAsk_110 (by decide) ?_
                refine lv_eqi (y := zb (Ns 0 3 = 1 ∧ ¬ e = c ∧ (Ns 0 (30 + 14 * d + 0)).testBit e = true ∧ ¬ Ns 0 (30 + 14 * d + (6 + e)) = 1)) ((zb_f (fun z => c73 z.1)).symm) ?_
                exact jk66  (trivial) _ _ _ (HB.eq hw (rfl)) (lvh_eq (l := [(0, .ref (b 0)), (1, .int (nI (d))), (2, .int (nI (cqI d (Ns 0) c))), (3, .int (nI (c))), (4, .int (zb (elB d c (Ns 0) e = true))), (5, .int (nI (e)))]) (lv_sub hl [0, 1, 2, 3, 4, 5] rfl) (rfl))
              · skip
                refine lv_iload E.1 E.2.1 dL_isAsk_76 (lv_at hl 5 rfl) ?_
                refine lv_iload_n E.1 E.2.1 dL_isAsk_78 rfl (lv_at hl 3 rfl) ?_
                refine lv_icmp_eqN (tgt := 110) E.1 E.2.1 (by omega) (by omega) dL_isAsk_79 (by decide) (fun c79 => ?_) (fun c79 => ?_)
                · skip
                  refine lv_iconst (v := nI 0) E.1 E.2.1 dL_isAsk_110 (by decide) ?_
                  refine lv_eqi (y := zb (Ns 0 3 = 1 ∧ ¬ e = c ∧ (Ns 0 (30 + 14 * d + 0)).testBit e = true ∧ ¬ Ns 0 (30 + 14 * d + (6 + e)) = 1)) ((zb_f (fun z => z.2.1 (by omega))).symm) ?_
                  exact jk66  (trivial) _ _ _ (HB.eq hw (rfl)) (lvh_eq (l := [(0, .ref (b 0)), (1, .int (nI (d))), (2, .int (nI (cqI d (Ns 0) c))), (3, .int (nI (c))), (4, .int (zb (elB d c (Ns 0) e = true))), (5, .int (nI (e)))]) (lv_sub hl [0, 1, 2, 3, 4, 5] rfl) (rfl))
                · skip
                  refine lv_aload_n E.1 E.2.1 dL_isAsk_82 rfl (lv_at hl 0 rfl) ?_
                  refine lv_iload_n E.1 E.2.1 dL_isAsk_83 rfl (lv_at hl 1 rfl) ?_
                  refine lv_iconst (v := nI 0) E.1 E.2.1 dL_isAsk_84 (by decide) ?_
                  refine callVIp E (c_X3_ofDeal_ok l G b ad v pd rv Ns d (by omega) hF 0 (by decide)) ES.eb (fun _ _ _ => trivial) mn_7_11 YX3_ofDeal ⟨rfl, rfl⟩ ⟨Nat.le_of_ble_eq_true rfl, Nat.le_of_ble_eq_true rfl⟩ ⟨Nat.le_of_ble_eq_true rfl, Nat.le_of_ble_eq_true rfl⟩ hw (rr := []) (big' := cW G b ad v pd rv Ns) (by rw [List.append_nil]) (by rw [List.append_nil]) 0 rfl rfl rfl hl rfl (Nat.le_of_ble_eq_true rfl) dL_isAsk_85 (fun H locs hw => ?_)
                  refine lv_eqi (y := nI (Ns 0 (30 + 14 * d + 0))) (rfl) ?_
                  refine lv_aload_n E.1 E.2.1 dL_isAsk_88 rfl (lv_at hl 0 rfl) ?_
                  refine lv_iload_n E.1 E.2.1 dL_isAsk_89 rfl (lv_at hl 1 rfl) ?_
                  refine lv_bipush (v := nI 6) E.1 E.2.1 dL_isAsk_90 (by decide) ?_
                  refine callVIp E (c_X3_ofDeal_ok l G b ad v pd rv Ns d (by omega) hF 6 (by decide)) ES.eb (fun _ _ _ => trivial) mn_7_11 YX3_ofDeal ⟨rfl, rfl⟩ ⟨Nat.le_of_ble_eq_true rfl, Nat.le_of_ble_eq_true rfl⟩ ⟨Nat.le_of_ble_eq_true rfl, Nat.le_of_ble_eq_true rfl⟩ hw (rr := []) (big' := cW G b ad v pd rv Ns) (by rw [List.append_nil]) (by rw [List.append_nil]) 0 rfl rfl rfl hl rfl (Nat.le_of_ble_eq_true rfl) dL_isAsk_92 (fun H locs hw => ?_)
                  refine lv_eqi (y := nI (cOf d 1 (Ns 0))) (rfl) ?_
                  refine lv_iconst (v := -1) E.1 E.2.1 dL_isAsk_95 (by decide) ?_
                  refine lv_ixor E.1 E.2.1 dL_isAsk_96 ?_
                  refine lv_iand E.1 E.2.1 dL_isAsk_97 (lv_eqi (y := nI (Ns 0 (30 + 14 * d + 0) &&& (15 ^^^ (cOf d 1 (Ns 0))))) (andn_nI _ (by omega) _ (by omega)) ?_)
                  refine lv_iload E.1 E.2.1 dL_isAsk_98 (lv_at hl 5 rfl) ?_
                  refine callSX E (c_L_has l G (Ns 0 (30 + 14 * d + 0) &&& (15 ^^^ (cOf d 1 (Ns 0)))) e (by omega) (by omega)) ES.eb (fun _ _ _ => trivial) mn_8_2 YL_has ⟨rfl, rfl⟩ ⟨Nat.le_of_ble_eq_true rfl, Nat.le_of_ble_eq_true rfl⟩ ⟨Nat.le_of_ble_eq_true rfl, Nat.le_of_ble_eq_true rfl⟩ hw (w := []) (w' := []) (rr := cW G b ad v pd rv Ns) (big' := cW G b ad v pd rv Ns) (List.Perm.refl _) (List.Perm.refl _) rfl hl rfl (Nat.le_of_ble_eq_true rfl) dL_isAsk_100 (fun H locs hw => ?_)
                  refine lv_if_eqB (tgt := 110) E.1 E.2.1 dL_isAsk_103 (by decide) (fun c103 => ?_) (fun c103 => ?_)
                  · skip
                    refine lv_iconst (v := nI 0) E.1 E.2.1 dL_isAsk_110 (by decide) ?_
                    refine lv_eqi (y := zb (Ns 0 3 = 1 ∧ ¬ e = c ∧ (Ns 0 (30 + 14 * d + 0)).testBit e = true ∧ ¬ Ns 0 (30 + 14 * d + (6 + e)) = 1)) ((zb_f (fun z => c103 ((bit_rd (by omega)).mpr z.2.2))).symm) ?_
                    exact jk66  (trivial) _ _ _ (HB.eq hw (rfl)) (lvh_eq (l := [(0, .ref (b 0)), (1, .int (nI (d))), (2, .int (nI (cqI d (Ns 0) c))), (3, .int (nI (c))), (4, .int (zb (elB d c (Ns 0) e = true))), (5, .int (nI (e)))]) (lv_sub hl [0, 1, 2, 3, 4, 5] rfl) (rfl))
                  · skip
                    refine lv_iconst (v := nI 1) E.1 E.2.1 dL_isAsk_106 (by decide) ?_
                    refine lv_goto (tgt := 111) E.1 E.2.1 dL_isAsk_107 (by decide) ?_
                    refine lv_eqi (y := zb (Ns 0 3 = 1 ∧ ¬ e = c ∧ (Ns 0 (30 + 14 * d + 0)).testBit e = true ∧ ¬ Ns 0 (30 + 14 * d + (6 + e)) = 1)) ((zb_t (⟨by omega, by omega, (bit_rd (by omega)).mp c103⟩)).symm) ?_
                    exact jk66  (trivial) _ _ _ (HB.eq hw (rfl)) (lvh_eq (l := [(0, .ref (b 0)), (1, .int (nI (d))), (2, .int (nI (cqI d (Ns 0) c))), (3, .int (nI (c))), (4, .int (zb (elB d c (Ns 0) e = true))), (5, .int (nI (e)))]) (lv_sub hl [0, 1, 2, 3, 4, 5] rfl) (rfl))
            · intro  hP66 H locs ls hw hl
              replace hw : HB G AA sS.heap (cW G b ad v pd rv Ns) H locs := hw
              replace hl : lv_has ls 7 [(0, .ref (b 0)), (1, .int (nI (d))), (2, .int (nI (cqI d (Ns 0) c))), (3, .int (nI (c))), (4, .int (zb (elB d c (Ns 0) e = true))), (5, .int (nI (e)))] := hl
              show W _ _ _ _ _ _ _ _ _ _ _ _ _ _ _ (F0 mM 111 ls [.int (zb (Ns 0 3 = 1 ∧ ¬ e = c ∧ (Ns 0 (30 + 14 * d + 0)).testBit e = true ∧ ¬ Ns 0 (30 + 14 * d + (6 + e)) = 1))])
              refine lv_istore (lv' := [(6, .int (zb (Ns 0 3 = 1 ∧ ¬ e = c ∧ (Ns 0 (30 + 14 * d + 0)).testBit e = true ∧ ¬ Ns 0 (30 + 14 * d + (6 + e)) = 1))), (0, .ref (b 0)), (1, .int (nI (d))), (2, .int (nI (cqI d (Ns 0) c))), (3, .int (nI (c))), (4, .int (zb (elB d c (Ns 0) e = true))), (5, .int (nI (e)))]) E.1 E.2.1 dL_isAsk_111 hl (by decide) rfl (fun ls hl => ?_)
              refine W_join0 (G := G) (A := AA) (H0 := sS.heap) (nL := 7) 138 (True) (cW G b ad v pd rv Ns) ([(6, .int (zb (Ns 0 3 = 1 ∧ ¬ e = c ∧ (Ns 0 (30 + 14 * d + 0)).testBit e = true ∧ ¬ Ns 0 (30 + 14 * d + (6 + e)) = 1))), (0, .ref (b 0)), (1, .int (nI (d))), (2, .int (nI (cqI d (Ns 0) c))), (3, .int (nI (c))), (4, .int (zb (elB d c (Ns 0) e = true))), (5, .int (nI (e)))]) ([.int (zb (elB d c (Ns 0) (e + 1) = true))]) (fun jk113 => ?_) ?_
              · skip
                refine lv_iload E.1 E.2.1 dL_isAsk_113 (lv_at hl 5 rfl) ?_
                refine lv_if_neB (tgt := 133) E.1 E.2.1 dL_isAsk_115 (by decide) (fun c115 => ?_) (fun c115 => ?_)
                · skip
                  refine lv_iconst (v := nI 1) E.1 E.2.1 dL_isAsk_133 (by decide) ?_
                  refine lv_goto (tgt := 138) E.1 E.2.1 dL_isAsk_134 (by decide) ?_
                  refine lv_eqi (y := zb (elB d c (Ns 0) (e + 1) = true)) ((zb_t (elB_s.mpr (Or.inl c115))).symm) ?_
                  exact jk113  (trivial) _ _ _ (HB.eq hw (rfl)) (lvh_eq (l := [(6, .int (zb (Ns 0 3 = 1 ∧ ¬ e = c ∧ (Ns 0 (30 + 14 * d + 0)).testBit e = true ∧ ¬ Ns 0 (30 + 14 * d + (6 + e)) = 1))), (0, .ref (b 0)), (1, .int (nI (d))), (2, .int (nI (cqI d (Ns 0) c))), (3, .int (nI (c))), (4, .int (zb (elB d c (Ns 0) e = true))), (5, .int (nI (e)))]) (lv_sub hl [0, 1, 2, 3, 4, 5, 6] rfl) (rfl))
                · skip
                  refine lv_iload E.1 E.2.1 dL_isAsk_118 (lv_at hl 0 rfl) ?_
                  refine lv_if_eqB (tgt := 137) E.1 E.2.1 dL_isAsk_120 (by decide) (fun c120 => ?_) (fun c120 => ?_)
                  · skip
                    refine lv_iconst (v := nI 0) E.1 E.2.1 dL_isAsk_137 (by decide) ?_
                    refine lv_eqi (y := zb (elB d c (Ns 0) (e + 1) = true)) ((zb_f (fun z => (elB_s.mp z).elim c115 (fun y => c120 ⟨y.1, y.2.1, y.2.2.1, y.2.2.2.2⟩))).symm) ?_
                    exact jk113  (trivial) _ _ _ (HB.eq hw (rfl)) (lvh_eq (l := [(6, .int (zb (Ns 0 3 = 1 ∧ ¬ e = c ∧ (Ns 0 (30 + 14 * d + 0)).testBit e = true ∧ ¬ Ns 0 (30 + 14 * d + (6 + e)) = 1))), (0, .ref (b 0)), (1, .int (nI (d))), (2, .int (nI (cqI d (Ns 0) c))), (3, .int (nI (c))), (4, .int (zb (elB d c (Ns 0) e = true))), (5, .int (nI (e)))]) (lv_sub hl [0, 1, 2, 3, 4, 5, 6] rfl) (rfl))
                  · skip
                    refine lv_aload_n E.1 E.2.1 dL_isAsk_123 rfl (lv_at hl 1 rfl) ?_
                    refine lv_iload E.1 E.2.1 dL_isAsk_124 (lv_at hl 6 rfl) ?_
                    refine lv_iconst (v := nI 0) E.1 E.2.1 dL_isAsk_126 (by decide) ?_
                    have ie := hF.il (w := e) (by omega)
                    refine callVIp E (c_X3_who_ok l G b ad v pd rv Ns e 0 (by omega) (by decide) hF hm) ES.eb (fun _ _ _ => trivial) mn_6_14 YX3_who ⟨rfl, rfl⟩ ⟨Nat.le_of_ble_eq_true rfl, Nat.le_of_ble_eq_true rfl⟩ ⟨Nat.le_of_ble_eq_true rfl, Nat.le_of_ble_eq_true rfl⟩ hw (rr := []) (big' := cW G b ad v pd rv Ns) (by rw [List.append_nil]) (by rw [List.append_nil]) 0 rfl rfl rfl hl rfl (Nat.le_of_ble_eq_true rfl) dL_isAsk_127 (fun H locs hw => ?_)
                    refine lv_eqi (y := nI (Ns 0 (10 + e))) (rfl) ?_
                    refine lv_if_neN (tgt := 137) E.1 E.2.1 (by omega) dL_isAsk_130 (by decide) (fun c130 => ?_) (fun c130 => ?_)
                    · skip
                      refine lv_iconst (v := nI 0) E.1 E.2.1 dL_isAsk_137 (by decide) ?_
                      refine lv_eqi (y := zb (elB d c (Ns 0) (e + 1) = true)) ((zb_f (fun z => (elB_s.mp z).elim c115 (fun y => y.2.2.2.1 (by omega)))).symm) ?_
                      exact jk113  (trivial) _ _ _ (HB.eq hw (rfl)) (lvh_eq (l := [(6, .int (zb (Ns 0 3 = 1 ∧ ¬ e = c ∧ (Ns 0 (30 + 14 * d + 0)).testBit e = true ∧ ¬ Ns 0 (30 + 14 * d + (6 + e)) = 1))), (0, .ref (b 0)), (1, .int (nI (d))), (2, .int (nI (cqI d (Ns 0) c))), (3, .int (nI (c))), (4, .int (zb (elB d c (Ns 0) e = true))), (5, .int (nI (e)))]) (lv_sub hl [0, 1, 2, 3, 4, 5, 6] rfl) (rfl))
                    · skip
                      refine lv_iconst (v := nI 1) E.1 E.2.1 dL_isAsk_133 (by decide) ?_
                      refine lv_goto (tgt := 138) E.1 E.2.1 dL_isAsk_134 (by decide) ?_
                      refine lv_eqi (y := zb (elB d c (Ns 0) (e + 1) = true)) ((zb_t (elB_s.mpr (Or.inr ⟨c120.1, c120.2.1, c120.2.2.1, by omega, c120.2.2.2⟩))).symm) ?_
                      exact jk113  (trivial) _ _ _ (HB.eq hw (rfl)) (lvh_eq (l := [(6, .int (zb (Ns 0 3 = 1 ∧ ¬ e = c ∧ (Ns 0 (30 + 14 * d + 0)).testBit e = true ∧ ¬ Ns 0 (30 + 14 * d + (6 + e)) = 1))), (0, .ref (b 0)), (1, .int (nI (d))), (2, .int (nI (cqI d (Ns 0) c))), (3, .int (nI (c))), (4, .int (zb (elB d c (Ns 0) e = true))), (5, .int (nI (e)))]) (lv_sub hl [0, 1, 2, 3, 4, 5, 6] rfl) (rfl))
              · intro  hP113 H locs ls hw hl
                replace hw : HB G AA sS.heap (cW G b ad v pd rv Ns) H locs := hw
                replace hl : lv_has ls 7 [(6, .int (zb (Ns 0 3 = 1 ∧ ¬ e = c ∧ (Ns 0 (30 + 14 * d + 0)).testBit e = true ∧ ¬ Ns 0 (30 + 14 * d + (6 + e)) = 1))), (0, .ref (b 0)), (1, .int (nI (d))), (2, .int (nI (cqI d (Ns 0) c))), (3, .int (nI (c))), (4, .int (zb (elB d c (Ns 0) e = true))), (5, .int (nI (e)))] := hl
                show W _ _ _ _ _ _ _ _ _ _ _ _ _ _ _ (F0 mM 138 ls [.int (zb (elB d c (Ns 0) (e + 1) = true))])
                refine lv_istore (lv' := [(4, .int (zb (elB d c (Ns 0) (e + 1) = true))), (6, .int (zb (Ns 0 3 = 1 ∧ ¬ e = c ∧ (Ns 0 (30 + 14 * d + 0)).testBit e = true ∧ ¬ Ns 0 (30 + 14 * d + (6 + e)) = 1))), (0, .ref (b 0)), (1, .int (nI (d))), (2, .int (nI (cqI d (Ns 0) c))), (3, .int (nI (c))), (5, .int (nI (e)))]) E.1 E.2.1 dL_isAsk_138 hl (by decide) rfl (fun ls hl => ?_)
                refine lv_iincN (k := 6) (lv' := [(5, .int (nI (e + 1))), (4, .int (zb (elB d c (Ns 0) (e + 1) = true))), (6, .int (zb (Ns 0 3 = 1 ∧ ¬ e = c ∧ (Ns 0 (30 + 14 * d + 0)).testBit e = true ∧ ¬ Ns 0 (30 + 14 * d + (6 + e)) = 1))), (0, .ref (b 0)), (1, .int (nI (d))), (2, .int (nI (cqI d (Ns 0) c))), (3, .int (nI (c)))]) E.1 E.2.1 dL_isAsk_140 hl rfl (by decide) rfl (fun ls hl => ?_)
                refine lv_goto (tgt := 60) E.1 E.2.1 dL_isAsk_143 (by decide) ?_
                exact ihe (e + 1) (by omega) (by omega) _ _ _ (HB.eq hw (rfl)) (lvh_eq (l := [(0, .ref (b 0)), (1, .int (nI (d))), (2, .int (nI (cqI d (Ns 0) c))), (3, .int (nI (c))), (4, .int (zb (elB d c (Ns 0) (e + 1) = true))), (5, .int (nI (e + 1)))]) (lv_sub hl [3, 4, 5, 6, 1, 0] rfl) (rfl))

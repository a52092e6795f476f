theorem at_t {N : NS} {d c n : Nat} (hc : c < 4) (hF : FI N) (hd : d < 8) (hn : n < 5) (h : (if (N (30 + 14 * d + 0)).testBit c = true then nI (N (30 + 14 * d + (6 + c))) else -6) = nI n) : (N (30 + 14 * d + 0)).testBit c = true ∧ N (30 + 14 * d + (6 + c)) = n := by
  by_cases q : (N (30 + 14 * d + 0)).testBit c = true
  · rw [if_pos q] at h
    have := hF.f6 hd hc
    exact ⟨q, (nI_eq (by omega) (by omega)).mp h⟩
  · rw [if_neg q] at h
    rcases (show n = 0 ∨ n = 1 ∨ n = 2 ∨ n = 3 ∨ n = 4 by omega) with rfl | rfl | rfl | rfl | rfl <;> exact absurd h (by decide)
theorem at_f {N : NS} {d c n : Nat} (hc : c < 4) (h : ¬ (if (N (30 + 14 * d + 0)).testBit c = true then nI (N (30 + 14 * d + (6 + c))) else -6) = nI n) : ¬ ((N (30 + 14 * d + 0)).testBit c = true ∧ N (30 + 14 * d + (6 + c)) = n) := fun z => h (by rw [if_pos z.1, z.2])
theorem YL_agree : YS yL_agree RL cL_agree 11 (some .boolean) 1 := ⟨mn_15_18, mn_3_2, mn_15_19, by decide +kernel⟩
set_option maxHeartbeats 4000000 in
set_option maxRecDepth 100000 in
theorem c_L_agree (l : Launch) (G : GP) (b : Nat → Nat) (ad : Nat → Nat → Nat) (v pd rv : Nat → Int32) (Ns : Nat → NS) (hI : Inv (Ns 0)) (hDV : dvI (Ns 0) 5 = Ns 0 7) (hV : VI (Ns 0)) (hsn : snI (Ns 0) 5 < 2 ^ 31) : MI l yL_agree (.code yL_agree cL_agree 11 (some .boolean) :: GW) ({ frames := 5, cells := 0, slots := 0, locals := 115 }) [.ref (b 0)] G (ES) (cW G b ad v pd rv Ns) (cW G b ad v pd rv Ns) (1) := by
  refine MI.of (own := RL) rfl rfl (Nat.le_of_ble_eq_true rfl) ?_
  intro pP eE sS mM below meth cC ls AA E hw hl hr hlk hE
  replace hl : lv_has ls 11 [(0, .ref (b 0))] := hl
  have hF := hI.1
  have hm5 : ∀ p, p < Ns 0 6 → Ns 0 (150 + 4 * p + 3) < 5 := fun p hp => (hI.2.1 p hp).2.2.2.1
  have hm : ∀ p, p < Ns 0 6 → Ns 0 (150 + 4 * p + 3) < 2 ^ 31 := fun p hp => by have := hm5 p hp; omega
  have h5 := hF.2.1
  have h6 := hF.1
  refine lv_iconst (v := nI 0) E.1 E.2.1 dL_agree_0 (by decide) ?_
  refine lv_istore_n (lv' := [(1, .int (nI (0))), (0, .ref (b 0))]) E.1 E.2.1 dL_agree_1 rfl hl (by decide) rfl (fun ls hl => ?_)
  refine lv_iconst (v := nI 0) E.1 E.2.1 dL_agree_2 (by decide) ?_
  refine lv_istore_n (lv' := [(2, .int (nI (0))), (1, .int (nI (0))), (0, .ref (b 0))]) E.1 E.2.1 dL_agree_3 rfl hl (by decide) rfl (fun ls hl => ?_)
  refine lv_iconst (v := nI 0) E.1 E.2.1 dL_agree_4 (by decide) ?_
  refine lv_istore_n (lv' := [(3, .int (nI (0))), (2, .int (nI (0))), (1, .int (nI (0))), (0, .ref (b 0))]) E.1 E.2.1 dL_agree_5 rfl hl (by decide) rfl (fun ls hl => ?_)
  refine lv_iconst (v := nI 0) E.1 E.2.1 dL_agree_6 (by decide) ?_
  refine lv_istore (lv' := [(4, .int (nI (0))), (3, .int (nI (0))), (2, .int (nI (0))), (1, .int (nI (0))), (0, .ref (b 0))]) E.1 E.2.1 dL_agree_7 hl (by decide) rfl (fun ls hl => ?_)
  refine W_ind1 (nL := 11) (P := fun d => d ≤ Ns 0 5) (μ := fun d => Ns 0 5 - d) (I := fun d => cW G b ad v pd rv Ns) (L := fun d => [(0, .ref (b 0)), (1, .int (nI (dwI 0 (Ns 0) d))), (2, .int (nI (dwI 1 (Ns 0) d))), (3, .int (nI (dwI 2 (Ns 0) d))), (4, .int (nI (d)))]) ?_ (0) (Nat.zero_le _) (HB.eq hw (rfl)) (lvh_eq (l := [(0, .ref (b 0)), (1, .int (nI (0))), (2, .int (nI (0))), (3, .int (nI (0))), (4, .int (nI (0)))]) (lv_sub hl [4, 3, 2, 1, 0] rfl) (rfl))
  intro d hPd ihd H locs ls hw hl
  replace hw : HB G AA sS.heap (cW G b ad v pd rv Ns) H locs := hw
  replace hl : lv_has ls 11 [(0, .ref (b 0)), (1, .int (nI (dwI 0 (Ns 0) d))), (2, .int (nI (dwI 1 (Ns 0) d))), (3, .int (nI (dwI 2 (Ns 0) d))), (4, .int (nI (d)))] := hl
  refine lv_iload E.1 E.2.1 dL_agree_9 (lv_at hl 4 rfl) ?_
  refine lv_aload_n E.1 E.2.1 dL_agree_11 rfl (lv_at hl 0 rfl) ?_
  refine lv_iconst (v := nI 1) E.1 E.2.1 dL_agree_12 (by decide) ?_
  refine callVIp E (c_X3_count_ok l G b ad v pd rv Ns 1 (by decide) (by decide) (by decide) hF hDV) ES.eb (fun _ _ _ => trivial) mn_3_8 YX3_count ⟨rfl, rfl⟩ ⟨Nat.le_of_ble_eq_true rfl, Nat.le_of_ble_eq_true rfl⟩ ⟨Nat.le_of_ble_eq_true rfl, Nat.le_of_ble_eq_true rfl⟩ hw (rr := []) (big' := cW G b ad v pd rv Ns) (by rw [List.append_nil]) (by rw [List.append_nil]) 0 rfl rfl rfl hl rfl (Nat.le_of_ble_eq_true rfl) dL_agree_13 (fun H locs hw => ?_)
  refine lv_eqi (y := nI (Ns 0 5)) (rfl) ?_
  refine lv_icmp_geN (tgt := 417) E.1 E.2.1 (by omega) (by omega) dL_agree_16 (by decide) (fun c16 => ?_) (fun c16 => ?_)
  · skip
    refine W_join0 (G := G) (A := AA) (H0 := sS.heap) (nL := 11) 417 (True) (cW G b ad v pd rv Ns) ([(0, .ref (b 0)), (1, .int (nI (dwI 0 (Ns 0) (Ns 0 5)))), (2, .int (nI (dwI 1 (Ns 0) (Ns 0 5)))), (3, .int (nI (dwI 2 (Ns 0) (Ns 0 5))))]) ([]) (fun jk417 => ?_) ?_
    · skip
      exact jk417  (trivial) _ _ _ (HB.eq hw (rfl)) (lvh_eq (l := [(0, .ref (b 0)), (1, .int (nI (dwI 0 (Ns 0) d))), (2, .int (nI (dwI 1 (Ns 0) d))), (3, .int (nI (dwI 2 (Ns 0) d)))]) (lv_sub hl [0, 1, 2, 3] rfl) (by rw [show d = Ns 0 5 by omega]))
    · intro  hP417 H locs ls hw hl
      replace hw : HB G AA sS.heap (cW G b ad v pd rv Ns) H locs := hw
      replace hl : lv_has ls 11 [(0, .ref (b 0)), (1, .int (nI (dwI 0 (Ns 0) (Ns 0 5)))), (2, .int (nI (dwI 1 (Ns 0) (Ns 0 5)))), (3, .int (nI (dwI 2 (Ns 0) (Ns 0 5))))] := hl
      show W _ _ _ _ _ _ _ _ _ _ _ _ _ _ _ (F0 mM 417 ls [])
      refine lv_iconst (v := nI 0) E.1 E.2.1 dL_agree_417 (by decide) ?_
      refine lv_istore (lv' := [(4, .int (nI (0))), (0, .ref (b 0)), (1, .int (nI (dwI 0 (Ns 0) (Ns 0 5)))), (2, .int (nI (dwI 1 (Ns 0) (Ns 0 5)))), (3, .int (nI (dwI 2 (Ns 0) (Ns 0 5))))]) E.1 E.2.1 dL_agree_418 hl (by decide) rfl (fun ls hl => ?_)
      refine lv_iconst (v := nI 0) E.1 E.2.1 dL_agree_420 (by decide) ?_
      refine lv_istore (lv' := [(5, .int (nI (0))), (4, .int (nI (0))), (0, .ref (b 0)), (1, .int (nI (dwI 0 (Ns 0) (Ns 0 5)))), (2, .int (nI (dwI 1 (Ns 0) (Ns 0 5)))), (3, .int (nI (dwI 2 (Ns 0) (Ns 0 5))))]) E.1 E.2.1 dL_agree_421 hl (by decide) rfl (fun ls hl => ?_)
      refine lv_iconst (v := nI 0) E.1 E.2.1 dL_agree_423 (by decide) ?_
      refine lv_istore (lv' := [(6, .int (nI (0))), (5, .int (nI (0))), (4, .int (nI (0))), (0, .ref (b 0)), (1, .int (nI (dwI 0 (Ns 0) (Ns 0 5)))), (2, .int (nI (dwI 1 (Ns 0) (Ns 0 5)))), (3, .int (nI (dwI 2 (Ns 0) (Ns 0 5))))]) E.1 E.2.1 dL_agree_424 hl (by decide) rfl (fun ls hl => ?_)
      refine lv_iconst (v := nI 0) E.1 E.2.1 dL_agree_426 (by decide) ?_
      refine lv_istore (lv' := [(7, .int (nI (0))), (6, .int (nI (0))), (5, .int (nI (0))), (4, .int (nI (0))), (0, .ref (b 0)), (1, .int (nI (dwI 0 (Ns 0) (Ns 0 5)))), (2, .int (nI (dwI 1 (Ns 0) (Ns 0 5)))), (3, .int (nI (dwI 2 (Ns 0) (Ns 0 5))))]) E.1 E.2.1 dL_agree_427 hl (by decide) rfl (fun ls hl => ?_)
      refine lv_iconst (v := nI 0) E.1 E.2.1 dL_agree_429 (by decide) ?_
      refine lv_istore (lv' := [(8, .int (nI (0))), (7, .int (nI (0))), (6, .int (nI (0))), (5, .int (nI (0))), (4, .int (nI (0))), (0, .ref (b 0)), (1, .int (nI (dwI 0 (Ns 0) (Ns 0 5)))), (2, .int (nI (dwI 1 (Ns 0) (Ns 0 5)))), (3, .int (nI (dwI 2 (Ns 0) (Ns 0 5))))]) E.1 E.2.1 dL_agree_430 hl (by decide) rfl (fun ls hl => ?_)
      refine W_ind1 (nL := 11) (P := fun w => w ≤ 5) (μ := fun w => 5 - w) (I := fun w => cW G b ad v pd rv Ns) (L := fun w => [(0, .ref (b 0)), (1, .int (nI (dwI 0 (Ns 0) (Ns 0 5)))), (2, .int (nI (dwI 1 (Ns 0) (Ns 0 5)))), (3, .int (nI (dwI 2 (Ns 0) (Ns 0 5)))), (4, .int (nI (illI (Ns 0) w))), (5, .int (nI (snI (Ns 0) w))), (6, .int (nI (dvI (Ns 0) w))), (7, .int (nI (udI (Ns 0) w))), (8, .int (nI (w)))]) ?_ (0) (Nat.zero_le _) (HB.eq hw (rfl)) (lvh_eq (l := [(0, .ref (b 0)), (1, .int (nI (dwI 0 (Ns 0) (Ns 0 5)))), (2, .int (nI (dwI 1 (Ns 0) (Ns 0 5)))), (3, .int (nI (dwI 2 (Ns 0) (Ns 0 5)))), (4, .int (nI (0))), (5, .int (nI (0))), (6, .int (nI (0))), (7, .int (nI (0))), (8, .int (nI (0)))]) (lv_sub hl [5, 6, 7, 8, 4, 3, 2, 1, 0] rfl) (rfl))
      intro w hPw ihw H locs ls hw hl
      replace hw : HB G AA sS.heap (cW G b ad v pd rv Ns) H locs := hw
      replace hl : lv_has ls 11 [(0, .ref (b 0)), (1, .int (nI (dwI 0 (Ns 0) (Ns 0 5)))), (2, .int (nI (dwI 1 (Ns 0) (Ns 0 5)))), (3, .int (nI (dwI 2 (Ns 0) (Ns 0 5)))), (4, .int (nI (illI (Ns 0) w))), (5, .int (nI (snI (Ns 0) w))), (6, .int (nI (dvI (Ns 0) w))), (7, .int (nI (udI (Ns 0) w))), (8, .int (nI (w)))] := hl
      refine lv_iload E.1 E.2.1 dL_agree_432 (lv_at hl 8 rfl) ?_
      refine lv_iconst (v := nI 5) E.1 E.2.1 dL_agree_434 (by decide) ?_
      refine lv_icmp_geN (tgt := 545) E.1 E.2.1 (by omega) (by omega) dL_agree_435 (by decide) (fun c435 => ?_) (fun c435 => ?_)
      · skip
        have z1 := illI_le hF w (by omega)
        have z2 : snI (Ns 0) w < 2 ^ 31 := by rw [show w = 5 by omega]; exact hsn
        have z3 := ud_le h6 w
        have z4 : dvI (Ns 0) w = Ns 0 7 := by rw [show w = 5 by omega]; exact hDV
        have z5 := dw_le (q := 0) (N := Ns 0) (Ns 0 5)
        have z6 := dw_le (q := 1) (N := Ns 0) (Ns 0 5)
        have z7 := dw_le (q := 2) (N := Ns 0) (Ns 0 5)
        refine lv_iload E.1 E.2.1 dL_agree_545 (lv_at hl 7 rfl) ?_
        refine lv_aload_n E.1 E.2.1 dL_agree_547 rfl (lv_at hl 0 rfl) ?_
        refine lv_iconst (v := nI 2) E.1 E.2.1 dL_agree_548 (by decide) ?_
        refine callVIp E (c_X3_count_ok l G b ad v pd rv Ns 2 (by decide) (by decide) (by decide) hF hDV) ES.eb (fun _ _ _ => trivial) mn_3_8 YX3_count ⟨rfl, rfl⟩ ⟨Nat.le_of_ble_eq_true rfl, Nat.le_of_ble_eq_true rfl⟩ ⟨Nat.le_of_ble_eq_true rfl, Nat.le_of_ble_eq_true rfl⟩ hw (rr := []) (big' := cW G b ad v pd rv Ns) (by rw [List.append_nil]) (by rw [List.append_nil]) 0 rfl rfl rfl hl rfl (Nat.le_of_ble_eq_true rfl) dL_agree_549 (fun H locs hw => ?_)
        refine lv_eqi (y := nI (Ns 0 6)) (rfl) ?_
        refine lv_icmp_neN (tgt := 619) E.1 E.2.1 (by omega) (by omega) dL_agree_552 (by decide) (fun c552 => ?_) (fun c552 => ?_)
        · exact absurd (by rw [show w = 5 by omega]; exact ud5 hm5) c552
        · skip
          refine lv_aload_n E.1 E.2.1 dL_agree_555 rfl (lv_at hl 0 rfl) ?_
          refine lv_iconst (v := nI 2) E.1 E.2.1 dL_agree_556 (by decide) ?_
          refine callVIp E (c_X3_count_ok l G b ad v pd rv Ns 2 (by decide) (by decide) (by decide) hF hDV) ES.eb (fun _ _ _ => trivial) mn_3_8 YX3_count ⟨rfl, rfl⟩ ⟨Nat.le_of_ble_eq_true rfl, Nat.le_of_ble_eq_true rfl⟩ ⟨Nat.le_of_ble_eq_true rfl, Nat.le_of_ble_eq_true rfl⟩ hw (rr := []) (big' := cW G b ad v pd rv Ns) (by rw [List.append_nil]) (by rw [List.append_nil]) 0 rfl rfl rfl hl rfl (Nat.le_of_ble_eq_true rfl) dL_agree_557 (fun H locs hw => ?_)
          refine lv_eqi (y := nI (Ns 0 6)) (rfl) ?_
          refine lv_bipush (v := nI 60) E.1 E.2.1 dL_agree_560 (by decide) ?_
          refine lv_icmp_gtN (tgt := 619) E.1 E.2.1 (by omega) (by omega) dL_agree_562 (by decide) (fun c562 => ?_) (fun c562 => ?_)
          · omega
          · skip
            refine lv_iload E.1 E.2.1 dL_agree_565 (lv_at hl 6 rfl) ?_
            refine lv_aload_n E.1 E.2.1 dL_agree_567 rfl (lv_at hl 0 rfl) ?_
            refine lv_iconst (v := nI 3) E.1 E.2.1 dL_agree_568 (by decide) ?_
            refine callVIp E (c_X3_count_ok l G b ad v pd rv Ns 3 (by decide) (by decide) (by decide) hF hDV) ES.eb (fun _ _ _ => trivial) mn_3_8 YX3_count ⟨rfl, rfl⟩ ⟨Nat.le_of_ble_eq_true rfl, Nat.le_of_ble_eq_true rfl⟩ ⟨Nat.le_of_ble_eq_true rfl, Nat.le_of_ble_eq_true rfl⟩ hw (rr := []) (big' := cW G b ad v pd rv Ns) (by rw [List.append_nil]) (by rw [List.append_nil]) 0 rfl rfl rfl hl rfl (Nat.le_of_ble_eq_true rfl) dL_agree_569 (fun H locs hw => ?_)
            refine lv_eqi (y := nI (Ns 0 7)) (rfl) ?_
            refine lv_icmp_ne (tgt := 619) E.1 E.2.1 dL_agree_572 (by decide) (fun c572 => ?_) (fun c572 => ?_)
            · exact absurd (congrArg nI z4) c572
            · skip
              refine lv_aload_n E.1 E.2.1 dL_agree_575 rfl (lv_at hl 0 rfl) ?_
              refine lv_bipush (v := nI 11) E.1 E.2.1 dL_agree_576 (by decide) ?_
              refine callVIp E (c_X3_count_ok l G b ad v pd rv Ns 11 (by decide) (by decide) (by decide) hF hDV) ES.eb (fun _ _ _ => trivial) mn_3_8 YX3_count ⟨rfl, rfl⟩ ⟨Nat.le_of_ble_eq_true rfl, Nat.le_of_ble_eq_true rfl⟩ ⟨Nat.le_of_ble_eq_true rfl, Nat.le_of_ble_eq_true rfl⟩ hw (rr := []) (big' := cW G b ad v pd rv Ns) (by rw [List.append_nil]) (by rw [List.append_nil]) 0 rfl rfl rfl hl rfl (Nat.le_of_ble_eq_true rfl) dL_agree_578 (fun H locs hw => ?_)
              refine lv_eqi (y := nI (dwI 0 (Ns 0) (Ns 0 5))) (rfl) ?_
              refine lv_iload_n E.1 E.2.1 dL_agree_581 rfl (lv_at hl 1 rfl) ?_
              refine lv_icmp_neN (tgt := 619) E.1 E.2.1 (by omega) (by omega) dL_agree_582 (by decide) (fun c582 => ?_) (fun c582 => ?_)
              · exact absurd rfl c582
              · skip
                refine lv_aload_n E.1 E.2.1 dL_agree_585 rfl (lv_at hl 0 rfl) ?_
                refine lv_bipush (v := nI 12) E.1 E.2.1 dL_agree_586 (by decide) ?_
                refine callVIp E (c_X3_count_ok l G b ad v pd rv Ns 12 (by decide) (by decide) (by decide) hF hDV) ES.eb (fun _ _ _ => trivial) mn_3_8 YX3_count ⟨rfl, rfl⟩ ⟨Nat.le_of_ble_eq_true rfl, Nat.le_of_ble_eq_true rfl⟩ ⟨Nat.le_of_ble_eq_true rfl, Nat.le_of_ble_eq_true rfl⟩ hw (rr := []) (big' := cW G b ad v pd rv Ns) (by rw [List.append_nil]) (by rw [List.append_nil]) 0 rfl rfl rfl hl rfl (Nat.le_of_ble_eq_true rfl) dL_agree_588 (fun H locs hw => ?_)
                refine lv_eqi (y := nI (dwI 1 (Ns 0) (Ns 0 5))) (rfl) ?_
                refine lv_iload_n E.1 E.2.1 dL_agree_591 rfl (lv_at hl 2 rfl) ?_
                refine lv_icmp_neN (tgt := 619) E.1 E.2.1 (by omega) (by omega) dL_agree_592 (by decide) (fun c592 => ?_) (fun c592 => ?_)
                · exact absurd rfl c592
                · skip
                  refine lv_aload_n E.1 E.2.1 dL_agree_595 rfl (lv_at hl 0 rfl) ?_
                  refine lv_bipush (v := nI 13) E.1 E.2.1 dL_agree_596 (by decide) ?_
                  refine callVIp E (c_X3_count_ok l G b ad v pd rv Ns 13 (by decide) (by decide) (by decide) hF hDV) ES.eb (fun _ _ _ => trivial) mn_3_8 YX3_count ⟨rfl, rfl⟩ ⟨Nat.le_of_ble_eq_true rfl, Nat.le_of_ble_eq_true rfl⟩ ⟨Nat.le_of_ble_eq_true rfl, Nat.le_of_ble_eq_true rfl⟩ hw (rr := []) (big' := cW G b ad v pd rv Ns) (by rw [List.append_nil]) (by rw [List.append_nil]) 0 rfl rfl rfl hl rfl (Nat.le_of_ble_eq_true rfl) dL_agree_598 (fun H locs hw => ?_)
                  refine lv_eqi (y := nI (dwI 2 (Ns 0) (Ns 0 5))) (rfl) ?_
                  refine lv_iload_n E.1 E.2.1 dL_agree_601 rfl (lv_at hl 3 rfl) ?_
                  refine lv_icmp_neN (tgt := 619) E.1 E.2.1 (by omega) (by omega) dL_agree_602 (by decide) (fun c602 => ?_) (fun c602 => ?_)
                  · exact absurd rfl c602
                  · skip
                    refine lv_iload E.1 E.2.1 dL_agree_605 (lv_at hl 4 rfl) ?_
                    refine lv_if_ltN (tgt := 619) E.1 E.2.1 (by omega) dL_agree_607 (by decide) (fun c607 => ?_) (fun c607 => ?_)
                    · omega
                    · skip
                      refine lv_iload E.1 E.2.1 dL_agree_610 (lv_at hl 5 rfl) ?_
                      refine lv_if_ltN (tgt := 619) E.1 E.2.1 (by omega) dL_agree_612 (by decide) (fun c612 => ?_) (fun c612 => ?_)
                      · omega
                      · skip
                        refine lv_iconst (v := nI 1) E.1 E.2.1 dL_agree_615 (by decide) ?_
                        refine lv_goto (tgt := 620) E.1 E.2.1 dL_agree_616 (by decide) ?_
                        exact rZ E hr hlk (HB.eq hw (rfl)) (rfl) rfl dL_agree_620
      · skip
        refine lv_iconst (v := nI 0) E.1 E.2.1 dL_agree_438 (by decide) ?_
        refine lv_istore (lv' := [(9, .int (nI (0))), (0, .ref (b 0)), (1, .int (nI (dwI 0 (Ns 0) (Ns 0 5)))), (2, .int (nI (dwI 1 (Ns 0) (Ns 0 5)))), (3, .int (nI (dwI 2 (Ns 0) (Ns 0 5)))), (4, .int (nI (illI (Ns 0) w))), (5, .int (nI (snI (Ns 0) w))), (6, .int (nI (dvI (Ns 0) w))), (7, .int (nI (udI (Ns 0) w))), (8, .int (nI (w)))]) E.1 E.2.1 dL_agree_439 hl (by decide) rfl (fun ls hl => ?_)
        refine lv_iconst (v := nI 0) E.1 E.2.1 dL_agree_441 (by decide) ?_
        refine lv_istore (lv' := [(10, .int (nI (0))), (9, .int (nI (0))), (0, .ref (b 0)), (1, .int (nI (dwI 0 (Ns 0) (Ns 0 5)))), (2, .int (nI (dwI 1 (Ns 0) (Ns 0 5)))), (3, .int (nI (dwI 2 (Ns 0) (Ns 0 5)))), (4, .int (nI (illI (Ns 0) w))), (5, .int (nI (snI (Ns 0) w))), (6, .int (nI (dvI (Ns 0) w))), (7, .int (nI (udI (Ns 0) w))), (8, .int (nI (w)))]) E.1 E.2.1 dL_agree_442 hl (by decide) rfl (fun ls hl => ?_)
        refine W_ind1 (nL := 11) (P := fun m => m ≤ Ns 0 6) (μ := fun m => Ns 0 6 - m) (I := fun m => cW G b ad v pd rv Ns) (L := fun m => [(0, .ref (b 0)), (1, .int (nI (dwI 0 (Ns 0) (Ns 0 5)))), (2, .int (nI (dwI 1 (Ns 0) (Ns 0 5)))), (3, .int (nI (dwI 2 (Ns 0) (Ns 0 5)))), (4, .int (nI (illI (Ns 0) w))), (5, .int (nI (snI (Ns 0) w))), (6, .int (nI (dvI (Ns 0) w))), (7, .int (nI (udI (Ns 0) w))), (8, .int (nI (w))), (9, .int (nI (utI w (Ns 0) m))), (10, .int (nI (m)))]) ?_ (0) (Nat.zero_le _) (HB.eq hw (rfl)) (lvh_eq (l := [(0, .ref (b 0)), (1, .int (nI (dwI 0 (Ns 0) (Ns 0 5)))), (2, .int (nI (dwI 1 (Ns 0) (Ns 0 5)))), (3, .int (nI (dwI 2 (Ns 0) (Ns 0 5)))), (4, .int (nI (illI (Ns 0) w))), (5, .int (nI (snI (Ns 0) w))), (6, .int (nI (dvI (Ns 0) w))), (7, .int (nI (udI (Ns 0) w))), (8, .int (nI (w))), (9, .int (nI (0))), (10, .int (nI (0)))]) (lv_sub hl [2, 3, 4, 5, 6, 7, 8, 9, 10, 1, 0] rfl) (rfl))
        intro m hPm ihm H locs ls hw hl
        replace hw : HB G AA sS.heap (cW G b ad v pd rv Ns) H locs := hw
        replace hl : lv_has ls 11 [(0, .ref (b 0)), (1, .int (nI (dwI 0 (Ns 0) (Ns 0 5)))), (2, .int (nI (dwI 1 (Ns 0) (Ns 0 5)))), (3, .int (nI (dwI 2 (Ns 0) (Ns 0 5)))), (4, .int (nI (illI (Ns 0) w))), (5, .int (nI (snI (Ns 0) w))), (6, .int (nI (dvI (Ns 0) w))), (7, .int (nI (udI (Ns 0) w))), (8, .int (nI (w))), (9, .int (nI (utI w (Ns 0) m))), (10, .int (nI (m)))] := hl
        refine lv_iload E.1 E.2.1 dL_agree_444 (lv_at hl 10 rfl) ?_
        refine lv_aload_n E.1 E.2.1 dL_agree_446 rfl (lv_at hl 0 rfl) ?_
        refine lv_iconst (v := nI 2) E.1 E.2.1 dL_agree_447 (by decide) ?_
        refine callVIp E (c_X3_count_ok l G b ad v pd rv Ns 2 (by decide) (by decide) (by decide) hF hDV) ES.eb (fun _ _ _ => trivial) mn_3_8 YX3_count ⟨rfl, rfl⟩ ⟨Nat.le_of_ble_eq_true rfl, Nat.le_of_ble_eq_true rfl⟩ ⟨Nat.le_of_ble_eq_true rfl, Nat.le_of_ble_eq_true rfl⟩ hw (rr := []) (big' := cW G b ad v pd rv Ns) (by rw [List.append_nil]) (by rw [List.append_nil]) 0 rfl rfl rfl hl rfl (Nat.le_of_ble_eq_true rfl) dL_agree_448 (fun H locs hw => ?_)
        refine lv_eqi (y := nI (Ns 0 6)) (rfl) ?_
        refine lv_icmp_geN (tgt := 482) E.1 E.2.1 (by omega) (by omega) dL_agree_451 (by decide) (fun c451 => ?_) (fun c451 => ?_)
        · skip
          have hu := utI_le (w := w) (N := Ns 0) m
          have hu2 := utI_le (w := w) (N := Ns 0) (Ns 0 6)
          refine lv_iload E.1 E.2.1 dL_agree_482 (lv_at hl 4 rfl) ?_
          refine lv_aload_n E.1 E.2.1 dL_agree_484 rfl (lv_at hl 0 rfl) ?_
          refine lv_iload E.1 E.2.1 dL_agree_485 (lv_at hl 8 rfl) ?_
          refine lv_iconst (v := nI 0) E.1 E.2.1 dL_agree_487 (by decide) ?_
          refine callVIp E (c_X3_who_ok l G b ad v pd rv Ns w 0 (by omega) (by decide) hF hm) ES.eb (fun _ _ _ => trivial) mn_6_14 YX3_who ⟨rfl, rfl⟩ ⟨Nat.le_of_ble_eq_true rfl, Nat.le_of_ble_eq_true rfl⟩ ⟨Nat.le_of_ble_eq_true rfl, Nat.le_of_ble_eq_true rfl⟩ hw (rr := []) (big' := cW G b ad v pd rv Ns) (by rw [List.append_nil]) (by rw [List.append_nil]) 0 rfl rfl rfl hl rfl (Nat.le_of_ble_eq_true rfl) dL_agree_488 (fun H locs hw => ?_)
          refine lv_eqi (y := nI (Ns 0 (10 + w))) (rfl) ?_
          refine lv_addN E.1 E.2.1 dL_agree_491 ?_
          refine lv_eqi (y := nI (illI (Ns 0) (w + 1))) (rfl) ?_
          refine lv_istore (lv' := [(4, .int (nI (illI (Ns 0) (w + 1)))), (0, .ref (b 0)), (1, .int (nI (dwI 0 (Ns 0) (Ns 0 5)))), (2, .int (nI (dwI 1 (Ns 0) (Ns 0 5)))), (3, .int (nI (dwI 2 (Ns 0) (Ns 0 5)))), (5, .int (nI (snI (Ns 0) w))), (6, .int (nI (dvI (Ns 0) w))), (7, .int (nI (udI (Ns 0) w))), (8, .int (nI (w))), (9, .int (nI (utI w (Ns 0) m))), (10, .int (nI (m)))]) E.1 E.2.1 dL_agree_492 hl (by decide) rfl (fun ls hl => ?_)
          refine lv_iload E.1 E.2.1 dL_agree_494 (lv_at hl 5 rfl) ?_
          refine lv_aload_n E.1 E.2.1 dL_agree_496 rfl (lv_at hl 1 rfl) ?_
          refine lv_iload E.1 E.2.1 dL_agree_497 (lv_at hl 8 rfl) ?_
          refine lv_iconst (v := nI 4) E.1 E.2.1 dL_agree_499 (by decide) ?_
          refine callVIp E (c_X3_who_ok l G b ad v pd rv Ns w 4 (by omega) (by decide) hF hm) ES.eb (fun _ _ _ => trivial) mn_6_14 YX3_who ⟨rfl, rfl⟩ ⟨Nat.le_of_ble_eq_true rfl, Nat.le_of_ble_eq_true rfl⟩ ⟨Nat.le_of_ble_eq_true rfl, Nat.le_of_ble_eq_true rfl⟩ hw (rr := []) (big' := cW G b ad v pd rv Ns) (by rw [List.append_nil]) (by rw [List.append_nil]) 0 rfl rfl rfl hl rfl (Nat.le_of_ble_eq_true rfl) dL_agree_500 (fun H locs hw => ?_)
          refine lv_eqi (y := nI (Ns 0 (25 + w))) (rfl) ?_
          refine lv_addN E.1 E.2.1 dL_agree_503 ?_
          refine lv_eqi (y := nI (snI (Ns 0) (w + 1))) (rfl) ?_
          refine lv_istore (lv' := [(5, .int (nI (snI (Ns 0) (w + 1)))), (4, .int (nI (illI (Ns 0) (w + 1)))), (0, .ref (b 0)), (1, .int (nI (dwI 0 (Ns 0) (Ns 0 5)))), (2, .int (nI (dwI 1 (Ns 0) (Ns 0 5)))), (3, .int (nI (dwI 2 (Ns 0) (Ns 0 5)))), (6, .int (nI (dvI (Ns 0) w))), (7, .int (nI (udI (Ns 0) w))), (8, .int (nI (w))), (9, .int (nI (utI w (Ns 0) m))), (10, .int (nI (m)))]) E.1 E.2.1 dL_agree_504 hl (by decide) rfl (fun ls hl => ?_)
          refine lv_iload E.1 E.2.1 dL_agree_506 (lv_at hl 6 rfl) ?_
          refine lv_aload_n E.1 E.2.1 dL_agree_508 rfl (lv_at hl 2 rfl) ?_
          refine lv_iload E.1 E.2.1 dL_agree_509 (lv_at hl 8 rfl) ?_
          refine lv_iconst (v := nI 3) E.1 E.2.1 dL_agree_511 (by decide) ?_
          refine callVIp E (c_X3_who_ok l G b ad v pd rv Ns w 3 (by omega) (by decide) hF hm) ES.eb (fun _ _ _ => trivial) mn_6_14 YX3_who ⟨rfl, rfl⟩ ⟨Nat.le_of_ble_eq_true rfl, Nat.le_of_ble_eq_true rfl⟩ ⟨Nat.le_of_ble_eq_true rfl, Nat.le_of_ble_eq_true rfl⟩ hw (rr := []) (big' := cW G b ad v pd rv Ns) (by rw [List.append_nil]) (by rw [List.append_nil]) 0 rfl rfl rfl hl rfl (Nat.le_of_ble_eq_true rfl) dL_agree_512 (fun H locs hw => ?_)
          refine lv_eqi (y := nI (Ns 0 (20 + w))) (rfl) ?_
          refine lv_addN E.1 E.2.1 dL_agree_515 ?_
          refine lv_eqi (y := nI (dvI (Ns 0) (w + 1))) (rfl) ?_
          refine lv_istore (lv' := [(6, .int (nI (dvI (Ns 0) (w + 1)))), (5, .int (nI (snI (Ns 0) (w + 1)))), (4, .int (nI (illI (Ns 0) (w + 1)))), (0, .ref (b 0)), (1, .int (nI (dwI 0 (Ns 0) (Ns 0 5)))), (2, .int (nI (dwI 1 (Ns 0) (Ns 0 5)))), (3, .int (nI (dwI 2 (Ns 0) (Ns 0 5)))), (7, .int (nI (udI (Ns 0) w))), (8, .int (nI (w))), (9, .int (nI (utI w (Ns 0) m))), (10, .int (nI (m)))]) E.1 E.2.1 dL_agree_516 hl (by decide) rfl (fun ls hl => ?_)
          refine lv_iload E.1 E.2.1 dL_agree_518 (lv_at hl 7 rfl) ?_
          refine lv_iload E.1 E.2.1 dL_agree_520 (lv_at hl 9 rfl) ?_
          refine lv_addN E.1 E.2.1 dL_agree_522 ?_
          refine lv_eqi (y := nI (udI (Ns 0) (w + 1))) (by rw [show m = Ns 0 6 by omega]; rfl) ?_
          refine lv_istore (lv' := [(7, .int (nI (udI (Ns 0) (w + 1)))), (6, .int (nI (dvI (Ns 0) (w + 1)))), (5, .int (nI (snI (Ns 0) (w + 1)))), (4, .int (nI (illI (Ns 0) (w + 1)))), (0, .ref (b 0)), (1, .int (nI (dwI 0 (Ns 0) (Ns 0 5)))), (2, .int (nI (dwI 1 (Ns 0) (Ns 0 5)))), (3, .int (nI (dwI 2 (Ns 0) (Ns 0 5)))), (8, .int (nI (w))), (9, .int (nI (utI w (Ns 0) m))), (10, .int (nI (m)))]) E.1 E.2.1 dL_agree_523 hl (by decide) rfl (fun ls hl => ?_)
          refine lv_aload_n E.1 E.2.1 dL_agree_525 rfl (lv_at hl 4 rfl) ?_
          refine lv_iload E.1 E.2.1 dL_agree_526 (lv_at hl 8 rfl) ?_
          refine lv_iconst (v := nI 2) E.1 E.2.1 dL_agree_528 (by decide) ?_
          refine callVIp E (c_X3_who_ok l G b ad v pd rv Ns w 2 (by omega) (by decide) hF hm) ES.eb (fun _ _ _ => trivial) mn_6_14 YX3_who ⟨rfl, rfl⟩ ⟨Nat.le_of_ble_eq_true rfl, Nat.le_of_ble_eq_true rfl⟩ ⟨Nat.le_of_ble_eq_true rfl, Nat.le_of_ble_eq_true rfl⟩ hw (rr := []) (big' := cW G b ad v pd rv Ns) (by rw [List.append_nil]) (by rw [List.append_nil]) 0 rfl rfl rfl hl rfl (Nat.le_of_ble_eq_true rfl) dL_agree_529 (fun H locs hw => ?_)
          refine lv_eqi (y := nI (utI w (Ns 0) (Ns 0 6))) (rfl) ?_
          refine lv_iload E.1 E.2.1 dL_agree_532 (lv_at hl 9 rfl) ?_
          refine lv_icmp_eqN (tgt := 539) E.1 E.2.1 (by omega) (by omega) dL_agree_534 (by decide) (fun c534 => ?_) (fun c534 => ?_)
          · skip
            refine lv_iincN (k := 8) (lv' := [(8, .int (nI (w + 1))), (7, .int (nI (udI (Ns 0) (w + 1)))), (6, .int (nI (dvI (Ns 0) (w + 1)))), (5, .int (nI (snI (Ns 0) (w + 1)))), (4, .int (nI (illI (Ns 0) (w + 1)))), (0, .ref (b 0)), (1, .int (nI (dwI 0 (Ns 0) (Ns 0 5)))), (2, .int (nI (dwI 1 (Ns 0) (Ns 0 5)))), (3, .int (nI (dwI 2 (Ns 0) (Ns 0 5)))), (9, .int (nI (utI w (Ns 0) m))), (10, .int (nI (m)))]) E.1 E.2.1 dL_agree_539 hl rfl (by decide) rfl (fun ls hl => ?_)
            refine lv_goto (tgt := 432) E.1 E.2.1 dL_agree_542 (by decide) ?_
            exact ihw (w + 1) (by omega) (by omega) _ _ _ (HB.eq hw (rfl)) (lvh_eq (l := [(0, .ref (b 0)), (1, .int (nI (dwI 0 (Ns 0) (Ns 0 5)))), (2, .int (nI (dwI 1 (Ns 0) (Ns 0 5)))), (3, .int (nI (dwI 2 (Ns 0) (Ns 0 5)))), (4, .int (nI (illI (Ns 0) (w + 1)))), (5, .int (nI (snI (Ns 0) (w + 1)))), (6, .int (nI (dvI (Ns 0) (w + 1)))), (7, .int (nI (udI (Ns 0) (w + 1)))), (8, .int (nI (w + 1)))]) (lv_sub hl [5, 6, 7, 8, 4, 3, 2, 1, 0] rfl) (rfl))
          · exact absurd (by rw [show m = Ns 0 6 by omega]) c534
        · skip
          have hw5 := hm5 m (by omega)
          have hu := utI_le (w := w) (N := Ns 0) m
          refine lv_iload E.1 E.2.1 dL_agree_454 (lv_at hl 9 rfl) ?_
          refine W_join0 (G := G) (A := AA) (H0 := sS.heap) (nL := 11) 473 (True) (cW G b ad v pd rv Ns) ([(0, .ref (b 0)), (1, .int (nI (dwI 0 (Ns 0) (Ns 0 5)))), (2, .int (nI (dwI 1 (Ns 0) (Ns 0 5)))), (3, .int (nI (dwI 2 (Ns 0) (Ns 0 5)))), (4, .int (nI (illI (Ns 0) w))), (5, .int (nI (snI (Ns 0) w))), (6, .int (nI (dvI (Ns 0) w))), (7, .int (nI (udI (Ns 0) w))), (8, .int (nI (w))), (9, .int (nI (utI w (Ns 0) m))), (10, .int (nI (m)))]) ([.int (nI (if Ns 0 (150 + 4 * m + 3) = w then 1 else 0)), .int (nI (utI w (Ns 0) m))]) (fun jk456 => ?_) ?_
          · skip
            refine lv_aload_n E.1 E.2.1 dL_agree_456 rfl (lv_at hl 0 rfl) ?_
            refine lv_iload E.1 E.2.1 dL_agree_457 (lv_at hl 10 rfl) ?_
            refine lv_iconst (v := nI 3) E.1 E.2.1 dL_agree_459 (by decide) ?_
            refine callVIp E (c_X3_message_ok l G b ad v pd rv Ns m (by omega) hF 3 (by decide)) ES.eb (fun _ _ _ => trivial) mn_8_8 YX3_message ⟨rfl, rfl⟩ ⟨Nat.le_of_ble_eq_true rfl, Nat.le_of_ble_eq_true rfl⟩ ⟨Nat.le_of_ble_eq_true rfl, Nat.le_of_ble_eq_true rfl⟩ hw (rr := []) (big' := cW G b ad v pd rv Ns) (by rw [List.append_nil]) (by rw [List.append_nil]) 0 rfl rfl rfl hl rfl (Nat.le_of_ble_eq_true rfl) dL_agree_460 (fun H locs hw => ?_)
            refine lv_iload E.1 E.2.1 dL_agree_463 (lv_at hl 8 rfl) ?_
            refine lv_icmp_neN (tgt := 472) E.1 E.2.1 (by omega) (by omega) dL_agree_465 (by decide) (fun c465 => ?_) (fun c465 => ?_)
            · skip
              refine lv_iconst (v := nI 0) E.1 E.2.1 dL_agree_472 (by decide) ?_
              refine lv_eqi (y := nI (if Ns 0 (150 + 4 * m + 3) = w then 1 else 0)) (by rw [if_neg c465]) ?_
              exact jk456  (trivial) _ _ _ (HB.eq hw (rfl)) (lvh_eq (l := [(0, .ref (b 0)), (1, .int (nI (dwI 0 (Ns 0) (Ns 0 5)))), (2, .int (nI (dwI 1 (Ns 0) (Ns 0 5)))), (3, .int (nI (dwI 2 (Ns 0) (Ns 0 5)))), (4, .int (nI (illI (Ns 0) w))), (5, .int (nI (snI (Ns 0) w))), (6, .int (nI (dvI (Ns 0) w))), (7, .int (nI (udI (Ns 0) w))), (8, .int (nI (w))), (9, .int (nI (utI w (Ns 0) m))), (10, .int (nI (m)))]) (lv_sub hl [0, 1, 2, 3, 4, 5, 6, 7, 8, 9, 10] rfl) (rfl))
            · skip
              refine lv_iconst (v := nI 1) E.1 E.2.1 dL_agree_468 (by decide) ?_
              refine lv_goto (tgt := 473) E.1 E.2.1 dL_agree_469 (by decide) ?_
              refine lv_eqi (y := nI (if Ns 0 (150 + 4 * m + 3) = w then 1 else 0)) (by rw [if_pos c465]) ?_
              exact jk456  (trivial) _ _ _ (HB.eq hw (rfl)) (lvh_eq (l := [(0, .ref (b 0)), (1, .int (nI (dwI 0 (Ns 0) (Ns 0 5)))), (2, .int (nI (dwI 1 (Ns 0) (Ns 0 5)))), (3, .int (nI (dwI 2 (Ns 0) (Ns 0 5)))), (4, .int (nI (illI (Ns 0) w))), (5, .int (nI (snI (Ns 0) w))), (6, .int (nI (dvI (Ns 0) w))), (7, .int (nI (udI (Ns 0) w))), (8, .int (nI (w))), (9, .int (nI (utI w (Ns 0) m))), (10, .int (nI (m)))]) (lv_sub hl [0, 1, 2, 3, 4, 5, 6, 7, 8, 9, 10] rfl) (rfl))
          · intro  hP456 H locs ls hw hl
            replace hw : HB G AA sS.heap (cW G b ad v pd rv Ns) H locs := hw
            replace hl : lv_has ls 11 [(0, .ref (b 0)), (1, .int (nI (dwI 0 (Ns 0) (Ns 0 5)))), (2, .int (nI (dwI 1 (Ns 0) (Ns 0 5)))), (3, .int (nI (dwI 2 (Ns 0) (Ns 0 5)))), (4, .int (nI (illI (Ns 0) w))), (5, .int (nI (snI (Ns 0) w))), (6, .int (nI (dvI (Ns 0) w))), (7, .int (nI (udI (Ns 0) w))), (8, .int (nI (w))), (9, .int (nI (utI w (Ns 0) m))), (10, .int (nI (m)))] := hl
            show W _ _ _ _ _ _ _ _ _ _ _ _ _ _ _ (F0 mM 473 ls [.int (nI (if Ns 0 (150 + 4 * m + 3) = w then 1 else 0)), .int (nI (utI w (Ns 0) m))])
            refine lv_addN E.1 E.2.1 dL_agree_473 ?_
            refine lv_eqi (y := nI (utI w (Ns 0) (m + 1))) (rfl) ?_
            refine lv_istore (lv' := [(9, .int (nI (utI w (Ns 0) (m + 1)))), (0, .ref (b 0)), (1, .int (nI (dwI 0 (Ns 0) (Ns 0 5)))), (2, .int (nI (dwI 1 (Ns 0) (Ns 0 5)))), (3, .int (nI (dwI 2 (Ns 0) (Ns 0 5)))), (4, .int (nI (illI (Ns 0) w))), (5, .int (nI (snI (Ns 0) w))), (6, .int (nI (dvI (Ns 0) w))), (7, .int (nI (udI (Ns 0) w))), (8, .int (nI (w))), (10, .int (nI (m)))]) E.1 E.2.1 dL_agree_474 hl (by decide) rfl (fun ls hl => ?_)
            refine lv_iincN (k := 10) (lv' := [(10, .int (nI (m + 1))), (9, .int (nI (utI w (Ns 0) (m + 1)))), (0, .ref (b 0)), (1, .int (nI (dwI 0 (Ns 0) (Ns 0 5)))), (2, .int (nI (dwI 1 (Ns 0) (Ns 0 5)))), (3, .int (nI (dwI 2 (Ns 0) (Ns 0 5)))), (4, .int (nI (illI (Ns 0) w))), (5, .int (nI (snI (Ns 0) w))), (6, .int (nI (dvI (Ns 0) w))), (7, .int (nI (udI (Ns 0) w))), (8, .int (nI (w)))]) E.1 E.2.1 dL_agree_476 hl rfl (by decide) rfl (fun ls hl => ?_)
            refine lv_goto (tgt := 444) E.1 E.2.1 dL_agree_479 (by decide) ?_
            exact ihm (m + 1) (by omega) (by omega) _ _ _ (HB.eq hw (rfl)) (lvh_eq (l := [(0, .ref (b 0)), (1, .int (nI (dwI 0 (Ns 0) (Ns 0 5)))), (2, .int (nI (dwI 1 (Ns 0) (Ns 0 5)))), (3, .int (nI (dwI 2 (Ns 0) (Ns 0 5)))), (4, .int (nI (illI (Ns 0) w))), (5, .int (nI (snI (Ns 0) w))), (6, .int (nI (dvI (Ns 0) w))), (7, .int (nI (udI (Ns 0) w))), (8, .int (nI (w))), (9, .int (nI (utI w (Ns 0) (m + 1)))), (10, .int (nI (m + 1)))]) (lv_sub hl [2, 3, 4, 5, 6, 7, 8, 9, 10, 1, 0] rfl) (rfl))
  · skip
    refine lv_iconst (v := nI 0) E.1 E.2.1 dL_agree_19 (by decide) ?_
    refine lv_istore (lv' := [(5, .int (nI (0))), (0, .ref (b 0)), (1, .int (nI (dwI 0 (Ns 0) d))), (2, .int (nI (dwI 1 (Ns 0) d))), (3, .int (nI (dwI 2 (Ns 0) d))), (4, .int (nI (d)))]) E.1 E.2.1 dL_agree_20 hl (by decide) rfl (fun ls hl => ?_)
    refine lv_iconst (v := nI 5) E.1 E.2.1 dL_agree_22 (by decide) ?_
    refine lv_istore (lv' := [(6, .int (nI (5))), (5, .int (nI (0))), (0, .ref (b 0)), (1, .int (nI (dwI 0 (Ns 0) d))), (2, .int (nI (dwI 1 (Ns 0) d))), (3, .int (nI (dwI 2 (Ns 0) d))), (4, .int (nI (d)))]) E.1 E.2.1 dL_agree_23 hl (by decide) rfl (fun ls hl => ?_)
    have hd8 : d < 8 := by omega
    have hK := hV.1 d (by omega)
    have qS := hF.f0 hd8
    have qT := hF.f1 hd8
    have q4 := hF.f4 hd8
    have q5 := hF.f5 hd8
    have q2 : cOf d 2 (Ns 0) < 16 := cOf_lt
    have q3 : cOf d 3 (Ns 0) < 16 := cOf_lt
    refine W_ind1 (nL := 11) (P := fun n => n ≤ 4) (μ := fun n => 4 - n) (I := fun n => cW G b ad v pd rv Ns) (L := fun n => [(0, .ref (b 0)), (1, .int (nI (dwI 0 (Ns 0) d))), (2, .int (nI (dwI 1 (Ns 0) d))), (3, .int (nI (dwI 2 (Ns 0) d))), (4, .int (nI (d))), (5, .int (nI (aI d (Ns 0) n))), (6, .int (nI (n + 5)))]) ?_ (0) (Nat.zero_le _) (HB.eq hw (rfl)) (lvh_eq (l := [(0, .ref (b 0)), (1, .int (nI (dwI 0 (Ns 0) d))), (2, .int (nI (dwI 1 (Ns 0) d))), (3, .int (nI (dwI 2 (Ns 0) d))), (4, .int (nI (d))), (5, .int (nI (0))), (6, .int (nI (5)))]) (lv_sub hl [2, 3, 4, 5, 6, 1, 0] rfl) (rfl))
    intro n hPn ihn H locs ls hw hl
    replace hw : HB G AA sS.heap (cW G b ad v pd rv Ns) H locs := hw
    replace hl : lv_has ls 11 [(0, .ref (b 0)), (1, .int (nI (dwI 0 (Ns 0) d))), (2, .int (nI (dwI 1 (Ns 0) d))), (3, .int (nI (dwI 2 (Ns 0) d))), (4, .int (nI (d))), (5, .int (nI (aI d (Ns 0) n))), (6, .int (nI (n + 5)))] := hl
    refine lv_iload E.1 E.2.1 dL_agree_25 (lv_at hl 6 rfl) ?_
    refine lv_bipush (v := nI 9) E.1 E.2.1 dL_agree_27 (by decide) ?_
    refine lv_icmp_geN (tgt := 112) E.1 E.2.1 (by omega) (by omega) dL_agree_29 (by decide) (fun c29 => ?_) (fun c29 => ?_)
    · skip
      refine W_join0 (G := G) (A := AA) (H0 := sS.heap) (nL := 11) 112 (True) (cW G b ad v pd rv Ns) ([(0, .ref (b 0)), (1, .int (nI (dwI 0 (Ns 0) d))), (2, .int (nI (dwI 1 (Ns 0) d))), (3, .int (nI (dwI 2 (Ns 0) d))), (4, .int (nI (d))), (5, .int (nI (Ns 0 (30 + 14 * d + 0))))]) ([]) (fun jk112 => ?_) ?_
      · skip
        exact jk112  (trivial) _ _ _ (HB.eq hw (rfl)) (lvh_eq (l := [(0, .ref (b 0)), (1, .int (nI (dwI 0 (Ns 0) d))), (2, .int (nI (dwI 1 (Ns 0) d))), (3, .int (nI (dwI 2 (Ns 0) d))), (4, .int (nI (d))), (5, .int (nI (aI d (Ns 0) n)))]) (lv_sub hl [0, 1, 2, 3, 4, 5] rfl) (by rw [show n = 4 by omega, aI_4 hF (by omega)]))
      · intro  hP112 H locs ls hw hl
        replace hw : HB G AA sS.heap (cW G b ad v pd rv Ns) H locs := hw
        replace hl : lv_has ls 11 [(0, .ref (b 0)), (1, .int (nI (dwI 0 (Ns 0) d))), (2, .int (nI (dwI 1 (Ns 0) d))), (3, .int (nI (dwI 2 (Ns 0) d))), (4, .int (nI (d))), (5, .int (nI (Ns 0 (30 + 14 * d + 0))))] := hl
        show W _ _ _ _ _ _ _ _ _ _ _ _ _ _ _ (F0 mM 112 ls [])
        refine lv_aload_n E.1 E.2.1 dL_agree_112 rfl (lv_at hl 0 rfl) ?_
        refine lv_iload E.1 E.2.1 dL_agree_113 (lv_at hl 4 rfl) ?_
        refine lv_iconst (v := nI 1) E.1 E.2.1 dL_agree_115 (by decide) ?_
        refine callVIp E (c_X3_ofDeal_ok l G b ad v pd rv Ns d (by omega) hF 1 (by decide)) ES.eb (fun _ _ _ => trivial) mn_7_11 YX3_ofDeal ⟨rfl, rfl⟩ ⟨Nat.le_of_ble_eq_true rfl, Nat.le_of_ble_eq_true rfl⟩ ⟨Nat.le_of_ble_eq_true rfl, Nat.le_of_ble_eq_true rfl⟩ hw (rr := []) (big' := cW G b ad v pd rv Ns) (by rw [List.append_nil]) (by rw [List.append_nil]) 0 rfl rfl rfl hl rfl (Nat.le_of_ble_eq_true rfl) dL_agree_116 (fun H locs hw => ?_)
        refine lv_eqi (y := nI (Ns 0 (30 + 14 * d + 1))) (rfl) ?_
        refine lv_istore (lv' := [(6, .int (nI (Ns 0 (30 + 14 * d + 1)))), (0, .ref (b 0)), (1, .int (nI (dwI 0 (Ns 0) d))), (2, .int (nI (dwI 1 (Ns 0) d))), (3, .int (nI (dwI 2 (Ns 0) d))), (4, .int (nI (d))), (5, .int (nI (Ns 0 (30 + 14 * d + 0))))]) E.1 E.2.1 dL_agree_119 hl (by decide) rfl (fun ls hl => ?_)
        refine W_join0 (G := G) (A := AA) (H0 := sS.heap) (nL := 11) 137 (True) (cW G b ad v pd rv Ns) ([(6, .int (nI (Ns 0 (30 + 14 * d + 1)))), (0, .ref (b 0)), (1, .int (nI (dwI 0 (Ns 0) d))), (2, .int (nI (dwI 1 (Ns 0) d))), (3, .int (nI (dwI 2 (Ns 0) d))), (4, .int (nI (d))), (5, .int (nI (Ns 0 (30 + 14 * d + 0))))]) ([.int (zb (¬ cOf d 2 (Ns 0) = 0))]) (fun jk121 => ?_) ?_
        · skip
          refine lv_aload_n E.1 E.2.1 dL_agree_121 rfl (lv_at hl 1 rfl) ?_
          refine lv_iload E.1 E.2.1 dL_agree_122 (lv_at hl 5 rfl) ?_
          refine lv_bipush (v := nI 7) E.1 E.2.1 dL_agree_124 (by decide) ?_
          refine callVIp E (c_X3_ofDeal_ok l G b ad v pd rv Ns d (by omega) hF 7 (by decide)) ES.eb (fun _ _ _ => trivial) mn_7_11 YX3_ofDeal ⟨rfl, rfl⟩ ⟨Nat.le_of_ble_eq_true rfl, Nat.le_of_ble_eq_true rfl⟩ ⟨Nat.le_of_ble_eq_true rfl, Nat.le_of_ble_eq_true rfl⟩ hw (rr := []) (big' := cW G b ad v pd rv Ns) (by rw [List.append_nil]) (by rw [List.append_nil]) 0 rfl rfl rfl hl rfl (Nat.le_of_ble_eq_true rfl) dL_agree_126 (fun H locs hw => ?_)
          refine lv_eqi (y := nI (cOf d 2 (Ns 0))) (rfl) ?_
          refine lv_if_eqN (tgt := 136) E.1 E.2.1 (by omega) dL_agree_129 (by decide) (fun c129 => ?_) (fun c129 => ?_)
          · skip
            refine lv_iconst (v := nI 0) E.1 E.2.1 dL_agree_136 (by decide) ?_
            refine lv_eqi (y := zb (¬ cOf d 2 (Ns 0) = 0)) ((zb_f (fun z => z c129)).symm) ?_
            exact jk121  (trivial) _ _ _ (HB.eq hw (rfl)) (lvh_eq (l := [(6, .int (nI (Ns 0 (30 + 14 * d + 1)))), (0, .ref (b 0)), (1, .int (nI (dwI 0 (Ns 0) d))), (2, .int (nI (dwI 1 (Ns 0) d))), (3, .int (nI (dwI 2 (Ns 0) d))), (4, .int (nI (d))), (5, .int (nI (Ns 0 (30 + 14 * d + 0))))]) (lv_sub hl [0, 1, 2, 3, 4, 5, 6] rfl) (rfl))
          · skip
            refine lv_iconst (v := nI 1) E.1 E.2.1 dL_agree_132 (by decide) ?_
            refine lv_goto (tgt := 137) E.1 E.2.1 dL_agree_133 (by decide) ?_
            refine lv_eqi (y := zb (¬ cOf d 2 (Ns 0) = 0)) ((zb_t (c129)).symm) ?_
            exact jk121  (trivial) _ _ _ (HB.eq hw (rfl)) (lvh_eq (l := [(6, .int (nI (Ns 0 (30 + 14 * d + 1)))), (0, .ref (b 0)), (1, .int (nI (dwI 0 (Ns 0) d))), (2, .int (nI (dwI 1 (Ns 0) d))), (3, .int (nI (dwI 2 (Ns 0) d))), (4, .int (nI (d))), (5, .int (nI (Ns 0 (30 + 14 * d + 0))))]) (lv_sub hl [0, 1, 2, 3, 4, 5, 6] rfl) (rfl))
        · intro  hP121 H locs ls hw hl
          replace hw : HB G AA sS.heap (cW G b ad v pd rv Ns) H locs := hw
          replace hl : lv_has ls 11 [(6, .int (nI (Ns 0 (30 + 14 * d + 1)))), (0, .ref (b 0)), (1, .int (nI (dwI 0 (Ns 0) d))), (2, .int (nI (dwI 1 (Ns 0) d))), (3, .int (nI (dwI 2 (Ns 0) d))), (4, .int (nI (d))), (5, .int (nI (Ns 0 (30 + 14 * d + 0))))] := hl
          show W _ _ _ _ _ _ _ _ _ _ _ _ _ _ _ (F0 mM 137 ls [.int (zb (¬ cOf d 2 (Ns 0) = 0))])
          refine lv_istore (lv' := [(7, .int (zb (¬ cOf d 2 (Ns 0) = 0))), (6, .int (nI (Ns 0 (30 + 14 * d + 1)))), (0, .ref (b 0)), (1, .int (nI (dwI 0 (Ns 0) d))), (2, .int (nI (dwI 1 (Ns 0) d))), (3, .int (nI (dwI 2 (Ns 0) d))), (4, .int (nI (d))), (5, .int (nI (Ns 0 (30 + 14 * d + 0))))]) E.1 E.2.1 dL_agree_137 hl (by decide) rfl (fun ls hl => ?_)
          refine W_join0 (G := G) (A := AA) (H0 := sS.heap) (nL := 11) 155 (True) (cW G b ad v pd rv Ns) ([(7, .int (zb (¬ cOf d 2 (Ns 0) = 0))), (6, .int (nI (Ns 0 (30 + 14 * d + 1)))), (0, .ref (b 0)), (1, .int (nI (dwI 0 (Ns 0) d))), (2, .int (nI (dwI 1 (Ns 0) d))), (3, .int (nI (dwI 2 (Ns 0) d))), (4, .int (nI (d))), (5, .int (nI (Ns 0 (30 + 14 * d + 0))))]) ([.int (zb (¬ cOf d 3 (Ns 0) = 0))]) (fun jk139 => ?_) ?_
          · skip
            refine lv_aload_n E.1 E.2.1 dL_agree_139 rfl (lv_at hl 2 rfl) ?_
            refine lv_iload E.1 E.2.1 dL_agree_140 (lv_at hl 6 rfl) ?_
            refine lv_bipush (v := nI 8) E.1 E.2.1 dL_agree_142 (by decide) ?_
            refine callVIp E (c_X3_ofDeal_ok l G b ad v pd rv Ns d (by omega) hF 8 (by decide)) ES.eb (fun _ _ _ => trivial) mn_7_11 YX3_ofDeal ⟨rfl, rfl⟩ ⟨Nat.le_of_ble_eq_true rfl, Nat.le_of_ble_eq_true rfl⟩ ⟨Nat.le_of_ble_eq_true rfl, Nat.le_of_ble_eq_true rfl⟩ hw (rr := []) (big' := cW G b ad v pd rv Ns) (by rw [List.append_nil]) (by rw [List.append_nil]) 0 rfl rfl rfl hl rfl (Nat.le_of_ble_eq_true rfl) dL_agree_144 (fun H locs hw => ?_)
            refine lv_eqi (y := nI (cOf d 3 (Ns 0))) (rfl) ?_
            refine lv_if_eqN (tgt := 154) E.1 E.2.1 (by omega) dL_agree_147 (by decide) (fun c147 => ?_) (fun c147 => ?_)
            · skip
              refine lv_iconst (v := nI 0) E.1 E.2.1 dL_agree_154 (by decide) ?_
              refine lv_eqi (y := zb (¬ cOf d 3 (Ns 0) = 0)) ((zb_f (fun z => z c147)).symm) ?_
              exact jk139  (trivial) _ _ _ (HB.eq hw (rfl)) (lvh_eq (l := [(7, .int (zb (¬ cOf d 2 (Ns 0) = 0))), (6, .int (nI (Ns 0 (30 + 14 * d + 1)))), (0, .ref (b 0)), (1, .int (nI (dwI 0 (Ns 0) d))), (2, .int (nI (dwI 1 (Ns 0) d))), (3, .int (nI (dwI 2 (Ns 0) d))), (4, .int (nI (d))), (5, .int (nI (Ns 0 (30 + 14 * d + 0))))]) (lv_sub hl [0, 1, 2, 3, 4, 5, 6, 7] rfl) (rfl))
            · skip
              refine lv_iconst (v := nI 1) E.1 E.2.1 dL_agree_150 (by decide) ?_
              refine lv_goto (tgt := 155) E.1 E.2.1 dL_agree_151 (by decide) ?_
              refine lv_eqi (y := zb (¬ cOf d 3 (Ns 0) = 0)) ((zb_t (c147)).symm) ?_
              exact jk139  (trivial) _ _ _ (HB.eq hw (rfl)) (lvh_eq (l := [(7, .int (zb (¬ cOf d 2 (Ns 0) = 0))), (6, .int (nI (Ns 0 (30 + 14 * d + 1)))), (0, .ref (b 0)), (1, .int (nI (dwI 0 (Ns 0) d))), (2, .int (nI (dwI 1 (Ns 0) d))), (3, .int (nI (dwI 2 (Ns 0) d))), (4, .int (nI (d))), (5, .int (nI (Ns 0 (30 + 14 * d + 0))))]) (lv_sub hl [0, 1, 2, 3, 4, 5, 6, 7] rfl) (rfl))
          · intro  hP139 H locs ls hw hl
            replace hw : HB G AA sS.heap (cW G b ad v pd rv Ns) H locs := hw
            replace hl : lv_has ls 11 [(7, .int (zb (¬ cOf d 2 (Ns 0) = 0))), (6, .int (nI (Ns 0 (30 + 14 * d + 1)))), (0, .ref (b 0)), (1, .int (nI (dwI 0 (Ns 0) d))), (2, .int (nI (dwI 1 (Ns 0) d))), (3, .int (nI (dwI 2 (Ns 0) d))), (4, .int (nI (d))), (5, .int (nI (Ns 0 (30 + 14 * d + 0))))] := hl
            show W _ _ _ _ _ _ _ _ _ _ _ _ _ _ _ (F0 mM 155 ls [.int (zb (¬ cOf d 3 (Ns 0) = 0))])
            refine lv_istore (lv' := [(8, .int (zb (¬ cOf d 3 (Ns 0) = 0))), (7, .int (zb (¬ cOf d 2 (Ns 0) = 0))), (6, .int (nI (Ns 0 (30 + 14 * d + 1)))), (0, .ref (b 0)), (1, .int (nI (dwI 0 (Ns 0) d))), (2, .int (nI (dwI 1 (Ns 0) d))), (3, .int (nI (dwI 2 (Ns 0) d))), (4, .int (nI (d))), (5, .int (nI (Ns 0 (30 + 14 * d + 0))))]) E.1 E.2.1 dL_agree_155 hl (by decide) rfl (fun ls hl => ?_)
            refine lv_iload_n E.1 E.2.1 dL_agree_157 rfl (lv_at hl 4 rfl) ?_
            refine W_join0 (G := G) (A := AA) (H0 := sS.heap) (nL := 11) 168 (True) (cW G b ad v pd rv Ns) ([(8, .int (zb (¬ cOf d 3 (Ns 0) = 0))), (7, .int (zb (¬ cOf d 2 (Ns 0) = 0))), (6, .int (nI (Ns 0 (30 + 14 * d + 1)))), (0, .ref (b 0)), (1, .int (nI (dwI 0 (Ns 0) d))), (2, .int (nI (dwI 1 (Ns 0) d))), (3, .int (nI (dwI 2 (Ns 0) d))), (4, .int (nI (d))), (5, .int (nI (Ns 0 (30 + 14 * d + 0))))]) ([.int (nI (if ¬ cOf d 2 (Ns 0) = 0 then 1 else 0)), .int (nI (dwI 0 (Ns 0) d))]) (fun jk158 => ?_) ?_
            · skip
              refine lv_iload E.1 E.2.1 dL_agree_158 (lv_at hl 1 rfl) ?_
              refine lv_if_eqB (tgt := 167) E.1 E.2.1 dL_agree_160 (by decide) (fun c160 => ?_) (fun c160 => ?_)
              · skip
                refine lv_iconst (v := nI 0) E.1 E.2.1 dL_agree_167 (by decide) ?_
                refine lv_eqi (y := nI (if ¬ cOf d 2 (Ns 0) = 0 then 1 else 0)) (by rw [if_neg c160]) ?_
                exact jk158  (trivial) _ _ _ (HB.eq hw (rfl)) (lvh_eq (l := [(8, .int (zb (¬ cOf d 3 (Ns 0) = 0))), (7, .int (zb (¬ cOf d 2 (Ns 0) = 0))), (6, .int (nI (Ns 0 (30 + 14 * d + 1)))), (0, .ref (b 0)), (1, .int (nI (dwI 0 (Ns 0) d))), (2, .int (nI (dwI 1 (Ns 0) d))), (3, .int (nI (dwI 2 (Ns 0) d))), (4, .int (nI (d))), (5, .int (nI (Ns 0 (30 + 14 * d + 0))))]) (lv_sub hl [0, 1, 2, 3, 4, 5, 6, 7, 8] rfl) (rfl))
              · skip
                refine lv_iconst (v := nI 1) E.1 E.2.1 dL_agree_163 (by decide) ?_
                refine lv_goto (tgt := 168) E.1 E.2.1 dL_agree_164 (by decide) ?_
                refine lv_eqi (y := nI (if ¬ cOf d 2 (Ns 0) = 0 then 1 else 0)) (by rw [if_pos c160]) ?_
                exact jk158  (trivial) _ _ _ (HB.eq hw (rfl)) (lvh_eq (l := [(8, .int (zb (¬ cOf d 3 (Ns 0) = 0))), (7, .int (zb (¬ cOf d 2 (Ns 0) = 0))), (6, .int (nI (Ns 0 (30 + 14 * d + 1)))), (0, .ref (b 0)), (1, .int (nI (dwI 0 (Ns 0) d))), (2, .int (nI (dwI 1 (Ns 0) d))), (3, .int (nI (dwI 2 (Ns 0) d))), (4, .int (nI (d))), (5, .int (nI (Ns 0 (30 + 14 * d + 0))))]) (lv_sub hl [0, 1, 2, 3, 4, 5, 6, 7, 8] rfl) (rfl))
            · intro  hP158 H locs ls hw hl
              replace hw : HB G AA sS.heap (cW G b ad v pd rv Ns) H locs := hw
              replace hl : lv_has ls 11 [(8, .int (zb (¬ cOf d 3 (Ns 0) = 0))), (7, .int (zb (¬ cOf d 2 (Ns 0) = 0))), (6, .int (nI (Ns 0 (30 + 14 * d + 1)))), (0, .ref (b 0)), (1, .int (nI (dwI 0 (Ns 0) d))), (2, .int (nI (dwI 1 (Ns 0) d))), (3, .int (nI (dwI 2 (Ns 0) d))), (4, .int (nI (d))), (5, .int (nI (Ns 0 (30 + 14 * d + 0))))] := hl
              show W _ _ _ _ _ _ _ _ _ _ _ _ _ _ _ (F0 mM 168 ls [.int (nI (if ¬ cOf d 2 (Ns 0) = 0 then 1 else 0)), .int (nI (dwI 0 (Ns 0) d))])
              refine lv_addN E.1 E.2.1 dL_agree_168 ?_
              refine lv_eqi (y := nI (dwI 0 (Ns 0) (d + 1))) (congrArg nI dw0.symm) ?_
              refine lv_istore_n (lv' := [(1, .int (nI (dwI 0 (Ns 0) (d + 1)))), (8, .int (zb (¬ cOf d 3 (Ns 0) = 0))), (7, .int (zb (¬ cOf d 2 (Ns 0) = 0))), (6, .int (nI (Ns 0 (30 + 14 * d + 1)))), (0, .ref (b 0)), (2, .int (nI (dwI 1 (Ns 0) d))), (3, .int (nI (dwI 2 (Ns 0) d))), (4, .int (nI (d))), (5, .int (nI (Ns 0 (30 + 14 * d + 0))))]) E.1 E.2.1 dL_agree_169 rfl hl (by decide) rfl (fun ls hl => ?_)
              refine lv_iload_n E.1 E.2.1 dL_agree_170 rfl (lv_at hl 5 rfl) ?_
              refine W_join0 (G := G) (A := AA) (H0 := sS.heap) (nL := 11) 181 (True) (cW G b ad v pd rv Ns) ([(1, .int (nI (dwI 0 (Ns 0) (d + 1)))), (8, .int (zb (¬ cOf d 3 (Ns 0) = 0))), (7, .int (zb (¬ cOf d 2 (Ns 0) = 0))), (6, .int (nI (Ns 0 (30 + 14 * d + 1)))), (0, .ref (b 0)), (2, .int (nI (dwI 1 (Ns 0) d))), (3, .int (nI (dwI 2 (Ns 0) d))), (4, .int (nI (d))), (5, .int (nI (Ns 0 (30 + 14 * d + 0))))]) ([.int (nI (if ¬ cOf d 3 (Ns 0) = 0 then 1 else 0)), .int (nI (dwI 1 (Ns 0) d))]) (fun jk171 => ?_) ?_
              · skip
                refine lv_iload E.1 E.2.1 dL_agree_171 (lv_at hl 1 rfl) ?_
                refine lv_if_eqB (tgt := 180) E.1 E.2.1 dL_agree_173 (by decide) (fun c173 => ?_) (fun c173 => ?_)
                · skip
                  refine lv_iconst (v := nI 0) E.1 E.2.1 dL_agree_180 (by decide) ?_
                  refine lv_eqi (y := nI (if ¬ cOf d 3 (Ns 0) = 0 then 1 else 0)) (by rw [if_neg c173]) ?_
                  exact jk171  (trivial) _ _ _ (HB.eq hw (rfl)) (lvh_eq (l := [(1, .int (nI (dwI 0 (Ns 0) (d + 1)))), (8, .int (zb (¬ cOf d 3 (Ns 0) = 0))), (7, .int (zb (¬ cOf d 2 (Ns 0) = 0))), (6, .int (nI (Ns 0 (30 + 14 * d + 1)))), (0, .ref (b 0)), (2, .int (nI (dwI 1 (Ns 0) d))), (3, .int (nI (dwI 2 (Ns 0) d))), (4, .int (nI (d))), (5, .int (nI (Ns 0 (30 + 14 * d + 0))))]) (lv_sub hl [0, 1, 2, 3, 4, 5, 6, 7, 8] rfl) (rfl))
                · skip
                  refine lv_iconst (v := nI 1) E.1 E.2.1 dL_agree_176 (by decide) ?_
                  refine lv_goto (tgt := 181) E.1 E.2.1 dL_agree_177 (by decide) ?_
                  refine lv_eqi (y := nI (if ¬ cOf d 3 (Ns 0) = 0 then 1 else 0)) (by rw [if_pos c173]) ?_
                  exact jk171  (trivial) _ _ _ (HB.eq hw (rfl)) (lvh_eq (l := [(1, .int (nI (dwI 0 (Ns 0) (d + 1)))), (8, .int (zb (¬ cOf d 3 (Ns 0) = 0))), (7, .int (zb (¬ cOf d 2 (Ns 0) = 0))), (6, .int (nI (Ns 0 (30 + 14 * d + 1)))), (0, .ref (b 0)), (2, .int (nI (dwI 1 (Ns 0) d))), (3, .int (nI (dwI 2 (Ns 0) d))), (4, .int (nI (d))), (5, .int (nI (Ns 0 (30 + 14 * d + 0))))]) (lv_sub hl [0, 1, 2, 3, 4, 5, 6, 7, 8] rfl) (rfl))
              · intro  hP171 H locs ls hw hl
                replace hw : HB G AA sS.heap (cW G b ad v pd rv Ns) H locs := hw
                replace hl : lv_has ls 11 [(1, .int (nI (dwI 0 (Ns 0) (d + 1)))), (8, .int (zb (¬ cOf d 3 (Ns 0) = 0))), (7, .int (zb (¬ cOf d 2 (Ns 0) = 0))), (6, .int (nI (Ns 0 (30 + 14 * d + 1)))), (0, .ref (b 0)), (2, .int (nI (dwI 1 (Ns 0) d))), (3, .int (nI (dwI 2 (Ns 0) d))), (4, .int (nI (d))), (5, .int (nI (Ns 0 (30 + 14 * d + 0))))] := hl
                show W _ _ _ _ _ _ _ _ _ _ _ _ _ _ _ (F0 mM 181 ls [.int (nI (if ¬ cOf d 3 (Ns 0) = 0 then 1 else 0)), .int (nI (dwI 1 (Ns 0) d))])
                refine lv_addN E.1 E.2.1 dL_agree_181 ?_
                refine lv_eqi (y := nI (dwI 1 (Ns 0) (d + 1))) (congrArg nI dw1.symm) ?_
                refine lv_istore_n (lv' := [(2, .int (nI (dwI 1 (Ns 0) (d + 1)))), (1, .int (nI (dwI 0 (Ns 0) (d + 1)))), (8, .int (zb (¬ cOf d 3 (Ns 0) = 0))), (7, .int (zb (¬ cOf d 2 (Ns 0) = 0))), (6, .int (nI (Ns 0 (30 + 14 * d + 1)))), (0, .ref (b 0)), (3, .int (nI (dwI 2 (Ns 0) d))), (4, .int (nI (d))), (5, .int (nI (Ns 0 (30 + 14 * d + 0))))]) E.1 E.2.1 dL_agree_182 rfl hl (by decide) rfl (fun ls hl => ?_)
                refine lv_iload_n E.1 E.2.1 dL_agree_183 rfl (lv_at hl 6 rfl) ?_
                refine W_join0 (G := G) (A := AA) (H0 := sS.heap) (nL := 11) 199 (True) (cW G b ad v pd rv Ns) ([(2, .int (nI (dwI 1 (Ns 0) (d + 1)))), (1, .int (nI (dwI 0 (Ns 0) (d + 1)))), (8, .int (zb (¬ cOf d 3 (Ns 0) = 0))), (7, .int (zb (¬ cOf d 2 (Ns 0) = 0))), (6, .int (nI (Ns 0 (30 + 14 * d + 1)))), (0, .ref (b 0)), (3, .int (nI (dwI 2 (Ns 0) d))), (4, .int (nI (d))), (5, .int (nI (Ns 0 (30 + 14 * d + 0))))]) ([.int (nI (if ¬ cOf d 2 (Ns 0) = 0 ∧ ¬ cOf d 3 (Ns 0) = 0 then 1 else 0)), .int (nI (dwI 2 (Ns 0) d))]) (fun jk184 => ?_) ?_
                · skip
                  refine lv_iload E.1 E.2.1 dL_agree_184 (lv_at hl 3 rfl) ?_
                  refine lv_if_eqB (tgt := 198) E.1 E.2.1 dL_agree_186 (by decide) (fun c186 => ?_) (fun c186 => ?_)
                  · skip
                    refine lv_iconst (v := nI 0) E.1 E.2.1 dL_agree_198 (by decide) ?_
                    refine lv_eqi (y := nI (if ¬ cOf d 2 (Ns 0) = 0 ∧ ¬ cOf d 3 (Ns 0) = 0 then 1 else 0)) (by rw [if_neg (fun z => c186 z.1)]) ?_
                    exact jk184  (trivial) _ _ _ (HB.eq hw (rfl)) (lvh_eq (l := [(2, .int (nI (dwI 1 (Ns 0) (d + 1)))), (1, .int (nI (dwI 0 (Ns 0) (d + 1)))), (8, .int (zb (¬ cOf d 3 (Ns 0) = 0))), (7, .int (zb (¬ cOf d 2 (Ns 0) = 0))), (6, .int (nI (Ns 0 (30 + 14 * d + 1)))), (0, .ref (b 0)), (3, .int (nI (dwI 2 (Ns 0) d))), (4, .int (nI (d))), (5, .int (nI (Ns 0 (30 + 14 * d + 0))))]) (lv_sub hl [0, 1, 2, 3, 4, 5, 6, 7, 8] rfl) (rfl))
                  · skip
                    refine lv_iload E.1 E.2.1 dL_agree_189 (lv_at hl 2 rfl) ?_
                    refine lv_if_eqB (tgt := 198) E.1 E.2.1 dL_agree_191 (by decide) (fun c191 => ?_) (fun c191 => ?_)
                    · skip
                      refine lv_iconst (v := nI 0) E.1 E.2.1 dL_agree_198 (by decide) ?_
                      refine lv_eqi (y := nI (if ¬ cOf d 2 (Ns 0) = 0 ∧ ¬ cOf d 3 (Ns 0) = 0 then 1 else 0)) (by rw [if_neg (fun z => c191 z.2)]) ?_
                      exact jk184  (trivial) _ _ _ (HB.eq hw (rfl)) (lvh_eq (l := [(2, .int (nI (dwI 1 (Ns 0) (d + 1)))), (1, .int (nI (dwI 0 (Ns 0) (d + 1)))), (8, .int (zb (¬ cOf d 3 (Ns 0) = 0))), (7, .int (zb (¬ cOf d 2 (Ns 0) = 0))), (6, .int (nI (Ns 0 (30 + 14 * d + 1)))), (0, .ref (b 0)), (3, .int (nI (dwI 2 (Ns 0) d))), (4, .int (nI (d))), (5, .int (nI (Ns 0 (30 + 14 * d + 0))))]) (lv_sub hl [0, 1, 2, 3, 4, 5, 6, 7, 8] rfl) (rfl))
                    · skip
                      refine lv_iconst (v := nI 1) E.1 E.2.1 dL_agree_194 (by decide) ?_
                      refine lv_goto (tgt := 199) E.1 E.2.1 dL_agree_195 (by decide) ?_
                      refine lv_eqi (y := nI (if ¬ cOf d 2 (Ns 0) = 0 ∧ ¬ cOf d 3 (Ns 0) = 0 then 1 else 0)) (by rw [if_pos ⟨c186, c191⟩]) ?_
                      exact jk184  (trivial) _ _ _ (HB.eq hw (rfl)) (lvh_eq (l := [(2, .int (nI (dwI 1 (Ns 0) (d + 1)))), (1, .int (nI (dwI 0 (Ns 0) (d + 1)))), (8, .int (zb (¬ cOf d 3 (Ns 0) = 0))), (7, .int (zb (¬ cOf d 2 (Ns 0) = 0))), (6, .int (nI (Ns 0 (30 + 14 * d + 1)))), (0, .ref (b 0)), (3, .int (nI (dwI 2 (Ns 0) d))), (4, .int (nI (d))), (5, .int (nI (Ns 0 (30 + 14 * d + 0))))]) (lv_sub hl [0, 1, 2, 3, 4, 5, 6, 7, 8] rfl) (rfl))
                · intro  hP184 H locs ls hw hl
                  replace hw : HB G AA sS.heap (cW G b ad v pd rv Ns) H locs := hw
                  replace hl : lv_has ls 11 [(2, .int (nI (dwI 1 (Ns 0) (d + 1)))), (1, .int (nI (dwI 0 (Ns 0) (d + 1)))), (8, .int (zb (¬ cOf d 3 (Ns 0) = 0))), (7, .int (zb (¬ cOf d 2 (Ns 0) = 0))), (6, .int (nI (Ns 0 (30 + 14 * d + 1)))), (0, .ref (b 0)), (3, .int (nI (dwI 2 (Ns 0) d))), (4, .int (nI (d))), (5, .int (nI (Ns 0 (30 + 14 * d + 0))))] := hl
                  show W _ _ _ _ _ _ _ _ _ _ _ _ _ _ _ (F0 mM 199 ls [.int (nI (if ¬ cOf d 2 (Ns 0) = 0 ∧ ¬ cOf d 3 (Ns 0) = 0 then 1 else 0)), .int (nI (dwI 2 (Ns 0) d))])
                  refine lv_addN E.1 E.2.1 dL_agree_199 ?_
                  refine lv_eqi (y := nI (dwI 2 (Ns 0) (d + 1))) (congrArg nI dw2.symm) ?_
                  refine lv_istore_n (lv' := [(3, .int (nI (dwI 2 (Ns 0) (d + 1)))), (2, .int (nI (dwI 1 (Ns 0) (d + 1)))), (1, .int (nI (dwI 0 (Ns 0) (d + 1)))), (8, .int (zb (¬ cOf d 3 (Ns 0) = 0))), (7, .int (zb (¬ cOf d 2 (Ns 0) = 0))), (6, .int (nI (Ns 0 (30 + 14 * d + 1)))), (0, .ref (b 0)), (4, .int (nI (d))), (5, .int (nI (Ns 0 (30 + 14 * d + 0))))]) E.1 E.2.1 dL_agree_200 rfl hl (by decide) rfl (fun ls hl => ?_)
                  refine lv_iload E.1 E.2.1 dL_agree_201 (lv_at hl 8 rfl) ?_
                  refine lv_aload_n E.1 E.2.1 dL_agree_203 rfl (lv_at hl 6 rfl) ?_
                  refine lv_iload E.1 E.2.1 dL_agree_204 (lv_at hl 7 rfl) ?_
                  refine lv_iconst (v := nI 0) E.1 E.2.1 dL_agree_206 (by decide) ?_
                  refine callVIp E (c_X3_ofDeal_ok l G b ad v pd rv Ns d (by omega) hF 0 (by decide)) ES.eb (fun _ _ _ => trivial) mn_7_11 YX3_ofDeal ⟨rfl, rfl⟩ ⟨Nat.le_of_ble_eq_true rfl, Nat.le_of_ble_eq_true rfl⟩ ⟨Nat.le_of_ble_eq_true rfl, Nat.le_of_ble_eq_true rfl⟩ hw (rr := []) (big' := cW G b ad v pd rv Ns) (by rw [List.append_nil]) (by rw [List.append_nil]) 0 rfl rfl rfl hl rfl (Nat.le_of_ble_eq_true rfl) dL_agree_207 (fun H locs hw => ?_)
                  refine lv_eqi (y := nI (Ns 0 (30 + 14 * d + 0))) (rfl) ?_
                  refine lv_icmp_neN (tgt := 283) E.1 E.2.1 (by omega) (by omega) dL_agree_210 (by decide) (fun c210 => ?_) (fun c210 => ?_)
                  · exact absurd rfl c210
                  · skip
                    refine W_join0 (G := G) (A := AA) (H0 := sS.heap) (nL := 11) 247 (True) (cW G b ad v pd rv Ns) ([(3, .int (nI (dwI 2 (Ns 0) (d + 1)))), (2, .int (nI (dwI 1 (Ns 0) (d + 1)))), (1, .int (nI (dwI 0 (Ns 0) (d + 1)))), (8, .int (zb (¬ cOf d 3 (Ns 0) = 0))), (7, .int (zb (¬ cOf d 2 (Ns 0) = 0))), (6, .int (nI (Ns 0 (30 + 14 * d + 1)))), (0, .ref (b 0)), (4, .int (nI (d))), (5, .int (nI (Ns 0 (30 + 14 * d + 0))))]) ([]) (fun jk213 => ?_) ?_
                    · skip
                      refine lv_iload E.1 E.2.1 dL_agree_213 (lv_at hl 4 rfl) ?_
                      refine lv_if_eqB (tgt := 247) E.1 E.2.1 dL_agree_215 (by decide) (fun c215 => ?_) (fun c215 => ?_)
                      · skip
                        exact jk213  (trivial) _ _ _ (HB.eq hw (rfl)) (lvh_eq (l := [(3, .int (nI (dwI 2 (Ns 0) (d + 1)))), (2, .int (nI (dwI 1 (Ns 0) (d + 1)))), (1, .int (nI (dwI 0 (Ns 0) (d + 1)))), (8, .int (zb (¬ cOf d 3 (Ns 0) = 0))), (7, .int (zb (¬ cOf d 2 (Ns 0) = 0))), (6, .int (nI (Ns 0 (30 + 14 * d + 1)))), (0, .ref (b 0)), (4, .int (nI (d))), (5, .int (nI (Ns 0 (30 + 14 * d + 0))))]) (lv_sub hl [0, 1, 2, 3, 4, 5, 6, 7, 8] rfl) (rfl))
                      · skip
                        refine lv_iload E.1 E.2.1 dL_agree_218 (lv_at hl 3 rfl) ?_
                        refine lv_if_neB (tgt := 283) E.1 E.2.1 dL_agree_220 (by decide) (fun c220 => ?_) (fun c220 => ?_)
                        · exact absurd (hK.p hF hd8 c215).2.1 c220
                        · skip
                          refine lv_iload E.1 E.2.1 dL_agree_223 (lv_at hl 5 rfl) ?_
                          refine lv_iconst (v := nI 1) E.1 E.2.1 dL_agree_225 (by decide) ?_
                          refine lv_icmp_eqN (tgt := 235) E.1 E.2.1 (by omega) (by omega) dL_agree_226 (by decide) (fun c226 => ?_) (fun c226 => ?_)
                          · skip
                            refine lv_aload_n E.1 E.2.1 dL_agree_235 rfl (lv_at hl 6 rfl) ?_
                            refine lv_iload E.1 E.2.1 dL_agree_236 (lv_at hl 7 rfl) ?_
                            refine lv_iconst (v := nI 3) E.1 E.2.1 dL_agree_238 (by decide) ?_
                            refine callVIp E (c_X3_ofDeal_ok l G b ad v pd rv Ns d (by omega) hF 3 (by decide)) ES.eb (fun _ _ _ => trivial) mn_7_11 YX3_ofDeal ⟨rfl, rfl⟩ ⟨Nat.le_of_ble_eq_true rfl, Nat.le_of_ble_eq_true rfl⟩ ⟨Nat.le_of_ble_eq_true rfl, Nat.le_of_ble_eq_true rfl⟩ hw (rr := []) (big' := cW G b ad v pd rv Ns) (by rw [List.append_nil]) (by rw [List.append_nil]) 0 rfl rfl rfl hl rfl (Nat.le_of_ble_eq_true rfl) dL_agree_239 (fun H locs hw => ?_)
                            refine lv_eqi (y := nI (Ns 0 (30 + 14 * d + 4))) (rfl) ?_
                            refine lv_iload E.1 E.2.1 dL_agree_242 (lv_at hl 8 rfl) ?_
                            refine lv_icmp_neN (tgt := 283) E.1 E.2.1 (by omega) (by omega) dL_agree_244 (by decide) (fun c244 => ?_) (fun c244 => ?_)
                            · exact absurd (hK.p hF hd8 c215).2.2 c244
                            · skip
                              exact jk213  (trivial) _ _ _ (HB.eq hw (rfl)) (lvh_eq (l := [(3, .int (nI (dwI 2 (Ns 0) (d + 1)))), (2, .int (nI (dwI 1 (Ns 0) (d + 1)))), (1, .int (nI (dwI 0 (Ns 0) (d + 1)))), (8, .int (zb (¬ cOf d 3 (Ns 0) = 0))), (7, .int (zb (¬ cOf d 2 (Ns 0) = 0))), (6, .int (nI (Ns 0 (30 + 14 * d + 1)))), (0, .ref (b 0)), (4, .int (nI (d))), (5, .int (nI (Ns 0 (30 + 14 * d + 0))))]) (lv_sub hl [0, 1, 2, 3, 4, 5, 6, 7, 8] rfl) (rfl))
                          · skip
                            refine lv_iload E.1 E.2.1 dL_agree_229 (lv_at hl 5 rfl) ?_
                            refine lv_iconst (v := nI 3) E.1 E.2.1 dL_agree_231 (by decide) ?_
                            refine lv_icmp_neN (tgt := 283) E.1 E.2.1 (by omega) (by omega) dL_agree_232 (by decide) (fun c232 => ?_) (fun c232 => ?_)
                            · exact absurd (hK.p hF hd8 c215).1 (fun z => z.elim c226 c232)
                            · skip
                              refine lv_aload_n E.1 E.2.1 dL_agree_235 rfl (lv_at hl 6 rfl) ?_
                              refine lv_iload E.1 E.2.1 dL_agree_236 (lv_at hl 7 rfl) ?_
                              refine lv_iconst (v := nI 3) E.1 E.2.1 dL_agree_238 (by decide) ?_
                              refine callVIp E (c_X3_ofDeal_ok l G b ad v pd rv Ns d (by omega) hF 3 (by decide)) ES.eb (fun _ _ _ => trivial) mn_7_11 YX3_ofDeal ⟨rfl, rfl⟩ ⟨Nat.le_of_ble_eq_true rfl, Nat.le_of_ble_eq_true rfl⟩ ⟨Nat.le_of_ble_eq_true rfl, Nat.le_of_ble_eq_true rfl⟩ hw (rr := []) (big' := cW G b ad v pd rv Ns) (by rw [List.append_nil]) (by rw [List.append_nil]) 0 rfl rfl rfl hl rfl (Nat.le_of_ble_eq_true rfl) dL_agree_239 (fun H locs hw => ?_)
                              refine lv_eqi (y := nI (Ns 0 (30 + 14 * d + 4))) (rfl) ?_
                              refine lv_iload E.1 E.2.1 dL_agree_242 (lv_at hl 8 rfl) ?_
                              refine lv_icmp_neN (tgt := 283) E.1 E.2.1 (by omega) (by omega) dL_agree_244 (by decide) (fun c244 => ?_) (fun c244 => ?_)
                              · exact absurd (hK.p hF hd8 c215).2.2 c244
                              · skip
                                exact jk213  (trivial) _ _ _ (HB.eq hw (rfl)) (lvh_eq (l := [(3, .int (nI (dwI 2 (Ns 0) (d + 1)))), (2, .int (nI (dwI 1 (Ns 0) (d + 1)))), (1, .int (nI (dwI 0 (Ns 0) (d + 1)))), (8, .int (zb (¬ cOf d 3 (Ns 0) = 0))), (7, .int (zb (¬ cOf d 2 (Ns 0) = 0))), (6, .int (nI (Ns 0 (30 + 14 * d + 1)))), (0, .ref (b 0)), (4, .int (nI (d))), (5, .int (nI (Ns 0 (30 + 14 * d + 0))))]) (lv_sub hl [0, 1, 2, 3, 4, 5, 6, 7, 8] rfl) (rfl))
                    · intro  hP213 H locs ls hw hl
                      replace hw : HB G AA sS.heap (cW G b ad v pd rv Ns) H locs := hw
                      replace hl : lv_has ls 11 [(3, .int (nI (dwI 2 (Ns 0) (d + 1)))), (2, .int (nI (dwI 1 (Ns 0) (d + 1)))), (1, .int (nI (dwI 0 (Ns 0) (d + 1)))), (8, .int (zb (¬ cOf d 3 (Ns 0) = 0))), (7, .int (zb (¬ cOf d 2 (Ns 0) = 0))), (6, .int (nI (Ns 0 (30 + 14 * d + 1)))), (0, .ref (b 0)), (4, .int (nI (d))), (5, .int (nI (Ns 0 (30 + 14 * d + 0))))] := hl
                      show W _ _ _ _ _ _ _ _ _ _ _ _ _ _ _ (F0 mM 247 ls [])
                      refine lv_aload_n E.1 E.2.1 dL_agree_247 rfl (lv_at hl 6 rfl) ?_
                      refine lv_iload E.1 E.2.1 dL_agree_248 (lv_at hl 7 rfl) ?_
                      refine lv_iconst (v := nI 4) E.1 E.2.1 dL_agree_250 (by decide) ?_
                      refine callVIp E (c_X3_ofDeal_ok l G b ad v pd rv Ns d (by omega) hF 4 (by decide)) ES.eb (fun _ _ _ => trivial) mn_7_11 YX3_ofDeal ⟨rfl, rfl⟩ ⟨Nat.le_of_ble_eq_true rfl, Nat.le_of_ble_eq_true rfl⟩ ⟨Nat.le_of_ble_eq_true rfl, Nat.le_of_ble_eq_true rfl⟩ hw (rr := []) (big' := cW G b ad v pd rv Ns) (by rw [List.append_nil]) (by rw [List.append_nil]) 0 rfl rfl rfl hl rfl (Nat.le_of_ble_eq_true rfl) dL_agree_251 (fun H locs hw => ?_)
                      refine lv_eqi (y := nI (Ns 0 (30 + 14 * d + 5))) (rfl) ?_
                      refine lv_aload_n E.1 E.2.1 dL_agree_254 rfl (lv_at hl 6 rfl) ?_
                      refine lv_iload E.1 E.2.1 dL_agree_255 (lv_at hl 7 rfl) ?_
                      refine lv_bipush (v := nI 7) E.1 E.2.1 dL_agree_257 (by decide) ?_
                      refine callVIp E (c_X3_ofDeal_ok l G b ad v pd rv Ns d (by omega) hF 7 (by decide)) ES.eb (fun _ _ _ => trivial) mn_7_11 YX3_ofDeal ⟨rfl, rfl⟩ ⟨Nat.le_of_ble_eq_true rfl, Nat.le_of_ble_eq_true rfl⟩ ⟨Nat.le_of_ble_eq_true rfl, Nat.le_of_ble_eq_true rfl⟩ hw (rr := []) (big' := cW G b ad v pd rv Ns) (by rw [List.append_nil]) (by rw [List.append_nil]) 0 rfl rfl rfl hl rfl (Nat.le_of_ble_eq_true rfl) dL_agree_259 (fun H locs hw => ?_)
                      refine lv_eqi (y := nI (cOf d 2 (Ns 0))) (rfl) ?_
                      refine lv_iconst (v := -1) E.1 E.2.1 dL_agree_262 (by decide) ?_
                      refine lv_ixor E.1 E.2.1 dL_agree_263 ?_
                      refine lv_iand E.1 E.2.1 dL_agree_264 (lv_eqi (y := nI (Ns 0 (30 + 14 * d + 5) &&& (15 ^^^ (cOf d 2 (Ns 0))))) (andn_nI _ (by omega) _ (by omega)) ?_)
                      refine lv_eqi (y := nI (0)) (congrArg nI (hK.rc hF hd8)) ?_
                      refine lv_if_neN (tgt := 283) E.1 E.2.1 (by omega) dL_agree_265 (by decide) (fun c265 => ?_) (fun c265 => ?_)
                      · exact absurd c265 (by decide)
                      · skip
                        refine lv_aload_n E.1 E.2.1 dL_agree_268 rfl (lv_at hl 6 rfl) ?_
                        refine lv_iload E.1 E.2.1 dL_agree_269 (lv_at hl 7 rfl) ?_
                        refine lv_iconst (v := nI 3) E.1 E.2.1 dL_agree_271 (by decide) ?_
                        refine callVIp E (c_X3_ofDeal_ok l G b ad v pd rv Ns d (by omega) hF 3 (by decide)) ES.eb (fun _ _ _ => trivial) mn_7_11 YX3_ofDeal ⟨rfl, rfl⟩ ⟨Nat.le_of_ble_eq_true rfl, Nat.le_of_ble_eq_true rfl⟩ ⟨Nat.le_of_ble_eq_true rfl, Nat.le_of_ble_eq_true rfl⟩ hw (rr := []) (big' := cW G b ad v pd rv Ns) (by rw [List.append_nil]) (by rw [List.append_nil]) 0 rfl rfl rfl hl rfl (Nat.le_of_ble_eq_true rfl) dL_agree_272 (fun H locs hw => ?_)
                        refine lv_eqi (y := nI (Ns 0 (30 + 14 * d + 4))) (rfl) ?_
                        refine lv_iload E.1 E.2.1 dL_agree_275 (lv_at hl 8 rfl) ?_
                        refine lv_iconst (v := -1) E.1 E.2.1 dL_agree_277 (by decide) ?_
                        refine lv_ixor E.1 E.2.1 dL_agree_278 ?_
                        refine lv_iand E.1 E.2.1 dL_agree_279 (lv_eqi (y := nI (Ns 0 (30 + 14 * d + 4) &&& (15 ^^^ (Ns 0 (30 + 14 * d + 0))))) (andn_nI _ (by omega) _ (by omega)) ?_)
                        refine lv_eqi (y := nI (0)) (congrArg nI (hK.vt hF hd8)) ?_
                        refine lv_if_eqN (tgt := 285) E.1 E.2.1 (by omega) dL_agree_280 (by decide) (fun c280 => ?_) (fun c280 => ?_)
                        · skip
                          refine W_join0 (G := G) (A := AA) (H0 := sS.heap) (nL := 11) 303 (True) (cW G b ad v pd rv Ns) ([(3, .int (nI (dwI 2 (Ns 0) (d + 1)))), (2, .int (nI (dwI 1 (Ns 0) (d + 1)))), (1, .int (nI (dwI 0 (Ns 0) (d + 1)))), (8, .int (zb (¬ cOf d 3 (Ns 0) = 0))), (7, .int (zb (¬ cOf d 2 (Ns 0) = 0))), (6, .int (nI (Ns 0 (30 + 14 * d + 1)))), (0, .ref (b 0)), (4, .int (nI (d))), (5, .int (nI (Ns 0 (30 + 14 * d + 0))))]) ([]) (fun jk285 => ?_) ?_
                          · skip
                            refine lv_iload E.1 E.2.1 dL_agree_285 (lv_at hl 5 rfl) ?_
                            refine lv_iconst (v := nI 3) E.1 E.2.1 dL_agree_287 (by decide) ?_
                            refine lv_icmp_neN (tgt := 303) E.1 E.2.1 (by omega) (by omega) dL_agree_288 (by decide) (fun c288 => ?_) (fun c288 => ?_)
                            · skip
                              exact jk285  (trivial) _ _ _ (HB.eq hw (rfl)) (lvh_eq (l := [(3, .int (nI (dwI 2 (Ns 0) (d + 1)))), (2, .int (nI (dwI 1 (Ns 0) (d + 1)))), (1, .int (nI (dwI 0 (Ns 0) (d + 1)))), (8, .int (zb (¬ cOf d 3 (Ns 0) = 0))), (7, .int (zb (¬ cOf d 2 (Ns 0) = 0))), (6, .int (nI (Ns 0 (30 + 14 * d + 1)))), (0, .ref (b 0)), (4, .int (nI (d))), (5, .int (nI (Ns 0 (30 + 14 * d + 0))))]) (lv_sub hl [0, 1, 2, 3, 4, 5, 6, 7, 8] rfl) (rfl))
                            · skip
                              refine lv_aload_n E.1 E.2.1 dL_agree_291 rfl (lv_at hl 6 rfl) ?_
                              refine lv_iload E.1 E.2.1 dL_agree_292 (lv_at hl 7 rfl) ?_
                              refine lv_iconst (v := nI 4) E.1 E.2.1 dL_agree_294 (by decide) ?_
                              refine callVIp E (c_X3_ofDeal_ok l G b ad v pd rv Ns d (by omega) hF 4 (by decide)) ES.eb (fun _ _ _ => trivial) mn_7_11 YX3_ofDeal ⟨rfl, rfl⟩ ⟨Nat.le_of_ble_eq_true rfl, Nat.le_of_ble_eq_true rfl⟩ ⟨Nat.le_of_ble_eq_true rfl, Nat.le_of_ble_eq_true rfl⟩ hw (rr := []) (big' := cW G b ad v pd rv Ns) (by rw [List.append_nil]) (by rw [List.append_nil]) 0 rfl rfl rfl hl rfl (Nat.le_of_ble_eq_true rfl) dL_agree_295 (fun H locs hw => ?_)
                              refine lv_eqi (y := nI (Ns 0 (30 + 14 * d + 5))) (rfl) ?_
                              refine lv_iload E.1 E.2.1 dL_agree_298 (lv_at hl 8 rfl) ?_
                              refine lv_icmp_neN (tgt := 398) E.1 E.2.1 (by omega) (by omega) dL_agree_300 (by decide) (fun c300 => ?_) (fun c300 => ?_)
                              · exact absurd (hK.2.1.2.2 c288) c300
                              · skip
                                exact jk285  (trivial) _ _ _ (HB.eq hw (rfl)) (lvh_eq (l := [(3, .int (nI (dwI 2 (Ns 0) (d + 1)))), (2, .int (nI (dwI 1 (Ns 0) (d + 1)))), (1, .int (nI (dwI 0 (Ns 0) (d + 1)))), (8, .int (zb (¬ cOf d 3 (Ns 0) = 0))), (7, .int (zb (¬ cOf d 2 (Ns 0) = 0))), (6, .int (nI (Ns 0 (30 + 14 * d + 1)))), (0, .ref (b 0)), (4, .int (nI (d))), (5, .int (nI (Ns 0 (30 + 14 * d + 0))))]) (lv_sub hl [0, 1, 2, 3, 4, 5, 6, 7, 8] rfl) (rfl))
                          · intro  hP285 H locs ls hw hl
                            replace hw : HB G AA sS.heap (cW G b ad v pd rv Ns) H locs := hw
                            replace hl : lv_has ls 11 [(3, .int (nI (dwI 2 (Ns 0) (d + 1)))), (2, .int (nI (dwI 1 (Ns 0) (d + 1)))), (1, .int (nI (dwI 0 (Ns 0) (d + 1)))), (8, .int (zb (¬ cOf d 3 (Ns 0) = 0))), (7, .int (zb (¬ cOf d 2 (Ns 0) = 0))), (6, .int (nI (Ns 0 (30 + 14 * d + 1)))), (0, .ref (b 0)), (4, .int (nI (d))), (5, .int (nI (Ns 0 (30 + 14 * d + 0))))] := hl
                            show W _ _ _ _ _ _ _ _ _ _ _ _ _ _ _ (F0 mM 303 ls [])
                            refine W_join0 (G := G) (A := AA) (H0 := sS.heap) (nL := 11) 320 (True) (cW G b ad v pd rv Ns) ([(3, .int (nI (dwI 2 (Ns 0) (d + 1)))), (2, .int (nI (dwI 1 (Ns 0) (d + 1)))), (1, .int (nI (dwI 0 (Ns 0) (d + 1)))), (8, .int (zb (¬ cOf d 3 (Ns 0) = 0))), (7, .int (zb (¬ cOf d 2 (Ns 0) = 0))), (6, .int (nI (Ns 0 (30 + 14 * d + 1)))), (0, .ref (b 0)), (4, .int (nI (d))), (5, .int (nI (Ns 0 (30 + 14 * d + 0))))]) ([.int (zb (Ns 0 (30 + 14 * d + 1) = 1 ∨ Ns 0 (30 + 14 * d + 1) = 3))]) (fun jk303 => ?_) ?_
                            · skip
                              refine lv_iload E.1 E.2.1 dL_agree_303 (lv_at hl 5 rfl) ?_
                              refine lv_iconst (v := nI 1) E.1 E.2.1 dL_agree_305 (by decide) ?_
                              refine lv_icmp_eqN (tgt := 315) E.1 E.2.1 (by omega) (by omega) dL_agree_306 (by decide) (fun c306 => ?_) (fun c306 => ?_)
                              · skip
                                refine lv_iconst (v := nI 1) E.1 E.2.1 dL_agree_315 (by decide) ?_
                                refine lv_goto (tgt := 320) E.1 E.2.1 dL_agree_316 (by decide) ?_
                                refine lv_eqi (y := zb (Ns 0 (30 + 14 * d + 1) = 1 ∨ Ns 0 (30 + 14 * d + 1) = 3)) ((zb_t (Or.inl c306)).symm) ?_
                                exact jk303  (trivial) _ _ _ (HB.eq hw (rfl)) (lvh_eq (l := [(3, .int (nI (dwI 2 (Ns 0) (d + 1)))), (2, .int (nI (dwI 1 (Ns 0) (d + 1)))), (1, .int (nI (dwI 0 (Ns 0) (d + 1)))), (8, .int (zb (¬ cOf d 3 (Ns 0) = 0))), (7, .int (zb (¬ cOf d 2 (Ns 0) = 0))), (6, .int (nI (Ns 0 (30 + 14 * d + 1)))), (0, .ref (b 0)), (4, .int (nI (d))), (5, .int (nI (Ns 0 (30 + 14 * d + 0))))]) (lv_sub hl [0, 1, 2, 3, 4, 5, 6, 7, 8] rfl) (rfl))
                              · skip
                                refine lv_iload E.1 E.2.1 dL_agree_309 (lv_at hl 5 rfl) ?_
                                refine lv_iconst (v := nI 3) E.1 E.2.1 dL_agree_311 (by decide) ?_
                                refine lv_icmp_neN (tgt := 319) E.1 E.2.1 (by omega) (by omega) dL_agree_312 (by decide) (fun c312 => ?_) (fun c312 => ?_)
                                · skip
                                  refine lv_iconst (v := nI 0) E.1 E.2.1 dL_agree_319 (by decide) ?_
                                  refine lv_eqi (y := zb (Ns 0 (30 + 14 * d + 1) = 1 ∨ Ns 0 (30 + 14 * d + 1) = 3)) ((zb_f (fun z => z.elim c306 c312)).symm) ?_
                                  exact jk303  (trivial) _ _ _ (HB.eq hw (rfl)) (lvh_eq (l := [(3, .int (nI (dwI 2 (Ns 0) (d + 1)))), (2, .int (nI (dwI 1 (Ns 0) (d + 1)))), (1, .int (nI (dwI 0 (Ns 0) (d + 1)))), (8, .int (zb (¬ cOf d 3 (Ns 0) = 0))), (7, .int (zb (¬ cOf d 2 (Ns 0) = 0))), (6, .int (nI (Ns 0 (30 + 14 * d + 1)))), (0, .ref (b 0)), (4, .int (nI (d))), (5, .int (nI (Ns 0 (30 + 14 * d + 0))))]) (lv_sub hl [0, 1, 2, 3, 4, 5, 6, 7, 8] rfl) (rfl))
                                · skip
                                  refine lv_iconst (v := nI 1) E.1 E.2.1 dL_agree_315 (by decide) ?_
                                  refine lv_goto (tgt := 320) E.1 E.2.1 dL_agree_316 (by decide) ?_
                                  refine lv_eqi (y := zb (Ns 0 (30 + 14 * d + 1) = 1 ∨ Ns 0 (30 + 14 * d + 1) = 3)) ((zb_t (Or.inr c312)).symm) ?_
                                  exact jk303  (trivial) _ _ _ (HB.eq hw (rfl)) (lvh_eq (l := [(3, .int (nI (dwI 2 (Ns 0) (d + 1)))), (2, .int (nI (dwI 1 (Ns 0) (d + 1)))), (1, .int (nI (dwI 0 (Ns 0) (d + 1)))), (8, .int (zb (¬ cOf d 3 (Ns 0) = 0))), (7, .int (zb (¬ cOf d 2 (Ns 0) = 0))), (6, .int (nI (Ns 0 (30 + 14 * d + 1)))), (0, .ref (b 0)), (4, .int (nI (d))), (5, .int (nI (Ns 0 (30 + 14 * d + 0))))]) (lv_sub hl [0, 1, 2, 3, 4, 5, 6, 7, 8] rfl) (rfl))
                            · intro  hP303 H locs ls hw hl
                              replace hw : HB G AA sS.heap (cW G b ad v pd rv Ns) H locs := hw
                              replace hl : lv_has ls 11 [(3, .int (nI (dwI 2 (Ns 0) (d + 1)))), (2, .int (nI (dwI 1 (Ns 0) (d + 1)))), (1, .int (nI (dwI 0 (Ns 0) (d + 1)))), (8, .int (zb (¬ cOf d 3 (Ns 0) = 0))), (7, .int (zb (¬ cOf d 2 (Ns 0) = 0))), (6, .int (nI (Ns 0 (30 + 14 * d + 1)))), (0, .ref (b 0)), (4, .int (nI (d))), (5, .int (nI (Ns 0 (30 + 14 * d + 0))))] := hl
                              show W _ _ _ _ _ _ _ _ _ _ _ _ _ _ _ (F0 mM 320 ls [.int (zb (Ns 0 (30 + 14 * d + 1) = 1 ∨ Ns 0 (30 + 14 * d + 1) = 3))])
                              refine W_join0 (G := G) (A := AA) (H0 := sS.heap) (nL := 11) 337 (True) (cW G b ad v pd rv Ns) ([(3, .int (nI (dwI 2 (Ns 0) (d + 1)))), (2, .int (nI (dwI 1 (Ns 0) (d + 1)))), (1, .int (nI (dwI 0 (Ns 0) (d + 1)))), (8, .int (zb (¬ cOf d 3 (Ns 0) = 0))), (7, .int (zb (¬ cOf d 2 (Ns 0) = 0))), (6, .int (nI (Ns 0 (30 + 14 * d + 1)))), (0, .ref (b 0)), (4, .int (nI (d))), (5, .int (nI (Ns 0 (30 + 14 * d + 0))))]) ([.int (zb (Ns 0 (30 + 14 * d + 4) = Ns 0 (30 + 14 * d + 0))), .int (zb (Ns 0 (30 + 14 * d + 1) = 1 ∨ Ns 0 (30 + 14 * d + 1) = 3))]) (fun jk320 => ?_) ?_
                              · skip
                                refine lv_aload_n E.1 E.2.1 dL_agree_320 rfl (lv_at hl 6 rfl) ?_
                                refine lv_iload E.1 E.2.1 dL_agree_321 (lv_at hl 7 rfl) ?_
                                refine lv_iconst (v := nI 3) E.1 E.2.1 dL_agree_323 (by decide) ?_
                                refine callVIp E (c_X3_ofDeal_ok l G b ad v pd rv Ns d (by omega) hF 3 (by decide)) ES.eb (fun _ _ _ => trivial) mn_7_11 YX3_ofDeal ⟨rfl, rfl⟩ ⟨Nat.le_of_ble_eq_true rfl, Nat.le_of_ble_eq_true rfl⟩ ⟨Nat.le_of_ble_eq_true rfl, Nat.le_of_ble_eq_true rfl⟩ hw (rr := []) (big' := cW G b ad v pd rv Ns) (by rw [List.append_nil]) (by rw [List.append_nil]) 0 rfl rfl rfl hl rfl (Nat.le_of_ble_eq_true rfl) dL_agree_324 (fun H locs hw => ?_)
                                refine lv_eqi (y := nI (Ns 0 (30 + 14 * d + 4))) (rfl) ?_
                                refine lv_iload E.1 E.2.1 dL_agree_327 (lv_at hl 8 rfl) ?_
                                refine lv_icmp_neN (tgt := 336) E.1 E.2.1 (by omega) (by omega) dL_agree_329 (by decide) (fun c329 => ?_) (fun c329 => ?_)
                                · skip
                                  refine lv_iconst (v := nI 0) E.1 E.2.1 dL_agree_336 (by decide) ?_
                                  refine lv_eqi (y := zb (Ns 0 (30 + 14 * d + 4) = Ns 0 (30 + 14 * d + 0))) ((zb_f (c329)).symm) ?_
                                  exact jk320  (trivial) _ _ _ (HB.eq hw (rfl)) (lvh_eq (l := [(3, .int (nI (dwI 2 (Ns 0) (d + 1)))), (2, .int (nI (dwI 1 (Ns 0) (d + 1)))), (1, .int (nI (dwI 0 (Ns 0) (d + 1)))), (8, .int (zb (¬ cOf d 3 (Ns 0) = 0))), (7, .int (zb (¬ cOf d 2 (Ns 0) = 0))), (6, .int (nI (Ns 0 (30 + 14 * d + 1)))), (0, .ref (b 0)), (4, .int (nI (d))), (5, .int (nI (Ns 0 (30 + 14 * d + 0))))]) (lv_sub hl [0, 1, 2, 3, 4, 5, 6, 7, 8] rfl) (rfl))
                                · skip
                                  refine lv_iconst (v := nI 1) E.1 E.2.1 dL_agree_332 (by decide) ?_
                                  refine lv_goto (tgt := 337) E.1 E.2.1 dL_agree_333 (by decide) ?_
                                  refine lv_eqi (y := zb (Ns 0 (30 + 14 * d + 4) = Ns 0 (30 + 14 * d + 0))) ((zb_t (c329)).symm) ?_
                                  exact jk320  (trivial) _ _ _ (HB.eq hw (rfl)) (lvh_eq (l := [(3, .int (nI (dwI 2 (Ns 0) (d + 1)))), (2, .int (nI (dwI 1 (Ns 0) (d + 1)))), (1, .int (nI (dwI 0 (Ns 0) (d + 1)))), (8, .int (zb (¬ cOf d 3 (Ns 0) = 0))), (7, .int (zb (¬ cOf d 2 (Ns 0) = 0))), (6, .int (nI (Ns 0 (30 + 14 * d + 1)))), (0, .ref (b 0)), (4, .int (nI (d))), (5, .int (nI (Ns 0 (30 + 14 * d + 0))))]) (lv_sub hl [0, 1, 2, 3, 4, 5, 6, 7, 8] rfl) (rfl))
                              · intro  hP320 H locs ls hw hl
                                replace hw : HB G AA sS.heap (cW G b ad v pd rv Ns) H locs := hw
                                replace hl : lv_has ls 11 [(3, .int (nI (dwI 2 (Ns 0) (d + 1)))), (2, .int (nI (dwI 1 (Ns 0) (d + 1)))), (1, .int (nI (dwI 0 (Ns 0) (d + 1)))), (8, .int (zb (¬ cOf d 3 (Ns 0) = 0))), (7, .int (zb (¬ cOf d 2 (Ns 0) = 0))), (6, .int (nI (Ns 0 (30 + 14 * d + 1)))), (0, .ref (b 0)), (4, .int (nI (d))), (5, .int (nI (Ns 0 (30 + 14 * d + 0))))] := hl
                                show W _ _ _ _ _ _ _ _ _ _ _ _ _ _ _ (F0 mM 337 ls [.int (zb (Ns 0 (30 + 14 * d + 4) = Ns 0 (30 + 14 * d + 0))), .int (zb (Ns 0 (30 + 14 * d + 1) = 1 ∨ Ns 0 (30 + 14 * d + 1) = 3))])
                                refine W_join0 (G := G) (A := AA) (H0 := sS.heap) (nL := 11) 346 (True) (cW G b ad v pd rv Ns) ([(3, .int (nI (dwI 2 (Ns 0) (d + 1)))), (2, .int (nI (dwI 1 (Ns 0) (d + 1)))), (1, .int (nI (dwI 0 (Ns 0) (d + 1)))), (8, .int (zb (¬ cOf d 3 (Ns 0) = 0))), (7, .int (zb (¬ cOf d 2 (Ns 0) = 0))), (6, .int (nI (Ns 0 (30 + 14 * d + 1)))), (0, .ref (b 0)), (4, .int (nI (d))), (5, .int (nI (Ns 0 (30 + 14 * d + 0))))]) ([]) (fun jk337 => ?_) ?_
                                · skip
                                  refine lv_icmp_eq (tgt := 346) E.1 E.2.1 dL_agree_337 (by decide) (fun c337 => ?_) (fun c337 => ?_)
                                  · skip
                                    exact jk337  (trivial) _ _ _ (HB.eq hw (rfl)) (lvh_eq (l := [(3, .int (nI (dwI 2 (Ns 0) (d + 1)))), (2, .int (nI (dwI 1 (Ns 0) (d + 1)))), (1, .int (nI (dwI 0 (Ns 0) (d + 1)))), (8, .int (zb (¬ cOf d 3 (Ns 0) = 0))), (7, .int (zb (¬ cOf d 2 (Ns 0) = 0))), (6, .int (nI (Ns 0 (30 + 14 * d + 1)))), (0, .ref (b 0)), (4, .int (nI (d))), (5, .int (nI (Ns 0 (30 + 14 * d + 0))))]) (lv_sub hl [0, 1, 2, 3, 4, 5, 6, 7, 8] rfl) (rfl))
                                  · skip
                                    refine lv_iload E.1 E.2.1 dL_agree_340 (lv_at hl 5 rfl) ?_
                                    refine lv_iconst (v := nI 2) E.1 E.2.1 dL_agree_342 (by decide) ?_
                                    refine lv_icmp_neN (tgt := 398) E.1 E.2.1 (by omega) (by omega) dL_agree_343 (by decide) (fun c343 => ?_) (fun c343 => ?_)
                                    · exact absurd (zb_c (hK.all hF hd8 c343)) c337
                                    · skip
                                      exact jk337  (trivial) _ _ _ (HB.eq hw (rfl)) (lvh_eq (l := [(3, .int (nI (dwI 2 (Ns 0) (d + 1)))), (2, .int (nI (dwI 1 (Ns 0) (d + 1)))), (1, .int (nI (dwI 0 (Ns 0) (d + 1)))), (8, .int (zb (¬ cOf d 3 (Ns 0) = 0))), (7, .int (zb (¬ cOf d 2 (Ns 0) = 0))), (6, .int (nI (Ns 0 (30 + 14 * d + 1)))), (0, .ref (b 0)), (4, .int (nI (d))), (5, .int (nI (Ns 0 (30 + 14 * d + 0))))]) (lv_sub hl [0, 1, 2, 3, 4, 5, 6, 7, 8] rfl) (rfl))
                                · intro  hP337 H locs ls hw hl
                                  replace hw : HB G AA sS.heap (cW G b ad v pd rv Ns) H locs := hw
                                  replace hl : lv_has ls 11 [(3, .int (nI (dwI 2 (Ns 0) (d + 1)))), (2, .int (nI (dwI 1 (Ns 0) (d + 1)))), (1, .int (nI (dwI 0 (Ns 0) (d + 1)))), (8, .int (zb (¬ cOf d 3 (Ns 0) = 0))), (7, .int (zb (¬ cOf d 2 (Ns 0) = 0))), (6, .int (nI (Ns 0 (30 + 14 * d + 1)))), (0, .ref (b 0)), (4, .int (nI (d))), (5, .int (nI (Ns 0 (30 + 14 * d + 0))))] := hl
                                  show W _ _ _ _ _ _ _ _ _ _ _ _ _ _ _ (F0 mM 346 ls [])
                                  refine lv_aload_n E.1 E.2.1 dL_agree_346 rfl (lv_at hl 6 rfl) ?_
                                  refine lv_iload E.1 E.2.1 dL_agree_347 (lv_at hl 7 rfl) ?_
                                  refine callVIp E (c_X3_sure_ok l G b ad v pd rv Ns d (by omega) hF) ES.eb (fun _ _ _ => trivial) mn_15_20 YX3_sure ⟨rfl, rfl⟩ ⟨Nat.le_of_ble_eq_true rfl, Nat.le_of_ble_eq_true rfl⟩ ⟨Nat.le_of_ble_eq_true rfl, Nat.le_of_ble_eq_true rfl⟩ hw (rr := []) (big' := cW G b ad v pd rv Ns) (by rw [List.append_nil]) (by rw [List.append_nil]) 0 rfl rfl rfl hl rfl (Nat.le_of_ble_eq_true rfl) dL_agree_349 (fun H locs hw => ?_)
                                  refine W_join0 (G := G) (A := AA) (H0 := sS.heap) (nL := 11) 384 (True) (cW G b ad v pd rv Ns) ([(3, .int (nI (dwI 2 (Ns 0) (d + 1)))), (2, .int (nI (dwI 1 (Ns 0) (d + 1)))), (1, .int (nI (dwI 0 (Ns 0) (d + 1)))), (8, .int (zb (¬ cOf d 3 (Ns 0) = 0))), (7, .int (zb (¬ cOf d 2 (Ns 0) = 0))), (6, .int (nI (Ns 0 (30 + 14 * d + 1)))), (0, .ref (b 0)), (4, .int (nI (d))), (5, .int (nI (Ns 0 (30 + 14 * d + 0))))]) ([.int (nI (suR d (Ns 0))), .int (nI (suR d (Ns 0)))]) (fun jk352 => ?_) ?_
                                  · skip
                                    refine lv_iload E.1 E.2.1 dL_agree_352 (lv_at hl 5 rfl) ?_
                                    refine lv_iconst (v := nI 1) E.1 E.2.1 dL_agree_354 (by decide) ?_
                                    refine lv_icmp_eqN (tgt := 364) E.1 E.2.1 (by omega) (by omega) dL_agree_355 (by decide) (fun c355 => ?_) (fun c355 => ?_)
                                    · skip
                                      refine lv_iconst (v := nI 1) E.1 E.2.1 dL_agree_364 (by decide) ?_
                                      refine lv_goto (tgt := 384) E.1 E.2.1 dL_agree_365 (by decide) ?_
                                      refine lv_eqi (y := nI (suR d (Ns 0))) (by rw [suR, if_pos (Or.inl c355)]) ?_
                                      exact jk352  (trivial) _ _ _ (HB.eq hw (rfl)) (lvh_eq (l := [(3, .int (nI (dwI 2 (Ns 0) (d + 1)))), (2, .int (nI (dwI 1 (Ns 0) (d + 1)))), (1, .int (nI (dwI 0 (Ns 0) (d + 1)))), (8, .int (zb (¬ cOf d 3 (Ns 0) = 0))), (7, .int (zb (¬ cOf d 2 (Ns 0) = 0))), (6, .int (nI (Ns 0 (30 + 14 * d + 1)))), (0, .ref (b 0)), (4, .int (nI (d))), (5, .int (nI (Ns 0 (30 + 14 * d + 0))))]) (lv_sub hl [0, 1, 2, 3, 4, 5, 6, 7, 8] rfl) (rfl))
                                    · skip
                                      refine lv_iload E.1 E.2.1 dL_agree_358 (lv_at hl 5 rfl) ?_
                                      refine lv_iconst (v := nI 3) E.1 E.2.1 dL_agree_360 (by decide) ?_
                                      refine lv_icmp_neN (tgt := 368) E.1 E.2.1 (by omega) (by omega) dL_agree_361 (by decide) (fun c361 => ?_) (fun c361 => ?_)
                                      · skip
                                        refine lv_iload E.1 E.2.1 dL_agree_368 (lv_at hl 5 rfl) ?_
                                        refine lv_iconst (v := nI 2) E.1 E.2.1 dL_agree_370 (by decide) ?_
                                        refine lv_icmp_eqN (tgt := 379) E.1 E.2.1 (by omega) (by omega) dL_agree_371 (by decide) (fun c371 => ?_) (fun c371 => ?_)
                                        · skip
                                          refine lv_iconst (v := nI 2) E.1 E.2.1 dL_agree_379 (by decide) ?_
                                          refine lv_goto (tgt := 384) E.1 E.2.1 dL_agree_380 (by decide) ?_
                                          refine lv_eqi (y := nI (suR d (Ns 0))) (by rw [suR, if_neg (fun z => z.elim c355 c361), if_pos (Or.inl c371)]) ?_
                                          exact jk352  (trivial) _ _ _ (HB.eq hw (rfl)) (lvh_eq (l := [(3, .int (nI (dwI 2 (Ns 0) (d + 1)))), (2, .int (nI (dwI 1 (Ns 0) (d + 1)))), (1, .int (nI (dwI 0 (Ns 0) (d + 1)))), (8, .int (zb (¬ cOf d 3 (Ns 0) = 0))), (7, .int (zb (¬ cOf d 2 (Ns 0) = 0))), (6, .int (nI (Ns 0 (30 + 14 * d + 1)))), (0, .ref (b 0)), (4, .int (nI (d))), (5, .int (nI (Ns 0 (30 + 14 * d + 0))))]) (lv_sub hl [0, 1, 2, 3, 4, 5, 6, 7, 8] rfl) (rfl))
                                        · skip
                                          refine lv_iload E.1 E.2.1 dL_agree_374 (lv_at hl 3 rfl) ?_
                                          refine lv_if_eqB (tgt := 383) E.1 E.2.1 dL_agree_376 (by decide) (fun c376 => ?_) (fun c376 => ?_)
                                          · skip
                                            refine lv_iconst (v := nI 0) E.1 E.2.1 dL_agree_383 (by decide) ?_
                                            refine lv_eqi (y := nI (suR d (Ns 0))) (by rw [suR, if_neg (fun z => z.elim c355 c361), if_neg (fun z => z.elim c371 c376)]) ?_
                                            exact jk352  (trivial) _ _ _ (HB.eq hw (rfl)) (lvh_eq (l := [(3, .int (nI (dwI 2 (Ns 0) (d + 1)))), (2, .int (nI (dwI 1 (Ns 0) (d + 1)))), (1, .int (nI (dwI 0 (Ns 0) (d + 1)))), (8, .int (zb (¬ cOf d 3 (Ns 0) = 0))), (7, .int (zb (¬ cOf d 2 (Ns 0) = 0))), (6, .int (nI (Ns 0 (30 + 14 * d + 1)))), (0, .ref (b 0)), (4, .int (nI (d))), (5, .int (nI (Ns 0 (30 + 14 * d + 0))))]) (lv_sub hl [0, 1, 2, 3, 4, 5, 6, 7, 8] rfl) (rfl))
                                          · skip
                                            refine lv_iconst (v := nI 2) E.1 E.2.1 dL_agree_379 (by decide) ?_
                                            refine lv_goto (tgt := 384) E.1 E.2.1 dL_agree_380 (by decide) ?_
                                            refine lv_eqi (y := nI (suR d (Ns 0))) (by rw [suR, if_neg (fun z => z.elim c355 c361), if_pos (Or.inr c376)]) ?_
                                            exact jk352  (trivial) _ _ _ (HB.eq hw (rfl)) (lvh_eq (l := [(3, .int (nI (dwI 2 (Ns 0) (d + 1)))), (2, .int (nI (dwI 1 (Ns 0) (d + 1)))), (1, .int (nI (dwI 0 (Ns 0) (d + 1)))), (8, .int (zb (¬ cOf d 3 (Ns 0) = 0))), (7, .int (zb (¬ cOf d 2 (Ns 0) = 0))), (6, .int (nI (Ns 0 (30 + 14 * d + 1)))), (0, .ref (b 0)), (4, .int (nI (d))), (5, .int (nI (Ns 0 (30 + 14 * d + 0))))]) (lv_sub hl [0, 1, 2, 3, 4, 5, 6, 7, 8] rfl) (rfl))
                                      · skip
                                        refine lv_iconst (v := nI 1) E.1 E.2.1 dL_agree_364 (by decide) ?_
                                        refine lv_goto (tgt := 384) E.1 E.2.1 dL_agree_365 (by decide) ?_
                                        refine lv_eqi (y := nI (suR d (Ns 0))) (by rw [suR, if_pos (Or.inr c361)]) ?_
                                        exact jk352  (trivial) _ _ _ (HB.eq hw (rfl)) (lvh_eq (l := [(3, .int (nI (dwI 2 (Ns 0) (d + 1)))), (2, .int (nI (dwI 1 (Ns 0) (d + 1)))), (1, .int (nI (dwI 0 (Ns 0) (d + 1)))), (8, .int (zb (¬ cOf d 3 (Ns 0) = 0))), (7, .int (zb (¬ cOf d 2 (Ns 0) = 0))), (6, .int (nI (Ns 0 (30 + 14 * d + 1)))), (0, .ref (b 0)), (4, .int (nI (d))), (5, .int (nI (Ns 0 (30 + 14 * d + 0))))]) (lv_sub hl [0, 1, 2, 3, 4, 5, 6, 7, 8] rfl) (rfl))
                                  · intro  hP352 H locs ls hw hl
                                    replace hw : HB G AA sS.heap (cW G b ad v pd rv Ns) H locs := hw
                                    replace hl : lv_has ls 11 [(3, .int (nI (dwI 2 (Ns 0) (d + 1)))), (2, .int (nI (dwI 1 (Ns 0) (d + 1)))), (1, .int (nI (dwI 0 (Ns 0) (d + 1)))), (8, .int (zb (¬ cOf d 3 (Ns 0) = 0))), (7, .int (zb (¬ cOf d 2 (Ns 0) = 0))), (6, .int (nI (Ns 0 (30 + 14 * d + 1)))), (0, .ref (b 0)), (4, .int (nI (d))), (5, .int (nI (Ns 0 (30 + 14 * d + 0))))] := hl
                                    show W _ _ _ _ _ _ _ _ _ _ _ _ _ _ _ (F0 mM 384 ls [.int (nI (suR d (Ns 0))), .int (nI (suR d (Ns 0)))])
                                    refine lv_icmp_ne (tgt := 398) E.1 E.2.1 dL_agree_384 (by decide) (fun c384 => ?_) (fun c384 => ?_)
                                    · exact absurd rfl c384
                                    · skip
                                      refine lv_aload_n E.1 E.2.1 dL_agree_387 rfl (lv_at hl 6 rfl) ?_
                                      refine lv_iload E.1 E.2.1 dL_agree_388 (lv_at hl 7 rfl) ?_
                                      refine lv_iconst (v := nI 4) E.1 E.2.1 dL_agree_390 (by decide) ?_
                                      refine callVIp E (c_X3_at_bad l G b ad v pd rv Ns (nI d) (nI 4) (fun z => absurd z.2.2 (by decide))) ES.eb (fun _ _ _ => trivial) mn_10_7 YX3_at ⟨rfl, rfl⟩ ⟨Nat.le_of_ble_eq_true rfl, Nat.le_of_ble_eq_true rfl⟩ ⟨Nat.le_of_ble_eq_true rfl, Nat.le_of_ble_eq_true rfl⟩ hw (rr := []) (big' := cW G b ad v pd rv Ns) (by rw [List.append_nil]) (by rw [List.append_nil]) 0 rfl rfl rfl hl rfl (Nat.le_of_ble_eq_true rfl) dL_agree_391 (fun H locs hw => ?_)
                                      refine lv_iconst (v := -1) E.1 E.2.1 dL_agree_394 (by decide) ?_
                                      refine lv_icmp_eq (tgt := 400) E.1 E.2.1 dL_agree_395 (by decide) (fun c395 => ?_) (fun c395 => ?_)
                                      · skip
                                        refine lv_aload_n E.1 E.2.1 dL_agree_400 rfl (lv_at hl 6 rfl) ?_
                                        refine lv_iload E.1 E.2.1 dL_agree_401 (lv_at hl 7 rfl) ?_
                                        refine callSX E (c_L_isAsk l G b ad v pd rv Ns hF hDV hm d (by omega)) ES.eb (fun _ _ _ => trivial) mn_16_4 YL_isAsk ⟨rfl, rfl⟩ ⟨Nat.le_of_ble_eq_true rfl, Nat.le_of_ble_eq_true rfl⟩ ⟨Nat.le_of_ble_eq_true rfl, Nat.le_of_ble_eq_true rfl⟩ hw (rr := []) (big' := cW G b ad v pd rv Ns) (by rw [List.append_nil]) (by rw [List.append_nil]) rfl hl rfl (Nat.le_of_ble_eq_true rfl) dL_agree_403 (fun H locs hw => ?_)
                                        refine lv_eqi (y := nI (1)) (by decide) ?_
                                        refine lv_if_neN (tgt := 411) E.1 E.2.1 (by omega) dL_agree_406 (by decide) (fun c406 => ?_) (fun c406 => ?_)
                                        · skip
                                          refine lv_iincN (k := 7) (lv' := [(4, .int (nI (d + 1))), (3, .int (nI (dwI 2 (Ns 0) (d + 1)))), (2, .int (nI (dwI 1 (Ns 0) (d + 1)))), (1, .int (nI (dwI 0 (Ns 0) (d + 1)))), (8, .int (zb (¬ cOf d 3 (Ns 0) = 0))), (7, .int (zb (¬ cOf d 2 (Ns 0) = 0))), (6, .int (nI (Ns 0 (30 + 14 * d + 1)))), (0, .ref (b 0)), (5, .int (nI (Ns 0 (30 + 14 * d + 0))))]) E.1 E.2.1 dL_agree_411 hl rfl (by decide) rfl (fun ls hl => ?_)
                                          refine lv_goto (tgt := 9) E.1 E.2.1 dL_agree_414 (by decide) ?_
                                          exact ihd (d + 1) (by omega) (by omega) _ _ _ (HB.eq hw (rfl)) (lvh_eq (l := [(0, .ref (b 0)), (1, .int (nI (dwI 0 (Ns 0) (d + 1)))), (2, .int (nI (dwI 1 (Ns 0) (d + 1)))), (3, .int (nI (dwI 2 (Ns 0) (d + 1)))), (4, .int (nI (d + 1)))]) (lv_sub hl [7, 3, 2, 1, 0] rfl) (rfl))
                                        · exact absurd c406 (by decide)
                                      · exact absurd c395 (by decide)
                        · exact absurd c280 (by decide)
    · skip
      refine lv_aload_n E.1 E.2.1 dL_agree_32 rfl (lv_at hl 0 rfl) ?_
      refine lv_iload E.1 E.2.1 dL_agree_33 (lv_at hl 4 rfl) ?_
      refine lv_iload E.1 E.2.1 dL_agree_35 (lv_at hl 6 rfl) ?_
      have qc : cOf d n (Ns 0) < 16 := cOf_lt
      have qa := aI_lt (d := d) (N := Ns 0) (n + 1)
      refine callVIp E (c_X3_ofDeal_ok l G b ad v pd rv Ns d (by omega) hF (n + 5) (by omega)) ES.eb (fun _ _ _ => trivial) mn_7_11 YX3_ofDeal ⟨rfl, rfl⟩ ⟨Nat.le_of_ble_eq_true rfl, Nat.le_of_ble_eq_true rfl⟩ ⟨Nat.le_of_ble_eq_true rfl, Nat.le_of_ble_eq_true rfl⟩ hw (rr := []) (big' := cW G b ad v pd rv Ns) (by rw [List.append_nil]) (by rw [List.append_nil]) 0 rfl rfl rfl hl rfl (Nat.le_of_ble_eq_true rfl) dL_agree_37 (fun H locs hw => ?_)
      refine lv_eqi (y := nI (cOf d n (Ns 0))) (by rw [ofd, if_neg (by omega), if_neg (by omega), Nat.add_sub_cancel]) ?_
      refine lv_istore (lv' := [(7, .int (nI (cOf d n (Ns 0)))), (0, .ref (b 0)), (1, .int (nI (dwI 0 (Ns 0) d))), (2, .int (nI (dwI 1 (Ns 0) d))), (3, .int (nI (dwI 2 (Ns 0) d))), (4, .int (nI (d))), (5, .int (nI (aI d (Ns 0) n))), (6, .int (nI (n + 5)))]) E.1 E.2.1 dL_agree_40 hl (by decide) rfl (fun ls hl => ?_)
      refine lv_iload E.1 E.2.1 dL_agree_42 (lv_at hl 6 rfl) ?_
      refine lv_iload E.1 E.2.1 dL_agree_44 (lv_at hl 0 rfl) ?_
      refine lv_iand E.1 E.2.1 dL_agree_46 ?_
      refine lv_eqi (y := nI (0)) (aI_dis) ?_
      refine lv_if_eqN (tgt := 52) E.1 E.2.1 (by omega) dL_agree_47 (by decide) (fun c47 => ?_) (fun c47 => ?_)
      · skip
        refine lv_iload E.1 E.2.1 dL_agree_52 (lv_at hl 6 rfl) ?_
        refine lv_iload E.1 E.2.1 dL_agree_54 (lv_at hl 0 rfl) ?_
        refine lv_ior E.1 E.2.1 dL_agree_56 (lv_eqi (y := nI (aI d (Ns 0) n ||| cOf d n (Ns 0))) (or_nI _ _) ?_)
        refine lv_eqi (y := nI (aI d (Ns 0) (n + 1))) (rfl) ?_
        refine lv_istore (lv' := [(5, .int (nI (aI d (Ns 0) (n + 1)))), (7, .int (nI (cOf d n (Ns 0)))), (0, .ref (b 0)), (1, .int (nI (dwI 0 (Ns 0) d))), (2, .int (nI (dwI 1 (Ns 0) d))), (3, .int (nI (dwI 2 (Ns 0) d))), (4, .int (nI (d))), (6, .int (nI (n + 5)))]) E.1 E.2.1 dL_agree_57 hl (by decide) rfl (fun ls hl => ?_)
        refine lv_iconst (v := nI 0) E.1 E.2.1 dL_agree_59 (by decide) ?_
        refine lv_istore (lv' := [(8, .int (nI (0))), (5, .int (nI (aI d (Ns 0) (n + 1)))), (7, .int (nI (cOf d n (Ns 0)))), (0, .ref (b 0)), (1, .int (nI (dwI 0 (Ns 0) d))), (2, .int (nI (dwI 1 (Ns 0) d))), (3, .int (nI (dwI 2 (Ns 0) d))), (4, .int (nI (d))), (6, .int (nI (n + 5)))]) E.1 E.2.1 dL_agree_60 hl (by decide) rfl (fun ls hl => ?_)
        refine W_ind1 (nL := 11) (P := fun c => c ≤ 4) (μ := fun c => 4 - c) (I := fun c => cW G b ad v pd rv Ns) (L := fun c => [(0, .ref (b 0)), (1, .int (nI (dwI 0 (Ns 0) d))), (2, .int (nI (dwI 1 (Ns 0) d))), (3, .int (nI (dwI 2 (Ns 0) d))), (4, .int (nI (d))), (5, .int (nI (aI d (Ns 0) (n + 1)))), (6, .int (nI (n + 5))), (7, .int (nI (cOf d n (Ns 0)))), (8, .int (nI (c)))]) ?_ (0) (Nat.zero_le _) (HB.eq hw (rfl)) (lvh_eq (l := [(0, .ref (b 0)), (1, .int (nI (dwI 0 (Ns 0) d))), (2, .int (nI (dwI 1 (Ns 0) d))), (3, .int (nI (dwI 2 (Ns 0) d))), (4, .int (nI (d))), (5, .int (nI (aI d (Ns 0) (n + 1)))), (6, .int (nI (n + 5))), (7, .int (nI (cOf d n (Ns 0)))), (8, .int (nI (0)))]) (lv_sub hl [3, 4, 5, 6, 7, 1, 8, 2, 0] rfl) (rfl))
        intro c hPc ihc H locs ls hw hl
        replace hw : HB G AA sS.heap (cW G b ad v pd rv Ns) H locs := hw
        replace hl : lv_has ls 11 [(0, .ref (b 0)), (1, .int (nI (dwI 0 (Ns 0) d))), (2, .int (nI (dwI 1 (Ns 0) d))), (3, .int (nI (dwI 2 (Ns 0) d))), (4, .int (nI (d))), (5, .int (nI (aI d (Ns 0) (n + 1)))), (6, .int (nI (n + 5))), (7, .int (nI (cOf d n (Ns 0)))), (8, .int (nI (c)))] := hl
        refine lv_iload E.1 E.2.1 dL_agree_62 (lv_at hl 8 rfl) ?_
        refine lv_iconst (v := nI 4) E.1 E.2.1 dL_agree_64 (by decide) ?_
        refine lv_icmp_geN (tgt := 106) E.1 E.2.1 (by omega) (by omega) dL_agree_65 (by decide) (fun c65 => ?_) (fun c65 => ?_)
        · skip
          refine lv_iincN (k := 6) (lv' := [(6, .int (nI (n + 5 + 1))), (0, .ref (b 0)), (1, .int (nI (dwI 0 (Ns 0) d))), (2, .int (nI (dwI 1 (Ns 0) d))), (3, .int (nI (dwI 2 (Ns 0) d))), (4, .int (nI (d))), (5, .int (nI (aI d (Ns 0) (n + 1)))), (7, .int (nI (cOf d n (Ns 0)))), (8, .int (nI (c)))]) E.1 E.2.1 dL_agree_106 hl rfl (by decide) rfl (fun ls hl => ?_)
          refine lv_goto (tgt := 25) E.1 E.2.1 dL_agree_109 (by decide) ?_
          exact ihn (n + 1) (by omega) (by omega) _ _ _ (HB.eq hw (rfl)) (lvh_eq (l := [(0, .ref (b 0)), (1, .int (nI (dwI 0 (Ns 0) d))), (2, .int (nI (dwI 1 (Ns 0) d))), (3, .int (nI (dwI 2 (Ns 0) d))), (4, .int (nI (d))), (5, .int (nI (aI d (Ns 0) (n + 1)))), (6, .int (nI (n + 5 + 1)))]) (lv_sub hl [1, 2, 3, 4, 5, 6, 0] rfl) (rfl))
        · skip
          refine lv_iload E.1 E.2.1 dL_agree_68 (lv_at hl 7 rfl) ?_
          refine lv_iload E.1 E.2.1 dL_agree_70 (lv_at hl 8 rfl) ?_
          refine callSX E (c_L_has l G (cOf d n (Ns 0)) c (by omega) (by omega)) ES.eb (fun _ _ _ => trivial) mn_8_2 YL_has ⟨rfl, rfl⟩ ⟨Nat.le_of_ble_eq_true rfl, Nat.le_of_ble_eq_true rfl⟩ ⟨Nat.le_of_ble_eq_true rfl, Nat.le_of_ble_eq_true rfl⟩ hw (w := []) (w' := []) (rr := cW G b ad v pd rv Ns) (big' := cW G b ad v pd rv Ns) (List.Perm.refl _) (List.Perm.refl _) rfl hl rfl (Nat.le_of_ble_eq_true rfl) dL_agree_72 (fun H locs hw => ?_)
          refine W_join0 (G := G) (A := AA) (H0 := sS.heap) (nL := 11) 95 (True) (cW G b ad v pd rv Ns) ([(0, .ref (b 0)), (1, .int (nI (dwI 0 (Ns 0) d))), (2, .int (nI (dwI 1 (Ns 0) d))), (3, .int (nI (dwI 2 (Ns 0) d))), (4, .int (nI (d))), (5, .int (nI (aI d (Ns 0) (n + 1)))), (6, .int (nI (n + 5))), (7, .int (nI (cOf d n (Ns 0)))), (8, .int (nI (c)))]) ([.int (zb ((Ns 0 (30 + 14 * d + 0)).testBit c = true ∧ Ns 0 (30 + 14 * d + (6 + c)) = n)), .int (zb ((cOf d n (Ns 0)).testBit c = true))]) (fun jk75 => ?_) ?_
          · skip
            refine lv_aload_n E.1 E.2.1 dL_agree_75 rfl (lv_at hl 0 rfl) ?_
            refine lv_iload E.1 E.2.1 dL_agree_76 (lv_at hl 4 rfl) ?_
            refine lv_iload E.1 E.2.1 dL_agree_78 (lv_at hl 8 rfl) ?_
            refine callVIp E (c_X3_at_ok l G b ad v pd rv Ns d (by omega) hF c (by omega)) ES.eb (fun _ _ _ => trivial) mn_10_7 YX3_at ⟨rfl, rfl⟩ ⟨Nat.le_of_ble_eq_true rfl, Nat.le_of_ble_eq_true rfl⟩ ⟨Nat.le_of_ble_eq_true rfl, Nat.le_of_ble_eq_true rfl⟩ hw (rr := []) (big' := cW G b ad v pd rv Ns) (by rw [List.append_nil]) (by rw [List.append_nil]) 0 rfl rfl rfl hl rfl (Nat.le_of_ble_eq_true rfl) dL_agree_80 (fun H locs hw => ?_)
            refine lv_iload E.1 E.2.1 dL_agree_83 (lv_at hl 6 rfl) ?_
            refine lv_iconst (v := nI 5) E.1 E.2.1 dL_agree_85 (by decide) ?_
            refine lv_isub E.1 E.2.1 dL_agree_86 ?_
            refine lv_eqi (y := nI (n)) (by rw [← nI_add]; exact Int32.add_sub_cancel _ _) ?_
            refine lv_icmp_ne (tgt := 94) E.1 E.2.1 dL_agree_87 (by decide) (fun c87 => ?_) (fun c87 => ?_)
            · skip
              refine lv_iconst (v := nI 0) E.1 E.2.1 dL_agree_94 (by decide) ?_
              refine lv_eqi (y := zb ((Ns 0 (30 + 14 * d + 0)).testBit c = true ∧ Ns 0 (30 + 14 * d + (6 + c)) = n)) ((zb_f (at_f (by omega) c87)).symm) ?_
              exact jk75  (trivial) _ _ _ (HB.eq hw (rfl)) (lvh_eq (l := [(0, .ref (b 0)), (1, .int (nI (dwI 0 (Ns 0) d))), (2, .int (nI (dwI 1 (Ns 0) d))), (3, .int (nI (dwI 2 (Ns 0) d))), (4, .int (nI (d))), (5, .int (nI (aI d (Ns 0) (n + 1)))), (6, .int (nI (n + 5))), (7, .int (nI (cOf d n (Ns 0)))), (8, .int (nI (c)))]) (lv_sub hl [0, 1, 2, 3, 4, 5, 6, 7, 8] rfl) (rfl))
            · skip
              refine lv_iconst (v := nI 1) E.1 E.2.1 dL_agree_90 (by decide) ?_
              refine lv_goto (tgt := 95) E.1 E.2.1 dL_agree_91 (by decide) ?_
              refine lv_eqi (y := zb ((Ns 0 (30 + 14 * d + 0)).testBit c = true ∧ Ns 0 (30 + 14 * d + (6 + c)) = n)) ((zb_t (at_t (by omega) hF (by omega) (by omega) c87)).symm) ?_
              exact jk75  (trivial) _ _ _ (HB.eq hw (rfl)) (lvh_eq (l := [(0, .ref (b 0)), (1, .int (nI (dwI 0 (Ns 0) d))), (2, .int (nI (dwI 1 (Ns 0) d))), (3, .int (nI (dwI 2 (Ns 0) d))), (4, .int (nI (d))), (5, .int (nI (aI d (Ns 0) (n + 1)))), (6, .int (nI (n + 5))), (7, .int (nI (cOf d n (Ns 0)))), (8, .int (nI (c)))]) (lv_sub hl [0, 1, 2, 3, 4, 5, 6, 7, 8] rfl) (rfl))
          · intro  hP75 H locs ls hw hl
            replace hw : HB G AA sS.heap (cW G b ad v pd rv Ns) H locs := hw
            replace hl : lv_has ls 11 [(0, .ref (b 0)), (1, .int (nI (dwI 0 (Ns 0) d))), (2, .int (nI (dwI 1 (Ns 0) d))), (3, .int (nI (dwI 2 (Ns 0) d))), (4, .int (nI (d))), (5, .int (nI (aI d (Ns 0) (n + 1)))), (6, .int (nI (n + 5))), (7, .int (nI (cOf d n (Ns 0)))), (8, .int (nI (c)))] := hl
            show W _ _ _ _ _ _ _ _ _ _ _ _ _ _ _ (F0 mM 95 ls [.int (zb ((Ns 0 (30 + 14 * d + 0)).testBit c = true ∧ Ns 0 (30 + 14 * d + (6 + c)) = n)), .int (zb ((cOf d n (Ns 0)).testBit c = true))])
            refine lv_icmp_eq (tgt := 100) E.1 E.2.1 dL_agree_95 (by decide) (fun c95 => ?_) (fun c95 => ?_)
            · skip
              refine lv_iincN (k := 8) (lv' := [(8, .int (nI (c + 1))), (0, .ref (b 0)), (1, .int (nI (dwI 0 (Ns 0) d))), (2, .int (nI (dwI 1 (Ns 0) d))), (3, .int (nI (dwI 2 (Ns 0) d))), (4, .int (nI (d))), (5, .int (nI (aI d (Ns 0) (n + 1)))), (6, .int (nI (n + 5))), (7, .int (nI (cOf d n (Ns 0))))]) E.1 E.2.1 dL_agree_100 hl rfl (by decide) rfl (fun ls hl => ?_)
              refine lv_goto (tgt := 62) E.1 E.2.1 dL_agree_103 (by decide) ?_
              exact ihc (c + 1) (by omega) (by omega) _ _ _ (HB.eq hw (rfl)) (lvh_eq (l := [(0, .ref (b 0)), (1, .int (nI (dwI 0 (Ns 0) d))), (2, .int (nI (dwI 1 (Ns 0) d))), (3, .int (nI (dwI 2 (Ns 0) d))), (4, .int (nI (d))), (5, .int (nI (aI d (Ns 0) (n + 1)))), (6, .int (nI (n + 5))), (7, .int (nI (cOf d n (Ns 0)))), (8, .int (nI (c + 1)))]) (lv_sub hl [1, 2, 3, 4, 5, 6, 7, 8, 0] rfl) (rfl))
            · exact absurd (zb_c (cOf_t (by omega))) c95
      · exact absurd c47 (by decide)

theorem vt1_lt {N : NS} {d f : Nat} (hF : FI N) (hd : d < 8) (hf : f < 4) : vt1 N d f < 16 := by
  unfold vt1
  split
  · exact or_lt16 _ (hF.f4 hd) f hf
  · rw [Nat.or_zero]; exact hF.f4 hd
theorem rc1_lt {N : NS} {d f : Nat} (hF : FI N) (hd : d < 8) (hf : f < 4) : rc1 N d f < 16 := by
  unfold rc1
  split
  · exact or_lt16 _ (hF.f5 hd) f hf
  · rw [Nat.or_zero]; exact hF.f5 hd
set_option maxHeartbeats 4000000 in
set_option maxRecDepth 100000 in
theorem c_L_isDelivered_b (l : Launch) (G : GP) (b : Nat → Nat) (ad : Nat → Nat → Nat) (v pd rv : Nat → Int32) (Ns : Nat → NS) (hcv : CV v) (hI : Inv (Ns 0)) (hDV : dvI (Ns 0) 5 = Ns 0 7) (hV : VI (Ns 0)) (p k d f : Nat) (hp : p < Ns 0 6) (m0 : Ns 0 (150 + 4 * p + 0) = k) (m1 : Ns 0 (150 + 4 * p + 1) = d) (m2 : Ns 0 (150 + 4 * p + 2) = f) (m3 : Ns 0 (150 + 4 * p + 3) = 4)  : MU l yL_isDelivered (.code yL_isDelivered cL_isDelivered 24 (some .boolean) :: GW) ({ frames := 7, cells := 0, slots := 0, locals := 200 }) [.ref (b 0), .int (nI (p))] G (ES) (cW G b ad v pd rv Ns) (fun u : (Nat → Int32) × (Nat → NS) => cW G b ad u.1 pd rv u.2) (fun u => CV u.1 ∧ u.2 0 = nDel p (Ns 0)) := by
  refine MU.of (own := RL) rfl rfl (Nat.le_of_ble_eq_true rfl) ?_
  intro pP eE sS mM below meth cC ls AA E hw hl hr hlk hE
  replace hl : lv_has ls 24 [(0, .ref (b 0)), (1, .int (nI (p)))] := hl
  have hF := hI.1
  have hm := hI.hm
  have h5 := hF.2.1
  have h6 := hF.1
  obtain ⟨nx, u, hx0, hnx, hu0, hu6⟩ := id hcv
  have hmok := hI.2.1 p hp
  rw [m1, m2, m3, show Ns 0 (150 + 4 * p) = k from m0] at hmok
  obtain ⟨hk7, hd5, hf5, -, -, hfS, hk4, hk3, hk6⟩ := hmok
  have hd8 : d < 8 := by omega
  have qS := hF.f0 hd8
  have qT := hF.f1 hd8
  have q4 := hF.f4 hd8
  have q5 := hF.f5 hd8
  have it : Ns 0 14 ≤ 1 := hF.il (w := 4) (by omega)
  have hdel : nDel p (Ns 0) = mDlv p (Ns 0) := if_pos hp
  have hf4 : f < 4 := by rcases Nat.lt_or_ge f 4 with z | z; exact z; exfalso; rcases (show k = 0 ∨ k = 1 ∨ k = 2 ∨ k = 3 ∨ k = 4 ∨ k = 5 ∨ k = 6 by omega) with y | y | y | y | y | y | y <;> omega
  have p16 := pow_lt16 f hf4
  have v16 := vt1_lt hF hd8 hf4
  have r16 := rc1_lt hF hd8 hf4
  refine lv_aload_n E.1 E.2.1 dL_isDelivered_0 rfl (lv_at hl 0 rfl) ?_
  refine lv_iconst (v := nI 2) E.1 E.2.1 dL_isDelivered_1 (by decide) ?_
  refine callVIp E (c_X3_count_ok l G b ad v pd rv Ns 2 (by decide) (by decide) (by decide) hF hDV) ES.eb (fun _ _ _ => trivial) mn_3_8 YX3_count ⟨rfl, rfl⟩ ⟨Nat.le_of_ble_eq_true rfl, Nat.le_of_ble_eq_true rfl⟩ ⟨Nat.le_of_ble_eq_true rfl, Nat.le_of_ble_eq_true rfl⟩ hw (rr := []) (big' := cW G b ad v pd rv Ns) (by rw [List.append_nil]) (by rw [List.append_nil]) 0 rfl rfl rfl hl rfl (Nat.le_of_ble_eq_true rfl) dL_isDelivered_2 (fun H locs hw => ?_)
  refine lv_eqi (y := nI (Ns 0 6)) (rfl) ?_
  refine lv_istore_n (lv' := [(2, .int (nI (Ns 0 6))), (0, .ref (b 0)), (1, .int (nI (p)))]) E.1 E.2.1 dL_isDelivered_5 rfl hl (by decide) rfl (fun ls hl => ?_)
  refine lv_aload_n E.1 E.2.1 dL_isDelivered_6 rfl (lv_at hl 1 rfl) ?_
  refine lv_iload_n E.1 E.2.1 dL_isDelivered_7 rfl (lv_at hl 2 rfl) ?_
  refine lv_iconst (v := nI 0) E.1 E.2.1 dL_isDelivered_8 (by decide) ?_
  refine callVIp E (c_X3_message_ok l G b ad v pd rv Ns p (by omega) hF 0 (by decide)) ES.eb (fun _ _ _ => trivial) mn_8_8 YX3_message ⟨rfl, rfl⟩ ⟨Nat.le_of_ble_eq_true rfl, Nat.le_of_ble_eq_true rfl⟩ ⟨Nat.le_of_ble_eq_true rfl, Nat.le_of_ble_eq_true rfl⟩ hw (rr := []) (big' := cW G b ad v pd rv Ns) (by rw [List.append_nil]) (by rw [List.append_nil]) 0 rfl rfl rfl hl rfl (Nat.le_of_ble_eq_true rfl) dL_isDelivered_9 (fun H locs hw => ?_)
  refine lv_eqi (y := nI (k)) (congrArg nI m0) ?_
  refine lv_istore_n (lv' := [(3, .int (nI (k))), (2, .int (nI (Ns 0 6))), (0, .ref (b 0)), (1, .int (nI (p)))]) E.1 E.2.1 dL_isDelivered_12 rfl hl (by decide) rfl (fun ls hl => ?_)
  refine lv_aload_n E.1 E.2.1 dL_isDelivered_13 rfl (lv_at hl 2 rfl) ?_
  refine lv_iload_n E.1 E.2.1 dL_isDelivered_14 rfl (lv_at hl 3 rfl) ?_
  refine lv_iconst (v := nI 1) E.1 E.2.1 dL_isDelivered_15 (by decide) ?_
  refine callVIp E (c_X3_message_ok l G b ad v pd rv Ns p (by omega) hF 1 (by decide)) ES.eb (fun _ _ _ => trivial) mn_8_8 YX3_message ⟨rfl, rfl⟩ ⟨Nat.le_of_ble_eq_true rfl, Nat.le_of_ble_eq_true rfl⟩ ⟨Nat.le_of_ble_eq_true rfl, Nat.le_of_ble_eq_true rfl⟩ hw (rr := []) (big' := cW G b ad v pd rv Ns) (by rw [List.append_nil]) (by rw [List.append_nil]) 0 rfl rfl rfl hl rfl (Nat.le_of_ble_eq_true rfl) dL_isDelivered_16 (fun H locs hw => ?_)
  refine lv_eqi (y := nI (d)) (congrArg nI m1) ?_
  refine lv_istore (lv' := [(4, .int (nI (d))), (3, .int (nI (k))), (2, .int (nI (Ns 0 6))), (0, .ref (b 0)), (1, .int (nI (p)))]) E.1 E.2.1 dL_isDelivered_19 hl (by decide) rfl (fun ls hl => ?_)
  refine lv_aload_n E.1 E.2.1 dL_isDelivered_21 rfl (lv_at hl 3 rfl) ?_
  refine lv_iload_n E.1 E.2.1 dL_isDelivered_22 rfl (lv_at hl 4 rfl) ?_
  refine lv_iconst (v := nI 2) E.1 E.2.1 dL_isDelivered_23 (by decide) ?_
  refine callVIp E (c_X3_message_ok l G b ad v pd rv Ns p (by omega) hF 2 (by decide)) ES.eb (fun _ _ _ => trivial) mn_8_8 YX3_message ⟨rfl, rfl⟩ ⟨Nat.le_of_ble_eq_true rfl, Nat.le_of_ble_eq_true rfl⟩ ⟨Nat.le_of_ble_eq_true rfl, Nat.le_of_ble_eq_true rfl⟩ hw (rr := []) (big' := cW G b ad v pd rv Ns) (by rw [List.append_nil]) (by rw [List.append_nil]) 0 rfl rfl rfl hl rfl (Nat.le_of_ble_eq_true rfl) dL_isDelivered_24 (fun H locs hw => ?_)
  refine lv_eqi (y := nI (f)) (congrArg nI m2) ?_
  refine lv_istore (lv' := [(5, .int (nI (f))), (4, .int (nI (d))), (3, .int (nI (k))), (2, .int (nI (Ns 0 6))), (0, .ref (b 0)), (1, .int (nI (p)))]) E.1 E.2.1 dL_isDelivered_27 hl (by decide) rfl (fun ls hl => ?_)
  refine lv_aload_n E.1 E.2.1 dL_isDelivered_29 rfl (lv_at hl 4 rfl) ?_
  refine lv_iload_n E.1 E.2.1 dL_isDelivered_30 rfl (lv_at hl 5 rfl) ?_
  refine lv_iconst (v := nI 3) E.1 E.2.1 dL_isDelivered_31 (by decide) ?_
  refine callVIp E (c_X3_message_ok l G b ad v pd rv Ns p (by omega) hF 3 (by decide)) ES.eb (fun _ _ _ => trivial) mn_8_8 YX3_message ⟨rfl, rfl⟩ ⟨Nat.le_of_ble_eq_true rfl, Nat.le_of_ble_eq_true rfl⟩ ⟨Nat.le_of_ble_eq_true rfl, Nat.le_of_ble_eq_true rfl⟩ hw (rr := []) (big' := cW G b ad v pd rv Ns) (by rw [List.append_nil]) (by rw [List.append_nil]) 0 rfl rfl rfl hl rfl (Nat.le_of_ble_eq_true rfl) dL_isDelivered_32 (fun H locs hw => ?_)
  refine lv_eqi (y := nI (4)) (congrArg nI m3) ?_
  refine lv_istore (lv' := [(6, .int (nI (4))), (5, .int (nI (f))), (4, .int (nI (d))), (3, .int (nI (k))), (2, .int (nI (Ns 0 6))), (0, .ref (b 0)), (1, .int (nI (p)))]) E.1 E.2.1 dL_isDelivered_35 hl (by decide) rfl (fun ls hl => ?_)
  refine lv_iload_n E.1 E.2.1 dL_isDelivered_37 rfl (lv_at hl 6 rfl) ?_
  refine lv_iload_n E.1 E.2.1 dL_isDelivered_38 rfl (lv_at hl 4 rfl) ?_
  refine lv_icmp_ltN (tgt := 62) E.1 E.2.1 (by omega) (by omega) dL_isDelivered_39 (by decide) (fun c39 => ?_) (fun c39 => ?_)
  · skip
    refine W_join0 (G := G) (A := AA) (H0 := sS.heap) (nL := 24) 78 (True) (cW G b ad v pd rv Ns) ([(6, .int (nI (4))), (5, .int (nI (f))), (4, .int (nI (d))), (3, .int (nI (k))), (2, .int (nI (Ns 0 6))), (0, .ref (b 0)), (1, .int (nI (p)))]) ([.int (zb (Ns 0 14 = 1))]) (fun jk62 => ?_) ?_
    · skip
      refine lv_aload_n E.1 E.2.1 dL_isDelivered_62 rfl (lv_at hl 5 rfl) ?_
      refine lv_iload E.1 E.2.1 dL_isDelivered_63 (lv_at hl 0 rfl) ?_
      refine lv_iconst (v := nI 0) E.1 E.2.1 dL_isDelivered_65 (by decide) ?_
      refine callVIp E (c_X3_who_ok l G b ad v pd rv Ns 4 0 (by omega) (by decide) hF hm) ES.eb (fun _ _ _ => trivial) mn_6_14 YX3_who ⟨rfl, rfl⟩ ⟨Nat.le_of_ble_eq_true rfl, Nat.le_of_ble_eq_true rfl⟩ ⟨Nat.le_of_ble_eq_true rfl, Nat.le_of_ble_eq_true rfl⟩ hw (rr := []) (big' := cW G b ad v pd rv Ns) (by rw [List.append_nil]) (by rw [List.append_nil]) 0 rfl rfl rfl hl rfl (Nat.le_of_ble_eq_true rfl) dL_isDelivered_66 (fun H locs hw => ?_)
      refine lv_eqi (y := nI (Ns 0 14)) (rfl) ?_
      refine lv_iconst (v := nI 1) E.1 E.2.1 dL_isDelivered_69 (by decide) ?_
      refine lv_icmp_neN (tgt := 77) E.1 E.2.1 (by omega) (by omega) dL_isDelivered_70 (by decide) (fun c70 => ?_) (fun c70 => ?_)
      · skip
        refine lv_iconst (v := nI 0) E.1 E.2.1 dL_isDelivered_77 (by decide) ?_
        refine lv_eqi (y := zb (Ns 0 14 = 1)) ((zb_f (c70)).symm) ?_
        exact jk62  (trivial) _ _ _ (HB.eq hw (rfl)) (lvh_eq (l := [(6, .int (nI (4))), (5, .int (nI (f))), (4, .int (nI (d))), (3, .int (nI (k))), (2, .int (nI (Ns 0 6))), (0, .ref (b 0)), (1, .int (nI (p)))]) (lv_sub hl [0, 1, 2, 3, 4, 5, 6] rfl) (rfl))
      · skip
        refine lv_iconst (v := nI 1) E.1 E.2.1 dL_isDelivered_73 (by decide) ?_
        refine lv_goto (tgt := 78) E.1 E.2.1 dL_isDelivered_74 (by decide) ?_
        refine lv_eqi (y := zb (Ns 0 14 = 1)) ((zb_t (c70)).symm) ?_
        exact jk62  (trivial) _ _ _ (HB.eq hw (rfl)) (lvh_eq (l := [(6, .int (nI (4))), (5, .int (nI (f))), (4, .int (nI (d))), (3, .int (nI (k))), (2, .int (nI (Ns 0 6))), (0, .ref (b 0)), (1, .int (nI (p)))]) (lv_sub hl [0, 1, 2, 3, 4, 5, 6] rfl) (rfl))
    · intro  hP62 H locs ls hw hl
      replace hw : HB G AA sS.heap (cW G b ad v pd rv Ns) H locs := hw
      replace hl : lv_has ls 24 [(6, .int (nI (4))), (5, .int (nI (f))), (4, .int (nI (d))), (3, .int (nI (k))), (2, .int (nI (Ns 0 6))), (0, .ref (b 0)), (1, .int (nI (p)))] := hl
      show W _ _ _ _ _ _ _ _ _ _ _ _ _ _ _ (F0 mM 78 ls [.int (zb (Ns 0 14 = 1))])
      refine lv_istore (lv' := [(7, .int (zb (Ns 0 14 = 1))), (6, .int (nI (4))), (5, .int (nI (f))), (4, .int (nI (d))), (3, .int (nI (k))), (2, .int (nI (Ns 0 6))), (0, .ref (b 0)), (1, .int (nI (p)))]) E.1 E.2.1 dL_isDelivered_78 hl (by decide) rfl (fun ls hl => ?_)
      refine lv_aload_n E.1 E.2.1 dL_isDelivered_80 rfl (lv_at hl 6 rfl) ?_
      refine lv_iload E.1 E.2.1 dL_isDelivered_81 (lv_at hl 3 rfl) ?_
      refine lv_iconst (v := nI 0) E.1 E.2.1 dL_isDelivered_83 (by decide) ?_
      refine callVIp E (c_X3_ofDeal_ok l G b ad v pd rv Ns d (by omega) hF 0 (by decide)) ES.eb (fun _ _ _ => trivial) mn_7_11 YX3_ofDeal ⟨rfl, rfl⟩ ⟨Nat.le_of_ble_eq_true rfl, Nat.le_of_ble_eq_true rfl⟩ ⟨Nat.le_of_ble_eq_true rfl, Nat.le_of_ble_eq_true rfl⟩ hw (rr := []) (big' := cW G b ad v pd rv Ns) (by rw [List.append_nil]) (by rw [List.append_nil]) 0 rfl rfl rfl hl rfl (Nat.le_of_ble_eq_true rfl) dL_isDelivered_84 (fun H locs hw => ?_)
      refine lv_eqi (y := nI (Ns 0 (30 + 14 * d + 0))) (rfl) ?_
      refine lv_istore (lv' := [(8, .int (nI (Ns 0 (30 + 14 * d + 0)))), (7, .int (zb (Ns 0 14 = 1))), (6, .int (nI (4))), (5, .int (nI (f))), (4, .int (nI (d))), (3, .int (nI (k))), (2, .int (nI (Ns 0 6))), (0, .ref (b 0)), (1, .int (nI (p)))]) E.1 E.2.1 dL_isDelivered_87 hl (by decide) rfl (fun ls hl => ?_)
      refine lv_aload_n E.1 E.2.1 dL_isDelivered_89 rfl (lv_at hl 7 rfl) ?_
      refine lv_iload E.1 E.2.1 dL_isDelivered_90 (lv_at hl 4 rfl) ?_
      refine lv_iconst (v := nI 1) E.1 E.2.1 dL_isDelivered_92 (by decide) ?_
      refine callVIp E (c_X3_ofDeal_ok l G b ad v pd rv Ns d (by omega) hF 1 (by decide)) ES.eb (fun _ _ _ => trivial) mn_7_11 YX3_ofDeal ⟨rfl, rfl⟩ ⟨Nat.le_of_ble_eq_true rfl, Nat.le_of_ble_eq_true rfl⟩ ⟨Nat.le_of_ble_eq_true rfl, Nat.le_of_ble_eq_true rfl⟩ hw (rr := []) (big' := cW G b ad v pd rv Ns) (by rw [List.append_nil]) (by rw [List.append_nil]) 0 rfl rfl rfl hl rfl (Nat.le_of_ble_eq_true rfl) dL_isDelivered_93 (fun H locs hw => ?_)
      refine lv_eqi (y := nI (Ns 0 (30 + 14 * d + 1))) (rfl) ?_
      refine lv_istore (lv' := [(9, .int (nI (Ns 0 (30 + 14 * d + 1)))), (8, .int (nI (Ns 0 (30 + 14 * d + 0)))), (7, .int (zb (Ns 0 14 = 1))), (6, .int (nI (4))), (5, .int (nI (f))), (4, .int (nI (d))), (3, .int (nI (k))), (2, .int (nI (Ns 0 6))), (0, .ref (b 0)), (1, .int (nI (p)))]) E.1 E.2.1 dL_isDelivered_96 hl (by decide) rfl (fun ls hl => ?_)
      refine lv_aload_n E.1 E.2.1 dL_isDelivered_98 rfl (lv_at hl 8 rfl) ?_
      refine lv_iload E.1 E.2.1 dL_isDelivered_99 (lv_at hl 5 rfl) ?_
      refine lv_iconst (v := nI 3) E.1 E.2.1 dL_isDelivered_101 (by decide) ?_
      refine callVIp E (c_X3_ofDeal_ok l G b ad v pd rv Ns d (by omega) hF 3 (by decide)) ES.eb (fun _ _ _ => trivial) mn_7_11 YX3_ofDeal ⟨rfl, rfl⟩ ⟨Nat.le_of_ble_eq_true rfl, Nat.le_of_ble_eq_true rfl⟩ ⟨Nat.le_of_ble_eq_true rfl, Nat.le_of_ble_eq_true rfl⟩ hw (rr := []) (big' := cW G b ad v pd rv Ns) (by rw [List.append_nil]) (by rw [List.append_nil]) 0 rfl rfl rfl hl rfl (Nat.le_of_ble_eq_true rfl) dL_isDelivered_102 (fun H locs hw => ?_)
      refine lv_eqi (y := nI (Ns 0 (30 + 14 * d + 4))) (rfl) ?_
      refine lv_istore (lv' := [(10, .int (nI (Ns 0 (30 + 14 * d + 4)))), (9, .int (nI (Ns 0 (30 + 14 * d + 1)))), (8, .int (nI (Ns 0 (30 + 14 * d + 0)))), (7, .int (zb (Ns 0 14 = 1))), (6, .int (nI (4))), (5, .int (nI (f))), (4, .int (nI (d))), (3, .int (nI (k))), (2, .int (nI (Ns 0 6))), (0, .ref (b 0)), (1, .int (nI (p)))]) E.1 E.2.1 dL_isDelivered_105 hl (by decide) rfl (fun ls hl => ?_)
      refine lv_aload_n E.1 E.2.1 dL_isDelivered_107 rfl (lv_at hl 9 rfl) ?_
      refine lv_iload E.1 E.2.1 dL_isDelivered_108 (lv_at hl 6 rfl) ?_
      refine lv_iconst (v := nI 4) E.1 E.2.1 dL_isDelivered_110 (by decide) ?_
      refine callVIp E (c_X3_ofDeal_ok l G b ad v pd rv Ns d (by omega) hF 4 (by decide)) ES.eb (fun _ _ _ => trivial) mn_7_11 YX3_ofDeal ⟨rfl, rfl⟩ ⟨Nat.le_of_ble_eq_true rfl, Nat.le_of_ble_eq_true rfl⟩ ⟨Nat.le_of_ble_eq_true rfl, Nat.le_of_ble_eq_true rfl⟩ hw (rr := []) (big' := cW G b ad v pd rv Ns) (by rw [List.append_nil]) (by rw [List.append_nil]) 0 rfl rfl rfl hl rfl (Nat.le_of_ble_eq_true rfl) dL_isDelivered_111 (fun H locs hw => ?_)
      refine lv_eqi (y := nI (Ns 0 (30 + 14 * d + 5))) (rfl) ?_
      refine lv_istore (lv' := [(11, .int (nI (Ns 0 (30 + 14 * d + 5)))), (10, .int (nI (Ns 0 (30 + 14 * d + 4)))), (9, .int (nI (Ns 0 (30 + 14 * d + 1)))), (8, .int (nI (Ns 0 (30 + 14 * d + 0)))), (7, .int (zb (Ns 0 14 = 1))), (6, .int (nI (4))), (5, .int (nI (f))), (4, .int (nI (d))), (3, .int (nI (k))), (2, .int (nI (Ns 0 6))), (0, .ref (b 0)), (1, .int (nI (p)))]) E.1 E.2.1 dL_isDelivered_114 hl (by decide) rfl (fun ls hl => ?_)
      refine lv_aload_n E.1 E.2.1 dL_isDelivered_116 rfl (lv_at hl 10 rfl) ?_
      refine lv_iconst (v := nI 4) E.1 E.2.1 dL_isDelivered_117 (by decide) ?_
      refine callVIp E (c_X3_count_ok l G b ad v pd rv Ns 4 (by decide) (by decide) (by decide) hF hDV) ES.eb (fun _ _ _ => trivial) mn_3_8 YX3_count ⟨rfl, rfl⟩ ⟨Nat.le_of_ble_eq_true rfl, Nat.le_of_ble_eq_true rfl⟩ ⟨Nat.le_of_ble_eq_true rfl, Nat.le_of_ble_eq_true rfl⟩ hw (rr := []) (big' := cW G b ad v pd rv Ns) (by rw [List.append_nil]) (by rw [List.append_nil]) 0 rfl rfl rfl hl rfl (Nat.le_of_ble_eq_true rfl) dL_isDelivered_118 (fun H locs hw => ?_)
      refine lv_eqi (y := nI (Ns 0 8)) (rfl) ?_
      refine lv_istore (lv' := [(12, .int (nI (Ns 0 8))), (11, .int (nI (Ns 0 (30 + 14 * d + 5)))), (10, .int (nI (Ns 0 (30 + 14 * d + 4)))), (9, .int (nI (Ns 0 (30 + 14 * d + 1)))), (8, .int (nI (Ns 0 (30 + 14 * d + 0)))), (7, .int (zb (Ns 0 14 = 1))), (6, .int (nI (4))), (5, .int (nI (f))), (4, .int (nI (d))), (3, .int (nI (k))), (2, .int (nI (Ns 0 6))), (0, .ref (b 0)), (1, .int (nI (p)))]) E.1 E.2.1 dL_isDelivered_121 hl (by decide) rfl (fun ls hl => ?_)
      refine lv_aload_n E.1 E.2.1 dL_isDelivered_123 rfl (lv_at hl 11 rfl) ?_
      refine lv_iload E.1 E.2.1 dL_isDelivered_124 (lv_at hl 6 rfl) ?_
      refine lv_iconst (v := nI 3) E.1 E.2.1 dL_isDelivered_126 (by decide) ?_
      refine callVIp E (c_X3_who_ok l G b ad v pd rv Ns 4 3 (by omega) (by decide) hF hm) ES.eb (fun _ _ _ => trivial) mn_6_14 YX3_who ⟨rfl, rfl⟩ ⟨Nat.le_of_ble_eq_true rfl, Nat.le_of_ble_eq_true rfl⟩ ⟨Nat.le_of_ble_eq_true rfl, Nat.le_of_ble_eq_true rfl⟩ hw (rr := []) (big' := cW G b ad v pd rv Ns) (by rw [List.append_nil]) (by rw [List.append_nil]) 0 rfl rfl rfl hl rfl (Nat.le_of_ble_eq_true rfl) dL_isDelivered_127 (fun H locs hw => ?_)
      refine lv_eqi (y := nI (Ns 0 24)) (rfl) ?_
      refine lv_istore (lv' := [(13, .int (nI (Ns 0 24))), (12, .int (nI (Ns 0 8))), (11, .int (nI (Ns 0 (30 + 14 * d + 5)))), (10, .int (nI (Ns 0 (30 + 14 * d + 4)))), (9, .int (nI (Ns 0 (30 + 14 * d + 1)))), (8, .int (nI (Ns 0 (30 + 14 * d + 0)))), (7, .int (zb (Ns 0 14 = 1))), (6, .int (nI (4))), (5, .int (nI (f))), (4, .int (nI (d))), (3, .int (nI (k))), (2, .int (nI (Ns 0 6))), (0, .ref (b 0)), (1, .int (nI (p)))]) E.1 E.2.1 dL_isDelivered_130 hl (by decide) rfl (fun ls hl => ?_)
      refine lv_aload_n E.1 E.2.1 dL_isDelivered_132 rfl (lv_at hl 12 rfl) ?_
      refine lv_iload E.1 E.2.1 dL_isDelivered_133 (lv_at hl 7 rfl) ?_
      refine lv_iconst (v := nI 4) E.1 E.2.1 dL_isDelivered_135 (by decide) ?_
      refine callVIp E (c_X3_who_ok l G b ad v pd rv Ns 4 4 (by omega) (by decide) hF hm) ES.eb (fun _ _ _ => trivial) mn_6_14 YX3_who ⟨rfl, rfl⟩ ⟨Nat.le_of_ble_eq_true rfl, Nat.le_of_ble_eq_true rfl⟩ ⟨Nat.le_of_ble_eq_true rfl, Nat.le_of_ble_eq_true rfl⟩ hw (rr := []) (big' := cW G b ad v pd rv Ns) (by rw [List.append_nil]) (by rw [List.append_nil]) 0 rfl rfl rfl hl rfl (Nat.le_of_ble_eq_true rfl) dL_isDelivered_136 (fun H locs hw => ?_)
      refine lv_eqi (y := nI (Ns 0 29)) (rfl) ?_
      refine lv_istore (lv' := [(14, .int (nI (Ns 0 29))), (13, .int (nI (Ns 0 24))), (12, .int (nI (Ns 0 8))), (11, .int (nI (Ns 0 (30 + 14 * d + 5)))), (10, .int (nI (Ns 0 (30 + 14 * d + 4)))), (9, .int (nI (Ns 0 (30 + 14 * d + 1)))), (8, .int (nI (Ns 0 (30 + 14 * d + 0)))), (7, .int (zb (Ns 0 14 = 1))), (6, .int (nI (4))), (5, .int (nI (f))), (4, .int (nI (d))), (3, .int (nI (k))), (2, .int (nI (Ns 0 6))), (0, .ref (b 0)), (1, .int (nI (p)))]) E.1 E.2.1 dL_isDelivered_139 hl (by decide) rfl (fun ls hl => ?_)
      refine lv_iload E.1 E.2.1 dL_isDelivered_141 (lv_at hl 8 rfl) ?_
      refine lv_iconst (v := nI 4) E.1 E.2.1 dL_isDelivered_143 (by decide) ?_
      refine lv_icmp_geN (tgt := 158) E.1 E.2.1 (by omega) (by omega) dL_isDelivered_144 (by decide) (fun c144 => ?_) (fun c144 => ?_)
      · skip
        refine lv_iconst (v := -1) E.1 E.2.1 dL_isDelivered_158 (by decide) ?_
        refine lv_istore (lv' := [(15, .int (-1)), (14, .int (nI (Ns 0 29))), (13, .int (nI (Ns 0 24))), (12, .int (nI (Ns 0 8))), (11, .int (nI (Ns 0 (30 + 14 * d + 5)))), (10, .int (nI (Ns 0 (30 + 14 * d + 4)))), (9, .int (nI (Ns 0 (30 + 14 * d + 1)))), (8, .int (nI (Ns 0 (30 + 14 * d + 0)))), (7, .int (zb (Ns 0 14 = 1))), (6, .int (nI (4))), (5, .int (nI (f))), (4, .int (nI (d))), (3, .int (nI (k))), (2, .int (nI (Ns 0 6))), (0, .ref (b 0)), (1, .int (nI (p)))]) E.1 E.2.1 dL_isDelivered_159 hl (by decide) rfl (fun ls hl => ?_)
        refine lv_iload E.1 E.2.1 dL_isDelivered_161 (lv_at hl 0 rfl) ?_
        refine lv_istore (lv' := [(16, .int (-1)), (15, .int (-1)), (14, .int (nI (Ns 0 29))), (13, .int (nI (Ns 0 24))), (12, .int (nI (Ns 0 8))), (11, .int (nI (Ns 0 (30 + 14 * d + 5)))), (10, .int (nI (Ns 0 (30 + 14 * d + 4)))), (9, .int (nI (Ns 0 (30 + 14 * d + 1)))), (8, .int (nI (Ns 0 (30 + 14 * d + 0)))), (7, .int (zb (Ns 0 14 = 1))), (6, .int (nI (4))), (5, .int (nI (f))), (4, .int (nI (d))), (3, .int (nI (k))), (2, .int (nI (Ns 0 6))), (0, .ref (b 0)), (1, .int (nI (p)))]) E.1 E.2.1 dL_isDelivered_163 hl (by decide) rfl (fun ls hl => ?_)
        refine lv_iconst (v := -1) E.1 E.2.1 dL_isDelivered_165 (by decide) ?_
        refine lv_istore (lv' := [(17, .int (-1)), (16, .int (-1)), (15, .int (-1)), (14, .int (nI (Ns 0 29))), (13, .int (nI (Ns 0 24))), (12, .int (nI (Ns 0 8))), (11, .int (nI (Ns 0 (30 + 14 * d + 5)))), (10, .int (nI (Ns 0 (30 + 14 * d + 4)))), (9, .int (nI (Ns 0 (30 + 14 * d + 1)))), (8, .int (nI (Ns 0 (30 + 14 * d + 0)))), (7, .int (zb (Ns 0 14 = 1))), (6, .int (nI (4))), (5, .int (nI (f))), (4, .int (nI (d))), (3, .int (nI (k))), (2, .int (nI (Ns 0 6))), (0, .ref (b 0)), (1, .int (nI (p)))]) E.1 E.2.1 dL_isDelivered_166 hl (by decide) rfl (fun ls hl => ?_)
        refine lv_iload E.1 E.2.1 dL_isDelivered_168 (lv_at hl 11 rfl) ?_
        refine lv_iconst (v := nI 4) E.1 E.2.1 dL_isDelivered_170 (by decide) ?_
        refine lv_icmp_neN (tgt := 181) E.1 E.2.1 (by omega) (by omega) dL_isDelivered_171 (by decide) (fun c171 => ?_) (fun c171 => ?_)
        · exact absurd c171 (by decide)
        · skip
          refine lv_iconst (v := nI 1) E.1 E.2.1 dL_isDelivered_174 (by decide) ?_
          refine lv_iload E.1 E.2.1 dL_isDelivered_175 (lv_at hl 12 rfl) ?_
          refine lv_ishl E.1 E.2.1 dL_isDelivered_177 (lv_eqi (y := nI (2 ^ f)) (shl_1 _ (by omega)) ?_)
          refine lv_goto (tgt := 182) E.1 E.2.1 dL_isDelivered_178 (by decide) ?_
          refine lv_istore (lv' := [(18, .int (nI (2 ^ f))), (17, .int (-1)), (16, .int (-1)), (15, .int (-1)), (14, .int (nI (Ns 0 29))), (13, .int (nI (Ns 0 24))), (12, .int (nI (Ns 0 8))), (11, .int (nI (Ns 0 (30 + 14 * d + 5)))), (10, .int (nI (Ns 0 (30 + 14 * d + 4)))), (9, .int (nI (Ns 0 (30 + 14 * d + 1)))), (8, .int (nI (Ns 0 (30 + 14 * d + 0)))), (7, .int (zb (Ns 0 14 = 1))), (6, .int (nI (4))), (5, .int (nI (f))), (4, .int (nI (d))), (3, .int (nI (k))), (2, .int (nI (Ns 0 6))), (0, .ref (b 0)), (1, .int (nI (p)))]) E.1 E.2.1 dL_isDelivered_182 hl (by decide) rfl (fun ls hl => ?_)
          refine W_join0 (G := G) (A := AA) (H0 := sS.heap) (nL := 24) 211 (True) (cW G b ad v pd rv Ns) ([(18, .int (nI (2 ^ f))), (17, .int (-1)), (16, .int (-1)), (15, .int (-1)), (14, .int (nI (Ns 0 29))), (13, .int (nI (Ns 0 24))), (12, .int (nI (Ns 0 8))), (11, .int (nI (Ns 0 (30 + 14 * d + 5)))), (10, .int (nI (Ns 0 (30 + 14 * d + 4)))), (9, .int (nI (Ns 0 (30 + 14 * d + 1)))), (8, .int (nI (Ns 0 (30 + 14 * d + 0)))), (7, .int (zb (Ns 0 14 = 1))), (6, .int (nI (4))), (5, .int (nI (f))), (4, .int (nI (d))), (3, .int (nI (k))), (2, .int (nI (Ns 0 6))), (0, .ref (b 0)), (1, .int (nI (p)))]) ([.int (ansF (Ns 0 (30 + 14 * d + 1)))]) (fun jk184 => ?_) ?_
          · skip
            refine lv_iload E.1 E.2.1 dL_isDelivered_184 (lv_at hl 9 rfl) ?_
            refine lv_iconst (v := nI 1) E.1 E.2.1 dL_isDelivered_186 (by decide) ?_
            refine lv_icmp_eqN (tgt := 196) E.1 E.2.1 (by omega) (by omega) dL_isDelivered_187 (by decide) (fun c187 => ?_) (fun c187 => ?_)
            · skip
              refine lv_iconst (v := nI 3) E.1 E.2.1 dL_isDelivered_196 (by decide) ?_
              refine lv_goto (tgt := 211) E.1 E.2.1 dL_isDelivered_197 (by decide) ?_
              refine lv_eqi (y := ansF (Ns 0 (30 + 14 * d + 1))) (by rw [ansF, if_pos (Or.inl c187)]) ?_
              exact jk184  (trivial) _ _ _ (HB.eq hw (rfl)) (lvh_eq (l := [(18, .int (nI (2 ^ f))), (17, .int (-1)), (16, .int (-1)), (15, .int (-1)), (14, .int (nI (Ns 0 29))), (13, .int (nI (Ns 0 24))), (12, .int (nI (Ns 0 8))), (11, .int (nI (Ns 0 (30 + 14 * d + 5)))), (10, .int (nI (Ns 0 (30 + 14 * d + 4)))), (9, .int (nI (Ns 0 (30 + 14 * d + 1)))), (8, .int (nI (Ns 0 (30 + 14 * d + 0)))), (7, .int (zb (Ns 0 14 = 1))), (6, .int (nI (4))), (5, .int (nI (f))), (4, .int (nI (d))), (3, .int (nI (k))), (2, .int (nI (Ns 0 6))), (0, .ref (b 0)), (1, .int (nI (p)))]) (lv_sub hl [0, 1, 2, 3, 4, 5, 6, 7, 8, 9, 10, 11, 12, 13, 14, 15, 16, 17, 18] rfl) (rfl))
            · skip
              refine lv_iload E.1 E.2.1 dL_isDelivered_190 (lv_at hl 9 rfl) ?_
              refine lv_iconst (v := nI 3) E.1 E.2.1 dL_isDelivered_192 (by decide) ?_
              refine lv_icmp_neN (tgt := 200) E.1 E.2.1 (by omega) (by omega) dL_isDelivered_193 (by decide) (fun c193 => ?_) (fun c193 => ?_)
              · skip
                refine lv_iload E.1 E.2.1 dL_isDelivered_200 (lv_at hl 9 rfl) ?_
                refine lv_iconst (v := nI 2) E.1 E.2.1 dL_isDelivered_202 (by decide) ?_
                refine lv_icmp_neN (tgt := 210) E.1 E.2.1 (by omega) (by omega) dL_isDelivered_203 (by decide) (fun c203 => ?_) (fun c203 => ?_)
                · skip
                  refine lv_iconst (v := -1) E.1 E.2.1 dL_isDelivered_210 (by decide) ?_
                  refine lv_eqi (y := ansF (Ns 0 (30 + 14 * d + 1))) (by rw [ansF, if_neg (fun z => z.elim c187 c193), if_neg c203]) ?_
                  exact jk184  (trivial) _ _ _ (HB.eq hw (rfl)) (lvh_eq (l := [(18, .int (nI (2 ^ f))), (17, .int (-1)), (16, .int (-1)), (15, .int (-1)), (14, .int (nI (Ns 0 29))), (13, .int (nI (Ns 0 24))), (12, .int (nI (Ns 0 8))), (11, .int (nI (Ns 0 (30 + 14 * d + 5)))), (10, .int (nI (Ns 0 (30 + 14 * d + 4)))), (9, .int (nI (Ns 0 (30 + 14 * d + 1)))), (8, .int (nI (Ns 0 (30 + 14 * d + 0)))), (7, .int (zb (Ns 0 14 = 1))), (6, .int (nI (4))), (5, .int (nI (f))), (4, .int (nI (d))), (3, .int (nI (k))), (2, .int (nI (Ns 0 6))), (0, .ref (b 0)), (1, .int (nI (p)))]) (lv_sub hl [0, 1, 2, 3, 4, 5, 6, 7, 8, 9, 10, 11, 12, 13, 14, 15, 16, 17, 18] rfl) (rfl))
                · skip
                  refine lv_iconst (v := nI 4) E.1 E.2.1 dL_isDelivered_206 (by decide) ?_
                  refine lv_goto (tgt := 211) E.1 E.2.1 dL_isDelivered_207 (by decide) ?_
                  refine lv_eqi (y := ansF (Ns 0 (30 + 14 * d + 1))) (by rw [ansF, if_neg (fun z => z.elim c187 c193), if_pos c203]) ?_
                  exact jk184  (trivial) _ _ _ (HB.eq hw (rfl)) (lvh_eq (l := [(18, .int (nI (2 ^ f))), (17, .int (-1)), (16, .int (-1)), (15, .int (-1)), (14, .int (nI (Ns 0 29))), (13, .int (nI (Ns 0 24))), (12, .int (nI (Ns 0 8))), (11, .int (nI (Ns 0 (30 + 14 * d + 5)))), (10, .int (nI (Ns 0 (30 + 14 * d + 4)))), (9, .int (nI (Ns 0 (30 + 14 * d + 1)))), (8, .int (nI (Ns 0 (30 + 14 * d + 0)))), (7, .int (zb (Ns 0 14 = 1))), (6, .int (nI (4))), (5, .int (nI (f))), (4, .int (nI (d))), (3, .int (nI (k))), (2, .int (nI (Ns 0 6))), (0, .ref (b 0)), (1, .int (nI (p)))]) (lv_sub hl [0, 1, 2, 3, 4, 5, 6, 7, 8, 9, 10, 11, 12, 13, 14, 15, 16, 17, 18] rfl) (rfl))
              · skip
                refine lv_iconst (v := nI 3) E.1 E.2.1 dL_isDelivered_196 (by decide) ?_
                refine lv_goto (tgt := 211) E.1 E.2.1 dL_isDelivered_197 (by decide) ?_
                refine lv_eqi (y := ansF (Ns 0 (30 + 14 * d + 1))) (by rw [ansF, if_pos (Or.inr c193)]) ?_
                exact jk184  (trivial) _ _ _ (HB.eq hw (rfl)) (lvh_eq (l := [(18, .int (nI (2 ^ f))), (17, .int (-1)), (16, .int (-1)), (15, .int (-1)), (14, .int (nI (Ns 0 29))), (13, .int (nI (Ns 0 24))), (12, .int (nI (Ns 0 8))), (11, .int (nI (Ns 0 (30 + 14 * d + 5)))), (10, .int (nI (Ns 0 (30 + 14 * d + 4)))), (9, .int (nI (Ns 0 (30 + 14 * d + 1)))), (8, .int (nI (Ns 0 (30 + 14 * d + 0)))), (7, .int (zb (Ns 0 14 = 1))), (6, .int (nI (4))), (5, .int (nI (f))), (4, .int (nI (d))), (3, .int (nI (k))), (2, .int (nI (Ns 0 6))), (0, .ref (b 0)), (1, .int (nI (p)))]) (lv_sub hl [0, 1, 2, 3, 4, 5, 6, 7, 8, 9, 10, 11, 12, 13, 14, 15, 16, 17, 18] rfl) (rfl))
          · intro  hP184 H locs ls hw hl
            replace hw : HB G AA sS.heap (cW G b ad v pd rv Ns) H locs := hw
            replace hl : lv_has ls 24 [(18, .int (nI (2 ^ f))), (17, .int (-1)), (16, .int (-1)), (15, .int (-1)), (14, .int (nI (Ns 0 29))), (13, .int (nI (Ns 0 24))), (12, .int (nI (Ns 0 8))), (11, .int (nI (Ns 0 (30 + 14 * d + 5)))), (10, .int (nI (Ns 0 (30 + 14 * d + 4)))), (9, .int (nI (Ns 0 (30 + 14 * d + 1)))), (8, .int (nI (Ns 0 (30 + 14 * d + 0)))), (7, .int (zb (Ns 0 14 = 1))), (6, .int (nI (4))), (5, .int (nI (f))), (4, .int (nI (d))), (3, .int (nI (k))), (2, .int (nI (Ns 0 6))), (0, .ref (b 0)), (1, .int (nI (p)))] := hl
            show W _ _ _ _ _ _ _ _ _ _ _ _ _ _ _ (F0 mM 211 ls [.int (ansF (Ns 0 (30 + 14 * d + 1)))])
            refine lv_istore (lv' := [(19, .int (ansF (Ns 0 (30 + 14 * d + 1)))), (18, .int (nI (2 ^ f))), (17, .int (-1)), (16, .int (-1)), (15, .int (-1)), (14, .int (nI (Ns 0 29))), (13, .int (nI (Ns 0 24))), (12, .int (nI (Ns 0 8))), (11, .int (nI (Ns 0 (30 + 14 * d + 5)))), (10, .int (nI (Ns 0 (30 + 14 * d + 4)))), (9, .int (nI (Ns 0 (30 + 14 * d + 1)))), (8, .int (nI (Ns 0 (30 + 14 * d + 0)))), (7, .int (zb (Ns 0 14 = 1))), (6, .int (nI (4))), (5, .int (nI (f))), (4, .int (nI (d))), (3, .int (nI (k))), (2, .int (nI (Ns 0 6))), (0, .ref (b 0)), (1, .int (nI (p)))]) E.1 E.2.1 dL_isDelivered_211 hl (by decide) rfl (fun ls hl => ?_)
            refine W_join5 (G := G) (A := AA) (H0 := sS.heap) (nL := 24) 571 (fun (sd : Int32) (ck : Nat) (vt : Nat) (st : Nat) (rc : Nat) => DSc (Ns 0) p d sd ck vt st rc) (fun (sd : Int32) (ck : Nat) (vt : Nat) (st : Nat) (rc : Nat) => cW G b ad v pd rv Ns) (fun (sd : Int32) (ck : Nat) (vt : Nat) (st : Nat) (rc : Nat) => [(17, .int (sd)), (18, .int (nI (ck))), (10, .int (nI (vt))), (9, .int (nI (st))), (11, .int (nI (rc))), (0, .ref (b 0)), (1, .int (nI (p))), (2, .int (nI (Ns 0 6))), (3, .int (nI (k))), (4, .int (nI (d))), (5, .int (nI (f))), (6, .int (nI (4))), (7, .int (zb (Ns 0 14 = 1))), (8, .int (nI (Ns 0 (30 + 14 * d + 0)))), (12, .int (nI (Ns 0 8))), (13, .int (nI (Ns 0 24))), (14, .int (nI (Ns 0 29)))]) (fun (sd : Int32) (ck : Nat) (vt : Nat) (st : Nat) (rc : Nat) => []) (fun jk213 => ?_) ?_
            · skip
              refine lv_iload E.1 E.2.1 dL_isDelivered_213 (lv_at hl 12 rfl) ?_
              refine lv_if_neB (tgt := 361) E.1 E.2.1 dL_isDelivered_215 (by decide) (fun c215 => ?_) (fun c215 => ?_)
              · skip
                refine lv_iload E.1 E.2.1 dL_isDelivered_361 (lv_at hl 12 rfl) ?_
                refine lv_if_neB (tgt := 460) E.1 E.2.1 dL_isDelivered_363 (by decide) (fun c363 => ?_) (fun c363 => ?_)
                · skip
                  refine lv_iload E.1 E.2.1 dL_isDelivered_460 (lv_at hl 12 rfl) ?_
                  refine lv_if_neB (tgt := 509) E.1 E.2.1 dL_isDelivered_462 (by decide) (fun c462 => ?_) (fun c462 => ?_)
                  · skip
                    refine lv_iload E.1 E.2.1 dL_isDelivered_509 (lv_at hl 12 rfl) ?_
                    refine lv_if_neB (tgt := 562) E.1 E.2.1 dL_isDelivered_511 (by decide) (fun c511 => ?_) (fun c511 => ?_)
                    · skip
                      refine lv_iload E.1 E.2.1 dL_isDelivered_562 (lv_at hl 12 rfl) ?_
                      refine lv_if_neB (tgt := 571) E.1 E.2.1 dL_isDelivered_564 (by decide) (fun c564 => ?_) (fun c564 => ?_)
                      · skip
                        exact jk213 (-1) (2 ^ f) (Ns 0 (30 + 14 * d + 4)) (Ns 0 (30 + 14 * d + 1)) (Ns 0 (30 + 14 * d + 5)) (dsc_ill m3 c215 hd8 hF) _ _ _ (HB.eq hw (rfl)) (lvh_eq (l := [(17, .int (-1)), (18, .int (nI (2 ^ f))), (10, .int (nI (Ns 0 (30 + 14 * d + 4)))), (9, .int (nI (Ns 0 (30 + 14 * d + 1)))), (11, .int (nI (Ns 0 (30 + 14 * d + 5)))), (0, .ref (b 0)), (1, .int (nI (p))), (2, .int (nI (Ns 0 6))), (3, .int (nI (k))), (4, .int (nI (d))), (5, .int (nI (f))), (6, .int (nI (4))), (7, .int (zb (Ns 0 14 = 1))), (8, .int (nI (Ns 0 (30 + 14 * d + 0)))), (12, .int (nI (Ns 0 8))), (13, .int (nI (Ns 0 24))), (14, .int (nI (Ns 0 29)))]) (lv_sub hl [2, 1, 9, 10, 8, 18, 19, 17, 16, 15, 14, 13, 12, 11, 7, 6, 5] rfl) (rfl))
                      · exact absurd c215 c564
                    · exact absurd c215 c511
                  · exact absurd c215 c462
                · exact absurd c215 c363
              · skip
                refine lv_iload E.1 E.2.1 dL_isDelivered_218 (lv_at hl 13 rfl) ?_
                refine lv_iconst (v := nI 4) E.1 E.2.1 dL_isDelivered_220 (by decide) ?_
                refine lv_icmp_geN (tgt := 361) E.1 E.2.1 (by omega) (by omega) dL_isDelivered_221 (by decide) (fun c221 => ?_) (fun c221 => ?_)
                · skip
                  refine lv_iload E.1 E.2.1 dL_isDelivered_361 (lv_at hl 12 rfl) ?_
                  refine lv_if_neB (tgt := 460) E.1 E.2.1 dL_isDelivered_363 (by decide) (fun c363 => ?_) (fun c363 => ?_)
                  · exact absurd c363 c215
                  · skip
                    refine lv_iload_n E.1 E.2.1 dL_isDelivered_366 rfl (lv_at hl 16 rfl) ?_
                    refine lv_iconst (v := nI 1) E.1 E.2.1 dL_isDelivered_367 (by decide) ?_
                    refine lv_icmp_neN (tgt := 460) E.1 E.2.1 (by omega) (by omega) dL_isDelivered_368 (by decide) (fun c368 => ?_) (fun c368 => ?_)
                    · skip
                      refine lv_iload E.1 E.2.1 dL_isDelivered_460 (lv_at hl 12 rfl) ?_
                      refine lv_if_neB (tgt := 509) E.1 E.2.1 dL_isDelivered_462 (by decide) (fun c462 => ?_) (fun c462 => ?_)
                      · exact absurd c462 c215
                      · skip
                        refine lv_iload_n E.1 E.2.1 dL_isDelivered_465 rfl (lv_at hl 16 rfl) ?_
                        refine lv_iconst (v := nI 2) E.1 E.2.1 dL_isDelivered_466 (by decide) ?_
                        refine lv_icmp_neN (tgt := 509) E.1 E.2.1 (by omega) (by omega) dL_isDelivered_467 (by decide) (fun c467 => ?_) (fun c467 => ?_)
                        · skip
                          refine lv_iload E.1 E.2.1 dL_isDelivered_509 (lv_at hl 12 rfl) ?_
                          refine lv_if_neB (tgt := 562) E.1 E.2.1 dL_isDelivered_511 (by decide) (fun c511 => ?_) (fun c511 => ?_)
                          · exact absurd c511 c215
                          · skip
                            refine lv_iload_n E.1 E.2.1 dL_isDelivered_514 rfl (lv_at hl 16 rfl) ?_
                            refine lv_iconst (v := nI 5) E.1 E.2.1 dL_isDelivered_515 (by decide) ?_
                            refine lv_icmp_neN (tgt := 562) E.1 E.2.1 (by omega) (by omega) dL_isDelivered_516 (by decide) (fun c516 => ?_) (fun c516 => ?_)
                            · skip
                              refine lv_iload E.1 E.2.1 dL_isDelivered_562 (lv_at hl 12 rfl) ?_
                              refine lv_if_neB (tgt := 571) E.1 E.2.1 dL_isDelivered_564 (by decide) (fun c564 => ?_) (fun c564 => ?_)
                              · exact absurd c564 c215
                              · skip
                                refine lv_iload E.1 E.2.1 dL_isDelivered_567 (lv_at hl 0 rfl) ?_
                                refine lv_istore (lv' := [(17, .int (ansF (Ns 0 (30 + 14 * d + 1)))), (19, .int (ansF (Ns 0 (30 + 14 * d + 1)))), (18, .int (nI (2 ^ f))), (16, .int (-1)), (15, .int (-1)), (14, .int (nI (Ns 0 29))), (13, .int (nI (Ns 0 24))), (12, .int (nI (Ns 0 8))), (11, .int (nI (Ns 0 (30 + 14 * d + 5)))), (10, .int (nI (Ns 0 (30 + 14 * d + 4)))), (9, .int (nI (Ns 0 (30 + 14 * d + 1)))), (8, .int (nI (Ns 0 (30 + 14 * d + 0)))), (7, .int (zb (Ns 0 14 = 1))), (6, .int (nI (4))), (5, .int (nI (f))), (4, .int (nI (d))), (3, .int (nI (k))), (2, .int (nI (Ns 0 6))), (0, .ref (b 0)), (1, .int (nI (p)))]) E.1 E.2.1 dL_isDelivered_569 hl (by decide) rfl (fun ls hl => ?_)
                                exact jk213 (ansF (Ns 0 (30 + 14 * d + 1))) (2 ^ f) (Ns 0 (30 + 14 * d + 4)) (Ns 0 (30 + 14 * d + 1)) (Ns 0 (30 + 14 * d + 5)) (dsc_6 m0 m1 m2 m3 (by omega) hF hd8 hf4 ⟨c368, c467, c516⟩) _ _ _ (HB.eq hw (rfl)) (lvh_eq (l := [(17, .int (ansF (Ns 0 (30 + 14 * d + 1)))), (18, .int (nI (2 ^ f))), (10, .int (nI (Ns 0 (30 + 14 * d + 4)))), (9, .int (nI (Ns 0 (30 + 14 * d + 1)))), (11, .int (nI (Ns 0 (30 + 14 * d + 5)))), (0, .ref (b 0)), (1, .int (nI (p))), (2, .int (nI (Ns 0 6))), (3, .int (nI (k))), (4, .int (nI (d))), (5, .int (nI (f))), (6, .int (nI (4))), (7, .int (zb (Ns 0 14 = 1))), (8, .int (nI (Ns 0 (30 + 14 * d + 0)))), (12, .int (nI (Ns 0 8))), (13, .int (nI (Ns 0 24))), (14, .int (nI (Ns 0 29)))]) (lv_sub hl [0, 2, 9, 10, 8, 18, 19, 17, 16, 15, 14, 13, 12, 11, 7, 6, 5] rfl) (rfl))
                            · skip
                              refine lv_iload E.1 E.2.1 dL_isDelivered_519 (lv_at hl 8 rfl) ?_
                              refine W_join0 (G := G) (A := AA) (H0 := sS.heap) (nL := 24) 535 (True) (cW G b ad v pd rv Ns) ([(19, .int (ansF (Ns 0 (30 + 14 * d + 1)))), (18, .int (nI (2 ^ f))), (17, .int (-1)), (16, .int (-1)), (15, .int (-1)), (14, .int (nI (Ns 0 29))), (13, .int (nI (Ns 0 24))), (12, .int (nI (Ns 0 8))), (11, .int (nI (Ns 0 (30 + 14 * d + 5)))), (10, .int (nI (Ns 0 (30 + 14 * d + 4)))), (9, .int (nI (Ns 0 (30 + 14 * d + 1)))), (8, .int (nI (Ns 0 (30 + 14 * d + 0)))), (7, .int (zb (Ns 0 14 = 1))), (6, .int (nI (4))), (5, .int (nI (f))), (4, .int (nI (d))), (3, .int (nI (k))), (2, .int (nI (Ns 0 6))), (0, .ref (b 0)), (1, .int (nI (p)))]) ([.int (nI (if Ns 0 (30 + 14 * d + 1) = 1 then 2 ^ f else 0)), .int (nI (Ns 0 (30 + 14 * d + 5)))]) (fun jk521 => ?_) ?_
                              · skip
                                refine lv_iload E.1 E.2.1 dL_isDelivered_521 (lv_at hl 10 rfl) ?_
                                refine lv_iconst (v := nI 1) E.1 E.2.1 dL_isDelivered_523 (by decide) ?_
                                refine lv_icmp_neN (tgt := 534) E.1 E.2.1 (by omega) (by omega) dL_isDelivered_524 (by decide) (fun c524 => ?_) (fun c524 => ?_)
                                · skip
                                  refine lv_iconst (v := nI 0) E.1 E.2.1 dL_isDelivered_534 (by decide) ?_
                                  refine lv_eqi (y := nI (if Ns 0 (30 + 14 * d + 1) = 1 then 2 ^ f else 0)) (by rw [if_neg c524]) ?_
                                  exact jk521  (trivial) _ _ _ (HB.eq hw (rfl)) (lvh_eq (l := [(19, .int (ansF (Ns 0 (30 + 14 * d + 1)))), (18, .int (nI (2 ^ f))), (17, .int (-1)), (16, .int (-1)), (15, .int (-1)), (14, .int (nI (Ns 0 29))), (13, .int (nI (Ns 0 24))), (12, .int (nI (Ns 0 8))), (11, .int (nI (Ns 0 (30 + 14 * d + 5)))), (10, .int (nI (Ns 0 (30 + 14 * d + 4)))), (9, .int (nI (Ns 0 (30 + 14 * d + 1)))), (8, .int (nI (Ns 0 (30 + 14 * d + 0)))), (7, .int (zb (Ns 0 14 = 1))), (6, .int (nI (4))), (5, .int (nI (f))), (4, .int (nI (d))), (3, .int (nI (k))), (2, .int (nI (Ns 0 6))), (0, .ref (b 0)), (1, .int (nI (p)))]) (lv_sub hl [0, 1, 2, 3, 4, 5, 6, 7, 8, 9, 10, 11, 12, 13, 14, 15, 16, 17, 18, 19] rfl) (rfl))
                                · skip
                                  refine lv_iconst (v := nI 1) E.1 E.2.1 dL_isDelivered_527 (by decide) ?_
                                  refine lv_iload E.1 E.2.1 dL_isDelivered_528 (lv_at hl 14 rfl) ?_
                                  refine lv_ishl E.1 E.2.1 dL_isDelivered_530 (lv_eqi (y := nI (2 ^ f)) (shl_1 _ (by omega)) ?_)
                                  refine lv_goto (tgt := 535) E.1 E.2.1 dL_isDelivered_531 (by decide) ?_
                                  refine lv_eqi (y := nI (if Ns 0 (30 + 14 * d + 1) = 1 then 2 ^ f else 0)) (by rw [if_pos c524]) ?_
                                  exact jk521  (trivial) _ _ _ (HB.eq hw (rfl)) (lvh_eq (l := [(19, .int (ansF (Ns 0 (30 + 14 * d + 1)))), (18, .int (nI (2 ^ f))), (17, .int (-1)), (16, .int (-1)), (15, .int (-1)), (14, .int (nI (Ns 0 29))), (13, .int (nI (Ns 0 24))), (12, .int (nI (Ns 0 8))), (11, .int (nI (Ns 0 (30 + 14 * d + 5)))), (10, .int (nI (Ns 0 (30 + 14 * d + 4)))), (9, .int (nI (Ns 0 (30 + 14 * d + 1)))), (8, .int (nI (Ns 0 (30 + 14 * d + 0)))), (7, .int (zb (Ns 0 14 = 1))), (6, .int (nI (4))), (5, .int (nI (f))), (4, .int (nI (d))), (3, .int (nI (k))), (2, .int (nI (Ns 0 6))), (0, .ref (b 0)), (1, .int (nI (p)))]) (lv_sub hl [0, 1, 2, 3, 4, 5, 6, 7, 8, 9, 10, 11, 12, 13, 14, 15, 16, 17, 18, 19] rfl) (rfl))
                              · intro  hP521 H locs ls hw hl
                                replace hw : HB G AA sS.heap (cW G b ad v pd rv Ns) H locs := hw
                                replace hl : lv_has ls 24 [(19, .int (ansF (Ns 0 (30 + 14 * d + 1)))), (18, .int (nI (2 ^ f))), (17, .int (-1)), (16, .int (-1)), (15, .int (-1)), (14, .int (nI (Ns 0 29))), (13, .int (nI (Ns 0 24))), (12, .int (nI (Ns 0 8))), (11, .int (nI (Ns 0 (30 + 14 * d + 5)))), (10, .int (nI (Ns 0 (30 + 14 * d + 4)))), (9, .int (nI (Ns 0 (30 + 14 * d + 1)))), (8, .int (nI (Ns 0 (30 + 14 * d + 0)))), (7, .int (zb (Ns 0 14 = 1))), (6, .int (nI (4))), (5, .int (nI (f))), (4, .int (nI (d))), (3, .int (nI (k))), (2, .int (nI (Ns 0 6))), (0, .ref (b 0)), (1, .int (nI (p)))] := hl
                                show W _ _ _ _ _ _ _ _ _ _ _ _ _ _ _ (F0 mM 535 ls [.int (nI (if Ns 0 (30 + 14 * d + 1) = 1 then 2 ^ f else 0)), .int (nI (Ns 0 (30 + 14 * d + 5)))])
                                refine lv_ior E.1 E.2.1 dL_isDelivered_535 (lv_eqi (y := nI (Ns 0 (30 + 14 * d + 5) ||| (if Ns 0 (30 + 14 * d + 1) = 1 then 2 ^ f else 0))) (or_nI _ _) ?_)
                                refine lv_eqi (y := nI (rc1 (Ns 0) d f)) (rfl) ?_
                                refine lv_istore (lv' := [(11, .int (nI (rc1 (Ns 0) d f))), (19, .int (ansF (Ns 0 (30 + 14 * d + 1)))), (18, .int (nI (2 ^ f))), (17, .int (-1)), (16, .int (-1)), (15, .int (-1)), (14, .int (nI (Ns 0 29))), (13, .int (nI (Ns 0 24))), (12, .int (nI (Ns 0 8))), (10, .int (nI (Ns 0 (30 + 14 * d + 4)))), (9, .int (nI (Ns 0 (30 + 14 * d + 1)))), (8, .int (nI (Ns 0 (30 + 14 * d + 0)))), (7, .int (zb (Ns 0 14 = 1))), (6, .int (nI (4))), (5, .int (nI (f))), (4, .int (nI (d))), (3, .int (nI (k))), (2, .int (nI (Ns 0 6))), (0, .ref (b 0)), (1, .int (nI (p)))]) E.1 E.2.1 dL_isDelivered_536 hl (by decide) rfl (fun ls hl => ?_)
                                refine W_join0 (G := G) (A := AA) (H0 := sS.heap) (nL := 24) 557 (True) (cW G b ad v pd rv Ns) ([(11, .int (nI (rc1 (Ns 0) d f))), (19, .int (ansF (Ns 0 (30 + 14 * d + 1)))), (18, .int (nI (2 ^ f))), (17, .int (-1)), (16, .int (-1)), (15, .int (-1)), (14, .int (nI (Ns 0 29))), (13, .int (nI (Ns 0 24))), (12, .int (nI (Ns 0 8))), (10, .int (nI (Ns 0 (30 + 14 * d + 4)))), (9, .int (nI (Ns 0 (30 + 14 * d + 1)))), (8, .int (nI (Ns 0 (30 + 14 * d + 0)))), (7, .int (zb (Ns 0 14 = 1))), (6, .int (nI (4))), (5, .int (nI (f))), (4, .int (nI (d))), (3, .int (nI (k))), (2, .int (nI (Ns 0 6))), (0, .ref (b 0)), (1, .int (nI (p)))]) ([.int (nI (if Ns 0 (30 + 14 * d + 1) = 1 ∧ rc1 (Ns 0) d f = Ns 0 (30 + 14 * d + 0) then 3 else Ns 0 (30 + 14 * d + 1)))]) (fun jk538 => ?_) ?_
                                · skip
                                  refine lv_iload E.1 E.2.1 dL_isDelivered_538 (lv_at hl 10 rfl) ?_
                                  refine lv_iconst (v := nI 1) E.1 E.2.1 dL_isDelivered_540 (by decide) ?_
                                  refine lv_icmp_neN (tgt := 555) E.1 E.2.1 (by omega) (by omega) dL_isDelivered_541 (by decide) (fun c541 => ?_) (fun c541 => ?_)
                                  · skip
                                    refine lv_iload E.1 E.2.1 dL_isDelivered_555 (lv_at hl 10 rfl) ?_
                                    refine lv_eqi (y := nI (if Ns 0 (30 + 14 * d + 1) = 1 ∧ rc1 (Ns 0) d f = Ns 0 (30 + 14 * d + 0) then 3 else Ns 0 (30 + 14 * d + 1))) (by rw [if_neg (fun z => c541 z.1)]) ?_
                                    exact jk538  (trivial) _ _ _ (HB.eq hw (rfl)) (lvh_eq (l := [(11, .int (nI (rc1 (Ns 0) d f))), (19, .int (ansF (Ns 0 (30 + 14 * d + 1)))), (18, .int (nI (2 ^ f))), (17, .int (-1)), (16, .int (-1)), (15, .int (-1)), (14, .int (nI (Ns 0 29))), (13, .int (nI (Ns 0 24))), (12, .int (nI (Ns 0 8))), (10, .int (nI (Ns 0 (30 + 14 * d + 4)))), (9, .int (nI (Ns 0 (30 + 14 * d + 1)))), (8, .int (nI (Ns 0 (30 + 14 * d + 0)))), (7, .int (zb (Ns 0 14 = 1))), (6, .int (nI (4))), (5, .int (nI (f))), (4, .int (nI (d))), (3, .int (nI (k))), (2, .int (nI (Ns 0 6))), (0, .ref (b 0)), (1, .int (nI (p)))]) (lv_sub hl [0, 1, 2, 3, 4, 5, 6, 7, 8, 9, 10, 11, 12, 13, 14, 15, 16, 17, 18, 19] rfl) (rfl))
                                  · skip
                                    refine lv_iload E.1 E.2.1 dL_isDelivered_544 (lv_at hl 0 rfl) ?_
                                    refine lv_iload E.1 E.2.1 dL_isDelivered_546 (lv_at hl 11 rfl) ?_
                                    refine lv_icmp_neN (tgt := 555) E.1 E.2.1 (by omega) (by omega) dL_isDelivered_548 (by decide) (fun c548 => ?_) (fun c548 => ?_)
                                    · skip
                                      refine lv_iload E.1 E.2.1 dL_isDelivered_555 (lv_at hl 10 rfl) ?_
                                      refine lv_eqi (y := nI (if Ns 0 (30 + 14 * d + 1) = 1 ∧ rc1 (Ns 0) d f = Ns 0 (30 + 14 * d + 0) then 3 else Ns 0 (30 + 14 * d + 1))) (by rw [if_neg (fun z => c548 z.2)]) ?_
                                      exact jk538  (trivial) _ _ _ (HB.eq hw (rfl)) (lvh_eq (l := [(11, .int (nI (rc1 (Ns 0) d f))), (19, .int (ansF (Ns 0 (30 + 14 * d + 1)))), (18, .int (nI (2 ^ f))), (17, .int (-1)), (16, .int (-1)), (15, .int (-1)), (14, .int (nI (Ns 0 29))), (13, .int (nI (Ns 0 24))), (12, .int (nI (Ns 0 8))), (10, .int (nI (Ns 0 (30 + 14 * d + 4)))), (9, .int (nI (Ns 0 (30 + 14 * d + 1)))), (8, .int (nI (Ns 0 (30 + 14 * d + 0)))), (7, .int (zb (Ns 0 14 = 1))), (6, .int (nI (4))), (5, .int (nI (f))), (4, .int (nI (d))), (3, .int (nI (k))), (2, .int (nI (Ns 0 6))), (0, .ref (b 0)), (1, .int (nI (p)))]) (lv_sub hl [0, 1, 2, 3, 4, 5, 6, 7, 8, 9, 10, 11, 12, 13, 14, 15, 16, 17, 18, 19] rfl) (rfl))
                                    · skip
                                      refine lv_iconst (v := nI 3) E.1 E.2.1 dL_isDelivered_551 (by decide) ?_
                                      refine lv_goto (tgt := 557) E.1 E.2.1 dL_isDelivered_552 (by decide) ?_
                                      refine lv_eqi (y := nI (if Ns 0 (30 + 14 * d + 1) = 1 ∧ rc1 (Ns 0) d f = Ns 0 (30 + 14 * d + 0) then 3 else Ns 0 (30 + 14 * d + 1))) (by rw [if_pos ⟨c541, c548⟩]) ?_
                                      exact jk538  (trivial) _ _ _ (HB.eq hw (rfl)) (lvh_eq (l := [(11, .int (nI (rc1 (Ns 0) d f))), (19, .int (ansF (Ns 0 (30 + 14 * d + 1)))), (18, .int (nI (2 ^ f))), (17, .int (-1)), (16, .int (-1)), (15, .int (-1)), (14, .int (nI (Ns 0 29))), (13, .int (nI (Ns 0 24))), (12, .int (nI (Ns 0 8))), (10, .int (nI (Ns 0 (30 + 14 * d + 4)))), (9, .int (nI (Ns 0 (30 + 14 * d + 1)))), (8, .int (nI (Ns 0 (30 + 14 * d + 0)))), (7, .int (zb (Ns 0 14 = 1))), (6, .int (nI (4))), (5, .int (nI (f))), (4, .int (nI (d))), (3, .int (nI (k))), (2, .int (nI (Ns 0 6))), (0, .ref (b 0)), (1, .int (nI (p)))]) (lv_sub hl [0, 1, 2, 3, 4, 5, 6, 7, 8, 9, 10, 11, 12, 13, 14, 15, 16, 17, 18, 19] rfl) (rfl))
                                · intro  hP538 H locs ls hw hl
                                  replace hw : HB G AA sS.heap (cW G b ad v pd rv Ns) H locs := hw
                                  replace hl : lv_has ls 24 [(11, .int (nI (rc1 (Ns 0) d f))), (19, .int (ansF (Ns 0 (30 + 14 * d + 1)))), (18, .int (nI (2 ^ f))), (17, .int (-1)), (16, .int (-1)), (15, .int (-1)), (14, .int (nI (Ns 0 29))), (13, .int (nI (Ns 0 24))), (12, .int (nI (Ns 0 8))), (10, .int (nI (Ns 0 (30 + 14 * d + 4)))), (9, .int (nI (Ns 0 (30 + 14 * d + 1)))), (8, .int (nI (Ns 0 (30 + 14 * d + 0)))), (7, .int (zb (Ns 0 14 = 1))), (6, .int (nI (4))), (5, .int (nI (f))), (4, .int (nI (d))), (3, .int (nI (k))), (2, .int (nI (Ns 0 6))), (0, .ref (b 0)), (1, .int (nI (p)))] := hl
                                  show W _ _ _ _ _ _ _ _ _ _ _ _ _ _ _ (F0 mM 557 ls [.int (nI (if Ns 0 (30 + 14 * d + 1) = 1 ∧ rc1 (Ns 0) d f = Ns 0 (30 + 14 * d + 0) then 3 else Ns 0 (30 + 14 * d + 1)))])
                                  refine lv_istore (lv' := [(9, .int (nI (if Ns 0 (30 + 14 * d + 1) = 1 ∧ rc1 (Ns 0) d f = Ns 0 (30 + 14 * d + 0) then 3 else Ns 0 (30 + 14 * d + 1)))), (11, .int (nI (rc1 (Ns 0) d f))), (19, .int (ansF (Ns 0 (30 + 14 * d + 1)))), (18, .int (nI (2 ^ f))), (17, .int (-1)), (16, .int (-1)), (15, .int (-1)), (14, .int (nI (Ns 0 29))), (13, .int (nI (Ns 0 24))), (12, .int (nI (Ns 0 8))), (10, .int (nI (Ns 0 (30 + 14 * d + 4)))), (8, .int (nI (Ns 0 (30 + 14 * d + 0)))), (7, .int (zb (Ns 0 14 = 1))), (6, .int (nI (4))), (5, .int (nI (f))), (4, .int (nI (d))), (3, .int (nI (k))), (2, .int (nI (Ns 0 6))), (0, .ref (b 0)), (1, .int (nI (p)))]) E.1 E.2.1 dL_isDelivered_557 hl (by decide) rfl (fun ls hl => ?_)
                                  refine lv_goto (tgt := 571) E.1 E.2.1 dL_isDelivered_559 (by decide) ?_
                                  exact jk213 (-1) (2 ^ f) (Ns 0 (30 + 14 * d + 4)) (if Ns 0 (30 + 14 * d + 1) = 1 ∧ rc1 (Ns 0) d f = Ns 0 (30 + 14 * d + 0) then 3 else Ns 0 (30 + 14 * d + 1)) (rc1 (Ns 0) d f) (dsc_5 (m0.trans c516) m1 m2 m3 (by omega) hF hd8 hf4 rfl) _ _ _ (HB.eq hw (rfl)) (lvh_eq (l := [(17, .int (-1)), (18, .int (nI (2 ^ f))), (10, .int (nI (Ns 0 (30 + 14 * d + 4)))), (9, .int (nI (if Ns 0 (30 + 14 * d + 1) = 1 ∧ rc1 (Ns 0) d f = Ns 0 (30 + 14 * d + 0) then 3 else Ns 0 (30 + 14 * d + 1)))), (11, .int (nI (rc1 (Ns 0) d f))), (0, .ref (b 0)), (1, .int (nI (p))), (2, .int (nI (Ns 0 6))), (3, .int (nI (k))), (4, .int (nI (d))), (5, .int (nI (f))), (6, .int (nI (4))), (7, .int (zb (Ns 0 14 = 1))), (8, .int (nI (Ns 0 (30 + 14 * d + 0)))), (12, .int (nI (Ns 0 8))), (13, .int (nI (Ns 0 24))), (14, .int (nI (Ns 0 29)))]) (lv_sub hl [4, 3, 10, 0, 1, 18, 19, 17, 16, 15, 14, 13, 12, 11, 9, 8, 7] rfl) (rfl))
                        · skip
                          refine W_join0 (G := G) (A := AA) (H0 := sS.heap) (nL := 24) 480 (True) (cW G b ad v pd rv Ns) ([(19, .int (ansF (Ns 0 (30 + 14 * d + 1)))), (18, .int (nI (2 ^ f))), (17, .int (-1)), (16, .int (-1)), (15, .int (-1)), (14, .int (nI (Ns 0 29))), (13, .int (nI (Ns 0 24))), (12, .int (nI (Ns 0 8))), (11, .int (nI (Ns 0 (30 + 14 * d + 5)))), (10, .int (nI (Ns 0 (30 + 14 * d + 4)))), (9, .int (nI (Ns 0 (30 + 14 * d + 1)))), (8, .int (nI (Ns 0 (30 + 14 * d + 0)))), (7, .int (zb (Ns 0 14 = 1))), (6, .int (nI (4))), (5, .int (nI (f))), (4, .int (nI (d))), (3, .int (nI (k))), (2, .int (nI (Ns 0 6))), (0, .ref (b 0)), (1, .int (nI (p)))]) ([.int (if Ns 0 (30 + 14 * d + 1) = 0 then nI 4 else -1)]) (fun jk470 => ?_) ?_
                          · skip
                            refine lv_iload E.1 E.2.1 dL_isDelivered_470 (lv_at hl 10 rfl) ?_
                            refine lv_if_neN (tgt := 479) E.1 E.2.1 (by omega) dL_isDelivered_472 (by decide) (fun c472 => ?_) (fun c472 => ?_)
                            · skip
                              refine lv_iconst (v := -1) E.1 E.2.1 dL_isDelivered_479 (by decide) ?_
                              refine lv_eqi (y := if Ns 0 (30 + 14 * d + 1) = 0 then nI 4 else -1) (by rw [if_neg c472]) ?_
                              exact jk470  (trivial) _ _ _ (HB.eq hw (rfl)) (lvh_eq (l := [(19, .int (ansF (Ns 0 (30 + 14 * d + 1)))), (18, .int (nI (2 ^ f))), (17, .int (-1)), (16, .int (-1)), (15, .int (-1)), (14, .int (nI (Ns 0 29))), (13, .int (nI (Ns 0 24))), (12, .int (nI (Ns 0 8))), (11, .int (nI (Ns 0 (30 + 14 * d + 5)))), (10, .int (nI (Ns 0 (30 + 14 * d + 4)))), (9, .int (nI (Ns 0 (30 + 14 * d + 1)))), (8, .int (nI (Ns 0 (30 + 14 * d + 0)))), (7, .int (zb (Ns 0 14 = 1))), (6, .int (nI (4))), (5, .int (nI (f))), (4, .int (nI (d))), (3, .int (nI (k))), (2, .int (nI (Ns 0 6))), (0, .ref (b 0)), (1, .int (nI (p)))]) (lv_sub hl [0, 1, 2, 3, 4, 5, 6, 7, 8, 9, 10, 11, 12, 13, 14, 15, 16, 17, 18, 19] rfl) (rfl))
                            · skip
                              refine lv_iconst (v := nI 4) E.1 E.2.1 dL_isDelivered_475 (by decide) ?_
                              refine lv_goto (tgt := 480) E.1 E.2.1 dL_isDelivered_476 (by decide) ?_
                              refine lv_eqi (y := if Ns 0 (30 + 14 * d + 1) = 0 then nI 4 else -1) (by rw [if_pos c472]) ?_
                              exact jk470  (trivial) _ _ _ (HB.eq hw (rfl)) (lvh_eq (l := [(19, .int (ansF (Ns 0 (30 + 14 * d + 1)))), (18, .int (nI (2 ^ f))), (17, .int (-1)), (16, .int (-1)), (15, .int (-1)), (14, .int (nI (Ns 0 29))), (13, .int (nI (Ns 0 24))), (12, .int (nI (Ns 0 8))), (11, .int (nI (Ns 0 (30 + 14 * d + 5)))), (10, .int (nI (Ns 0 (30 + 14 * d + 4)))), (9, .int (nI (Ns 0 (30 + 14 * d + 1)))), (8, .int (nI (Ns 0 (30 + 14 * d + 0)))), (7, .int (zb (Ns 0 14 = 1))), (6, .int (nI (4))), (5, .int (nI (f))), (4, .int (nI (d))), (3, .int (nI (k))), (2, .int (nI (Ns 0 6))), (0, .ref (b 0)), (1, .int (nI (p)))]) (lv_sub hl [0, 1, 2, 3, 4, 5, 6, 7, 8, 9, 10, 11, 12, 13, 14, 15, 16, 17, 18, 19] rfl) (rfl))
                          · intro  hP470 H locs ls hw hl
                            replace hw : HB G AA sS.heap (cW G b ad v pd rv Ns) H locs := hw
                            replace hl : lv_has ls 24 [(19, .int (ansF (Ns 0 (30 + 14 * d + 1)))), (18, .int (nI (2 ^ f))), (17, .int (-1)), (16, .int (-1)), (15, .int (-1)), (14, .int (nI (Ns 0 29))), (13, .int (nI (Ns 0 24))), (12, .int (nI (Ns 0 8))), (11, .int (nI (Ns 0 (30 + 14 * d + 5)))), (10, .int (nI (Ns 0 (30 + 14 * d + 4)))), (9, .int (nI (Ns 0 (30 + 14 * d + 1)))), (8, .int (nI (Ns 0 (30 + 14 * d + 0)))), (7, .int (zb (Ns 0 14 = 1))), (6, .int (nI (4))), (5, .int (nI (f))), (4, .int (nI (d))), (3, .int (nI (k))), (2, .int (nI (Ns 0 6))), (0, .ref (b 0)), (1, .int (nI (p)))] := hl
                            show W _ _ _ _ _ _ _ _ _ _ _ _ _ _ _ (F0 mM 480 ls [.int (if Ns 0 (30 + 14 * d + 1) = 0 then nI 4 else -1)])
                            refine lv_istore (lv' := [(17, .int (if Ns 0 (30 + 14 * d + 1) = 0 then nI 4 else -1)), (19, .int (ansF (Ns 0 (30 + 14 * d + 1)))), (18, .int (nI (2 ^ f))), (16, .int (-1)), (15, .int (-1)), (14, .int (nI (Ns 0 29))), (13, .int (nI (Ns 0 24))), (12, .int (nI (Ns 0 8))), (11, .int (nI (Ns 0 (30 + 14 * d + 5)))), (10, .int (nI (Ns 0 (30 + 14 * d + 4)))), (9, .int (nI (Ns 0 (30 + 14 * d + 1)))), (8, .int (nI (Ns 0 (30 + 14 * d + 0)))), (7, .int (zb (Ns 0 14 = 1))), (6, .int (nI (4))), (5, .int (nI (f))), (4, .int (nI (d))), (3, .int (nI (k))), (2, .int (nI (Ns 0 6))), (0, .ref (b 0)), (1, .int (nI (p)))]) E.1 E.2.1 dL_isDelivered_480 hl (by decide) rfl (fun ls hl => ?_)
                            refine lv_iload E.1 E.2.1 dL_isDelivered_482 (lv_at hl 11 rfl) ?_
                            refine lv_iconst (v := nI 1) E.1 E.2.1 dL_isDelivered_484 (by decide) ?_
                            refine lv_iload E.1 E.2.1 dL_isDelivered_485 (lv_at hl 14 rfl) ?_
                            refine lv_ishl E.1 E.2.1 dL_isDelivered_487 (lv_eqi (y := nI (2 ^ f)) (shl_1 _ (by omega)) ?_)
                            refine lv_iconst (v := -1) E.1 E.2.1 dL_isDelivered_488 (by decide) ?_
                            refine lv_ixor E.1 E.2.1 dL_isDelivered_489 ?_
                            refine lv_iand E.1 E.2.1 dL_isDelivered_490 (lv_eqi (y := nI (Ns 0 (30 + 14 * d + 0) &&& (15 ^^^ 2 ^ f))) (andn_nI _ (by omega) _ (pow_lt16 _ (by omega))) ?_)
                            refine lv_istore (lv' := [(18, .int (nI (Ns 0 (30 + 14 * d + 0) &&& (15 ^^^ 2 ^ f)))), (17, .int (if Ns 0 (30 + 14 * d + 1) = 0 then nI 4 else -1)), (19, .int (ansF (Ns 0 (30 + 14 * d + 1)))), (16, .int (-1)), (15, .int (-1)), (14, .int (nI (Ns 0 29))), (13, .int (nI (Ns 0 24))), (12, .int (nI (Ns 0 8))), (11, .int (nI (Ns 0 (30 + 14 * d + 5)))), (10, .int (nI (Ns 0 (30 + 14 * d + 4)))), (9, .int (nI (Ns 0 (30 + 14 * d + 1)))), (8, .int (nI (Ns 0 (30 + 14 * d + 0)))), (7, .int (zb (Ns 0 14 = 1))), (6, .int (nI (4))), (5, .int (nI (f))), (4, .int (nI (d))), (3, .int (nI (k))), (2, .int (nI (Ns 0 6))), (0, .ref (b 0)), (1, .int (nI (p)))]) E.1 E.2.1 dL_isDelivered_491 hl (by decide) rfl (fun ls hl => ?_)
                            refine W_join0 (G := G) (A := AA) (H0 := sS.heap) (nL := 24) 504 (True) (cW G b ad v pd rv Ns) ([(18, .int (nI (Ns 0 (30 + 14 * d + 0) &&& (15 ^^^ 2 ^ f)))), (17, .int (if Ns 0 (30 + 14 * d + 1) = 0 then nI 4 else -1)), (19, .int (ansF (Ns 0 (30 + 14 * d + 1)))), (16, .int (-1)), (15, .int (-1)), (14, .int (nI (Ns 0 29))), (13, .int (nI (Ns 0 24))), (12, .int (nI (Ns 0 8))), (11, .int (nI (Ns 0 (30 + 14 * d + 5)))), (10, .int (nI (Ns 0 (30 + 14 * d + 4)))), (9, .int (nI (Ns 0 (30 + 14 * d + 1)))), (8, .int (nI (Ns 0 (30 + 14 * d + 0)))), (7, .int (zb (Ns 0 14 = 1))), (6, .int (nI (4))), (5, .int (nI (f))), (4, .int (nI (d))), (3, .int (nI (k))), (2, .int (nI (Ns 0 6))), (0, .ref (b 0)), (1, .int (nI (p)))]) ([.int (nI (if Ns 0 (30 + 14 * d + 1) = 0 then 2 else Ns 0 (30 + 14 * d + 1)))]) (fun jk493 => ?_) ?_
                            · skip
                              refine lv_iload E.1 E.2.1 dL_isDelivered_493 (lv_at hl 10 rfl) ?_
                              refine lv_if_neN (tgt := 502) E.1 E.2.1 (by omega) dL_isDelivered_495 (by decide) (fun c495 => ?_) (fun c495 => ?_)
                              · skip
                                refine lv_iload E.1 E.2.1 dL_isDelivered_502 (lv_at hl 10 rfl) ?_
                                refine lv_eqi (y := nI (if Ns 0 (30 + 14 * d + 1) = 0 then 2 else Ns 0 (30 + 14 * d + 1))) (by rw [if_neg c495]) ?_
                                exact jk493  (trivial) _ _ _ (HB.eq hw (rfl)) (lvh_eq (l := [(18, .int (nI (Ns 0 (30 + 14 * d + 0) &&& (15 ^^^ 2 ^ f)))), (17, .int (if Ns 0 (30 + 14 * d + 1) = 0 then nI 4 else -1)), (19, .int (ansF (Ns 0 (30 + 14 * d + 1)))), (16, .int (-1)), (15, .int (-1)), (14, .int (nI (Ns 0 29))), (13, .int (nI (Ns 0 24))), (12, .int (nI (Ns 0 8))), (11, .int (nI (Ns 0 (30 + 14 * d + 5)))), (10, .int (nI (Ns 0 (30 + 14 * d + 4)))), (9, .int (nI (Ns 0 (30 + 14 * d + 1)))), (8, .int (nI (Ns 0 (30 + 14 * d + 0)))), (7, .int (zb (Ns 0 14 = 1))), (6, .int (nI (4))), (5, .int (nI (f))), (4, .int (nI (d))), (3, .int (nI (k))), (2, .int (nI (Ns 0 6))), (0, .ref (b 0)), (1, .int (nI (p)))]) (lv_sub hl [0, 1, 2, 3, 4, 5, 6, 7, 8, 9, 10, 11, 12, 13, 14, 15, 16, 17, 18, 19] rfl) (rfl))
                              · skip
                                refine lv_iconst (v := nI 2) E.1 E.2.1 dL_isDelivered_498 (by decide) ?_
                                refine lv_goto (tgt := 504) E.1 E.2.1 dL_isDelivered_499 (by decide) ?_
                                refine lv_eqi (y := nI (if Ns 0 (30 + 14 * d + 1) = 0 then 2 else Ns 0 (30 + 14 * d + 1))) (by rw [if_pos c495]) ?_
                                exact jk493  (trivial) _ _ _ (HB.eq hw (rfl)) (lvh_eq (l := [(18, .int (nI (Ns 0 (30 + 14 * d + 0) &&& (15 ^^^ 2 ^ f)))), (17, .int (if Ns 0 (30 + 14 * d + 1) = 0 then nI 4 else -1)), (19, .int (ansF (Ns 0 (30 + 14 * d + 1)))), (16, .int (-1)), (15, .int (-1)), (14, .int (nI (Ns 0 29))), (13, .int (nI (Ns 0 24))), (12, .int (nI (Ns 0 8))), (11, .int (nI (Ns 0 (30 + 14 * d + 5)))), (10, .int (nI (Ns 0 (30 + 14 * d + 4)))), (9, .int (nI (Ns 0 (30 + 14 * d + 1)))), (8, .int (nI (Ns 0 (30 + 14 * d + 0)))), (7, .int (zb (Ns 0 14 = 1))), (6, .int (nI (4))), (5, .int (nI (f))), (4, .int (nI (d))), (3, .int (nI (k))), (2, .int (nI (Ns 0 6))), (0, .ref (b 0)), (1, .int (nI (p)))]) (lv_sub hl [0, 1, 2, 3, 4, 5, 6, 7, 8, 9, 10, 11, 12, 13, 14, 15, 16, 17, 18, 19] rfl) (rfl))
                            · intro  hP493 H locs ls hw hl
                              replace hw : HB G AA sS.heap (cW G b ad v pd rv Ns) H locs := hw
                              replace hl : lv_has ls 24 [(18, .int (nI (Ns 0 (30 + 14 * d + 0) &&& (15 ^^^ 2 ^ f)))), (17, .int (if Ns 0 (30 + 14 * d + 1) = 0 then nI 4 else -1)), (19, .int (ansF (Ns 0 (30 + 14 * d + 1)))), (16, .int (-1)), (15, .int (-1)), (14, .int (nI (Ns 0 29))), (13, .int (nI (Ns 0 24))), (12, .int (nI (Ns 0 8))), (11, .int (nI (Ns 0 (30 + 14 * d + 5)))), (10, .int (nI (Ns 0 (30 + 14 * d + 4)))), (9, .int (nI (Ns 0 (30 + 14 * d + 1)))), (8, .int (nI (Ns 0 (30 + 14 * d + 0)))), (7, .int (zb (Ns 0 14 = 1))), (6, .int (nI (4))), (5, .int (nI (f))), (4, .int (nI (d))), (3, .int (nI (k))), (2, .int (nI (Ns 0 6))), (0, .ref (b 0)), (1, .int (nI (p)))] := hl
                              show W _ _ _ _ _ _ _ _ _ _ _ _ _ _ _ (F0 mM 504 ls [.int (nI (if Ns 0 (30 + 14 * d + 1) = 0 then 2 else Ns 0 (30 + 14 * d + 1)))])
                              refine lv_istore (lv' := [(9, .int (nI (if Ns 0 (30 + 14 * d + 1) = 0 then 2 else Ns 0 (30 + 14 * d + 1)))), (18, .int (nI (Ns 0 (30 + 14 * d + 0) &&& (15 ^^^ 2 ^ f)))), (17, .int (if Ns 0 (30 + 14 * d + 1) = 0 then nI 4 else -1)), (19, .int (ansF (Ns 0 (30 + 14 * d + 1)))), (16, .int (-1)), (15, .int (-1)), (14, .int (nI (Ns 0 29))), (13, .int (nI (Ns 0 24))), (12, .int (nI (Ns 0 8))), (11, .int (nI (Ns 0 (30 + 14 * d + 5)))), (10, .int (nI (Ns 0 (30 + 14 * d + 4)))), (8, .int (nI (Ns 0 (30 + 14 * d + 0)))), (7, .int (zb (Ns 0 14 = 1))), (6, .int (nI (4))), (5, .int (nI (f))), (4, .int (nI (d))), (3, .int (nI (k))), (2, .int (nI (Ns 0 6))), (0, .ref (b 0)), (1, .int (nI (p)))]) E.1 E.2.1 dL_isDelivered_504 hl (by decide) rfl (fun ls hl => ?_)
                              refine lv_goto (tgt := 571) E.1 E.2.1 dL_isDelivered_506 (by decide) ?_
                              exact jk213 (if Ns 0 (30 + 14 * d + 1) = 0 then nI 4 else -1) (Ns 0 (30 + 14 * d + 0) &&& (15 ^^^ 2 ^ f)) (Ns 0 (30 + 14 * d + 4)) (if Ns 0 (30 + 14 * d + 1) = 0 then 2 else Ns 0 (30 + 14 * d + 1)) (Ns 0 (30 + 14 * d + 5)) (dsc_2 (m0.trans c467) m1 m2 m3 (by omega) hF hd8 hf4 rfl rfl) _ _ _ (HB.eq hw (rfl)) (lvh_eq (l := [(17, .int (if Ns 0 (30 + 14 * d + 1) = 0 then nI 4 else -1)), (18, .int (nI (Ns 0 (30 + 14 * d + 0) &&& (15 ^^^ 2 ^ f)))), (10, .int (nI (Ns 0 (30 + 14 * d + 4)))), (9, .int (nI (if Ns 0 (30 + 14 * d + 1) = 0 then 2 else Ns 0 (30 + 14 * d + 1)))), (11, .int (nI (Ns 0 (30 + 14 * d + 5)))), (0, .ref (b 0)), (1, .int (nI (p))), (2, .int (nI (Ns 0 6))), (3, .int (nI (k))), (4, .int (nI (d))), (5, .int (nI (f))), (6, .int (nI (4))), (7, .int (zb (Ns 0 14 = 1))), (8, .int (nI (Ns 0 (30 + 14 * d + 0)))), (12, .int (nI (Ns 0 8))), (13, .int (nI (Ns 0 24))), (14, .int (nI (Ns 0 29)))]) (lv_sub hl [2, 1, 10, 0, 9, 18, 19, 17, 16, 15, 14, 13, 12, 11, 8, 7, 6] rfl) (rfl))
                    · skip
                      refine lv_iload E.1 E.2.1 dL_isDelivered_371 (lv_at hl 9 rfl) ?_
                      refine W_join0 (G := G) (A := AA) (H0 := sS.heap) (nL := 24) 386 (True) (cW G b ad v pd rv Ns) ([(19, .int (ansF (Ns 0 (30 + 14 * d + 1)))), (18, .int (nI (2 ^ f))), (17, .int (-1)), (16, .int (-1)), (15, .int (-1)), (14, .int (nI (Ns 0 29))), (13, .int (nI (Ns 0 24))), (12, .int (nI (Ns 0 8))), (11, .int (nI (Ns 0 (30 + 14 * d + 5)))), (10, .int (nI (Ns 0 (30 + 14 * d + 4)))), (9, .int (nI (Ns 0 (30 + 14 * d + 1)))), (8, .int (nI (Ns 0 (30 + 14 * d + 0)))), (7, .int (zb (Ns 0 14 = 1))), (6, .int (nI (4))), (5, .int (nI (f))), (4, .int (nI (d))), (3, .int (nI (k))), (2, .int (nI (Ns 0 6))), (0, .ref (b 0)), (1, .int (nI (p)))]) ([.int (nI (if Ns 0 (30 + 14 * d + 1) = 0 then 2 ^ f else 0)), .int (nI (Ns 0 (30 + 14 * d + 4)))]) (fun jk373 => ?_) ?_
                      · skip
                        refine lv_iload E.1 E.2.1 dL_isDelivered_373 (lv_at hl 10 rfl) ?_
                        refine lv_if_neN (tgt := 385) E.1 E.2.1 (by omega) dL_isDelivered_375 (by decide) (fun c375 => ?_) (fun c375 => ?_)
                        · skip
                          refine lv_iconst (v := nI 0) E.1 E.2.1 dL_isDelivered_385 (by decide) ?_
                          refine lv_eqi (y := nI (if Ns 0 (30 + 14 * d + 1) = 0 then 2 ^ f else 0)) (by rw [if_neg c375]) ?_
                          exact jk373  (trivial) _ _ _ (HB.eq hw (rfl)) (lvh_eq (l := [(19, .int (ansF (Ns 0 (30 + 14 * d + 1)))), (18, .int (nI (2 ^ f))), (17, .int (-1)), (16, .int (-1)), (15, .int (-1)), (14, .int (nI (Ns 0 29))), (13, .int (nI (Ns 0 24))), (12, .int (nI (Ns 0 8))), (11, .int (nI (Ns 0 (30 + 14 * d + 5)))), (10, .int (nI (Ns 0 (30 + 14 * d + 4)))), (9, .int (nI (Ns 0 (30 + 14 * d + 1)))), (8, .int (nI (Ns 0 (30 + 14 * d + 0)))), (7, .int (zb (Ns 0 14 = 1))), (6, .int (nI (4))), (5, .int (nI (f))), (4, .int (nI (d))), (3, .int (nI (k))), (2, .int (nI (Ns 0 6))), (0, .ref (b 0)), (1, .int (nI (p)))]) (lv_sub hl [0, 1, 2, 3, 4, 5, 6, 7, 8, 9, 10, 11, 12, 13, 14, 15, 16, 17, 18, 19] rfl) (rfl))
                        · skip
                          refine lv_iconst (v := nI 1) E.1 E.2.1 dL_isDelivered_378 (by decide) ?_
                          refine lv_iload E.1 E.2.1 dL_isDelivered_379 (lv_at hl 14 rfl) ?_
                          refine lv_ishl E.1 E.2.1 dL_isDelivered_381 (lv_eqi (y := nI (2 ^ f)) (shl_1 _ (by omega)) ?_)
                          refine lv_goto (tgt := 386) E.1 E.2.1 dL_isDelivered_382 (by decide) ?_
                          refine lv_eqi (y := nI (if Ns 0 (30 + 14 * d + 1) = 0 then 2 ^ f else 0)) (by rw [if_pos c375]) ?_
                          exact jk373  (trivial) _ _ _ (HB.eq hw (rfl)) (lvh_eq (l := [(19, .int (ansF (Ns 0 (30 + 14 * d + 1)))), (18, .int (nI (2 ^ f))), (17, .int (-1)), (16, .int (-1)), (15, .int (-1)), (14, .int (nI (Ns 0 29))), (13, .int (nI (Ns 0 24))), (12, .int (nI (Ns 0 8))), (11, .int (nI (Ns 0 (30 + 14 * d + 5)))), (10, .int (nI (Ns 0 (30 + 14 * d + 4)))), (9, .int (nI (Ns 0 (30 + 14 * d + 1)))), (8, .int (nI (Ns 0 (30 + 14 * d + 0)))), (7, .int (zb (Ns 0 14 = 1))), (6, .int (nI (4))), (5, .int (nI (f))), (4, .int (nI (d))), (3, .int (nI (k))), (2, .int (nI (Ns 0 6))), (0, .ref (b 0)), (1, .int (nI (p)))]) (lv_sub hl [0, 1, 2, 3, 4, 5, 6, 7, 8, 9, 10, 11, 12, 13, 14, 15, 16, 17, 18, 19] rfl) (rfl))
                      · intro  hP373 H locs ls hw hl
                        replace hw : HB G AA sS.heap (cW G b ad v pd rv Ns) H locs := hw
                        replace hl : lv_has ls 24 [(19, .int (ansF (Ns 0 (30 + 14 * d + 1)))), (18, .int (nI (2 ^ f))), (17, .int (-1)), (16, .int (-1)), (15, .int (-1)), (14, .int (nI (Ns 0 29))), (13, .int (nI (Ns 0 24))), (12, .int (nI (Ns 0 8))), (11, .int (nI (Ns 0 (30 + 14 * d + 5)))), (10, .int (nI (Ns 0 (30 + 14 * d + 4)))), (9, .int (nI (Ns 0 (30 + 14 * d + 1)))), (8, .int (nI (Ns 0 (30 + 14 * d + 0)))), (7, .int (zb (Ns 0 14 = 1))), (6, .int (nI (4))), (5, .int (nI (f))), (4, .int (nI (d))), (3, .int (nI (k))), (2, .int (nI (Ns 0 6))), (0, .ref (b 0)), (1, .int (nI (p)))] := hl
                        show W _ _ _ _ _ _ _ _ _ _ _ _ _ _ _ (F0 mM 386 ls [.int (nI (if Ns 0 (30 + 14 * d + 1) = 0 then 2 ^ f else 0)), .int (nI (Ns 0 (30 + 14 * d + 4)))])
                        refine lv_ior E.1 E.2.1 dL_isDelivered_386 (lv_eqi (y := nI (Ns 0 (30 + 14 * d + 4) ||| (if Ns 0 (30 + 14 * d + 1) = 0 then 2 ^ f else 0))) (or_nI _ _) ?_)
                        refine lv_eqi (y := nI (vt1 (Ns 0) d f)) (rfl) ?_
                        refine lv_istore (lv' := [(10, .int (nI (vt1 (Ns 0) d f))), (19, .int (ansF (Ns 0 (30 + 14 * d + 1)))), (18, .int (nI (2 ^ f))), (17, .int (-1)), (16, .int (-1)), (15, .int (-1)), (14, .int (nI (Ns 0 29))), (13, .int (nI (Ns 0 24))), (12, .int (nI (Ns 0 8))), (11, .int (nI (Ns 0 (30 + 14 * d + 5)))), (9, .int (nI (Ns 0 (30 + 14 * d + 1)))), (8, .int (nI (Ns 0 (30 + 14 * d + 0)))), (7, .int (zb (Ns 0 14 = 1))), (6, .int (nI (4))), (5, .int (nI (f))), (4, .int (nI (d))), (3, .int (nI (k))), (2, .int (nI (Ns 0 6))), (0, .ref (b 0)), (1, .int (nI (p)))]) E.1 E.2.1 dL_isDelivered_387 hl (by decide) rfl (fun ls hl => ?_)
                        refine W_join0 (G := G) (A := AA) (H0 := sS.heap) (nL := 24) 406 (True) (cW G b ad v pd rv Ns) ([(10, .int (nI (vt1 (Ns 0) d f))), (19, .int (ansF (Ns 0 (30 + 14 * d + 1)))), (18, .int (nI (2 ^ f))), (17, .int (-1)), (16, .int (-1)), (15, .int (-1)), (14, .int (nI (Ns 0 29))), (13, .int (nI (Ns 0 24))), (12, .int (nI (Ns 0 8))), (11, .int (nI (Ns 0 (30 + 14 * d + 5)))), (9, .int (nI (Ns 0 (30 + 14 * d + 1)))), (8, .int (nI (Ns 0 (30 + 14 * d + 0)))), (7, .int (zb (Ns 0 14 = 1))), (6, .int (nI (4))), (5, .int (nI (f))), (4, .int (nI (d))), (3, .int (nI (k))), (2, .int (nI (Ns 0 6))), (0, .ref (b 0)), (1, .int (nI (p)))]) ([.int (zb (Ns 0 (30 + 14 * d + 1) = 0 ∧ vt1 (Ns 0) d f = Ns 0 (30 + 14 * d + 0)))]) (fun jk389 => ?_) ?_
                        · skip
                          refine lv_iload E.1 E.2.1 dL_isDelivered_389 (lv_at hl 10 rfl) ?_
                          refine lv_if_neN (tgt := 405) E.1 E.2.1 (by omega) dL_isDelivered_391 (by decide) (fun c391 => ?_) (fun c391 => ?_)
                          · skip
                            refine lv_iconst (v := nI 0) E.1 E.2.1 dL_isDelivered_405 (by decide) ?_
                            refine lv_eqi (y := zb (Ns 0 (30 + 14 * d + 1) = 0 ∧ vt1 (Ns 0) d f = Ns 0 (30 + 14 * d + 0))) ((zb_f (fun z => c391 z.1)).symm) ?_
                            exact jk389  (trivial) _ _ _ (HB.eq hw (rfl)) (lvh_eq (l := [(10, .int (nI (vt1 (Ns 0) d f))), (19, .int (ansF (Ns 0 (30 + 14 * d + 1)))), (18, .int (nI (2 ^ f))), (17, .int (-1)), (16, .int (-1)), (15, .int (-1)), (14, .int (nI (Ns 0 29))), (13, .int (nI (Ns 0 24))), (12, .int (nI (Ns 0 8))), (11, .int (nI (Ns 0 (30 + 14 * d + 5)))), (9, .int (nI (Ns 0 (30 + 14 * d + 1)))), (8, .int (nI (Ns 0 (30 + 14 * d + 0)))), (7, .int (zb (Ns 0 14 = 1))), (6, .int (nI (4))), (5, .int (nI (f))), (4, .int (nI (d))), (3, .int (nI (k))), (2, .int (nI (Ns 0 6))), (0, .ref (b 0)), (1, .int (nI (p)))]) (lv_sub hl [0, 1, 2, 3, 4, 5, 6, 7, 8, 9, 10, 11, 12, 13, 14, 15, 16, 17, 18, 19] rfl) (rfl))
                          · skip
                            refine lv_iload E.1 E.2.1 dL_isDelivered_394 (lv_at hl 0 rfl) ?_
                            refine lv_iload E.1 E.2.1 dL_isDelivered_396 (lv_at hl 11 rfl) ?_
                            refine lv_icmp_neN (tgt := 405) E.1 E.2.1 (by omega) (by omega) dL_isDelivered_398 (by decide) (fun c398 => ?_) (fun c398 => ?_)
                            · skip
                              refine lv_iconst (v := nI 0) E.1 E.2.1 dL_isDelivered_405 (by decide) ?_
                              refine lv_eqi (y := zb (Ns 0 (30 + 14 * d + 1) = 0 ∧ vt1 (Ns 0) d f = Ns 0 (30 + 14 * d + 0))) ((zb_f (fun z => c398 z.2)).symm) ?_
                              exact jk389  (trivial) _ _ _ (HB.eq hw (rfl)) (lvh_eq (l := [(10, .int (nI (vt1 (Ns 0) d f))), (19, .int (ansF (Ns 0 (30 + 14 * d + 1)))), (18, .int (nI (2 ^ f))), (17, .int (-1)), (16, .int (-1)), (15, .int (-1)), (14, .int (nI (Ns 0 29))), (13, .int (nI (Ns 0 24))), (12, .int (nI (Ns 0 8))), (11, .int (nI (Ns 0 (30 + 14 * d + 5)))), (9, .int (nI (Ns 0 (30 + 14 * d + 1)))), (8, .int (nI (Ns 0 (30 + 14 * d + 0)))), (7, .int (zb (Ns 0 14 = 1))), (6, .int (nI (4))), (5, .int (nI (f))), (4, .int (nI (d))), (3, .int (nI (k))), (2, .int (nI (Ns 0 6))), (0, .ref (b 0)), (1, .int (nI (p)))]) (lv_sub hl [0, 1, 2, 3, 4, 5, 6, 7, 8, 9, 10, 11, 12, 13, 14, 15, 16, 17, 18, 19] rfl) (rfl))
                            · skip
                              refine lv_iconst (v := nI 1) E.1 E.2.1 dL_isDelivered_401 (by decide) ?_
                              refine lv_goto (tgt := 406) E.1 E.2.1 dL_isDelivered_402 (by decide) ?_
                              refine lv_eqi (y := zb (Ns 0 (30 + 14 * d + 1) = 0 ∧ vt1 (Ns 0) d f = Ns 0 (30 + 14 * d + 0))) ((zb_t (⟨c391, c398⟩)).symm) ?_
                              exact jk389  (trivial) _ _ _ (HB.eq hw (rfl)) (lvh_eq (l := [(10, .int (nI (vt1 (Ns 0) d f))), (19, .int (ansF (Ns 0 (30 + 14 * d + 1)))), (18, .int (nI (2 ^ f))), (17, .int (-1)), (16, .int (-1)), (15, .int (-1)), (14, .int (nI (Ns 0 29))), (13, .int (nI (Ns 0 24))), (12, .int (nI (Ns 0 8))), (11, .int (nI (Ns 0 (30 + 14 * d + 5)))), (9, .int (nI (Ns 0 (30 + 14 * d + 1)))), (8, .int (nI (Ns 0 (30 + 14 * d + 0)))), (7, .int (zb (Ns 0 14 = 1))), (6, .int (nI (4))), (5, .int (nI (f))), (4, .int (nI (d))), (3, .int (nI (k))), (2, .int (nI (Ns 0 6))), (0, .ref (b 0)), (1, .int (nI (p)))]) (lv_sub hl [0, 1, 2, 3, 4, 5, 6, 7, 8, 9, 10, 11, 12, 13, 14, 15, 16, 17, 18, 19] rfl) (rfl))
                        · intro  hP389 H locs ls hw hl
                          replace hw : HB G AA sS.heap (cW G b ad v pd rv Ns) H locs := hw
                          replace hl : lv_has ls 24 [(10, .int (nI (vt1 (Ns 0) d f))), (19, .int (ansF (Ns 0 (30 + 14 * d + 1)))), (18, .int (nI (2 ^ f))), (17, .int (-1)), (16, .int (-1)), (15, .int (-1)), (14, .int (nI (Ns 0 29))), (13, .int (nI (Ns 0 24))), (12, .int (nI (Ns 0 8))), (11, .int (nI (Ns 0 (30 + 14 * d + 5)))), (9, .int (nI (Ns 0 (30 + 14 * d + 1)))), (8, .int (nI (Ns 0 (30 + 14 * d + 0)))), (7, .int (zb (Ns 0 14 = 1))), (6, .int (nI (4))), (5, .int (nI (f))), (4, .int (nI (d))), (3, .int (nI (k))), (2, .int (nI (Ns 0 6))), (0, .ref (b 0)), (1, .int (nI (p)))] := hl
                          show W _ _ _ _ _ _ _ _ _ _ _ _ _ _ _ (F0 mM 406 ls [.int (zb (Ns 0 (30 + 14 * d + 1) = 0 ∧ vt1 (Ns 0) d f = Ns 0 (30 + 14 * d + 0)))])
                          refine lv_istore (lv' := [(20, .int (zb (Ns 0 (30 + 14 * d + 1) = 0 ∧ vt1 (Ns 0) d f = Ns 0 (30 + 14 * d + 0)))), (10, .int (nI (vt1 (Ns 0) d f))), (19, .int (ansF (Ns 0 (30 + 14 * d + 1)))), (18, .int (nI (2 ^ f))), (17, .int (-1)), (16, .int (-1)), (15, .int (-1)), (14, .int (nI (Ns 0 29))), (13, .int (nI (Ns 0 24))), (12, .int (nI (Ns 0 8))), (11, .int (nI (Ns 0 (30 + 14 * d + 5)))), (9, .int (nI (Ns 0 (30 + 14 * d + 1)))), (8, .int (nI (Ns 0 (30 + 14 * d + 0)))), (7, .int (zb (Ns 0 14 = 1))), (6, .int (nI (4))), (5, .int (nI (f))), (4, .int (nI (d))), (3, .int (nI (k))), (2, .int (nI (Ns 0 6))), (0, .ref (b 0)), (1, .int (nI (p)))]) E.1 E.2.1 dL_isDelivered_406 hl (by decide) rfl (fun ls hl => ?_)
                          refine W_join0 (G := G) (A := AA) (H0 := sS.heap) (nL := 24) 428 (True) (cW G b ad v pd rv Ns) ([(20, .int (zb (Ns 0 (30 + 14 * d + 1) = 0 ∧ vt1 (Ns 0) d f = Ns 0 (30 + 14 * d + 0)))), (10, .int (nI (vt1 (Ns 0) d f))), (19, .int (ansF (Ns 0 (30 + 14 * d + 1)))), (18, .int (nI (2 ^ f))), (17, .int (-1)), (16, .int (-1)), (15, .int (-1)), (14, .int (nI (Ns 0 29))), (13, .int (nI (Ns 0 24))), (12, .int (nI (Ns 0 8))), (11, .int (nI (Ns 0 (30 + 14 * d + 5)))), (9, .int (nI (Ns 0 (30 + 14 * d + 1)))), (8, .int (nI (Ns 0 (30 + 14 * d + 0)))), (7, .int (zb (Ns 0 14 = 1))), (6, .int (nI (4))), (5, .int (nI (f))), (4, .int (nI (d))), (3, .int (nI (k))), (2, .int (nI (Ns 0 6))), (0, .ref (b 0)), (1, .int (nI (p)))]) ([.int (if Ns 0 (30 + 14 * d + 1) = 0 then (if vt1 (Ns 0) d f = Ns 0 (30 + 14 * d + 0) then nI 3 else -1) else ansF (Ns 0 (30 + 14 * d + 1)))]) (fun jk408 => ?_) ?_
                          · skip
                            refine lv_iload E.1 E.2.1 dL_isDelivered_408 (lv_at hl 11 rfl) ?_
                            refine lv_if_eqN (tgt := 418) E.1 E.2.1 (by omega) dL_isDelivered_410 (by decide) (fun c410 => ?_) (fun c410 => ?_)
                            · skip
                              refine lv_iload E.1 E.2.1 dL_isDelivered_418 (lv_at hl 0 rfl) ?_
                              refine lv_if_eqB (tgt := 427) E.1 E.2.1 dL_isDelivered_420 (by decide) (fun c420 => ?_) (fun c420 => ?_)
                              · skip
                                refine lv_iconst (v := -1) E.1 E.2.1 dL_isDelivered_427 (by decide) ?_
                                refine lv_eqi (y := if Ns 0 (30 + 14 * d + 1) = 0 then (if vt1 (Ns 0) d f = Ns 0 (30 + 14 * d + 0) then nI 3 else -1) else ansF (Ns 0 (30 + 14 * d + 1))) (by rw [if_pos c410, if_neg (fun z => c420 ⟨c410, z⟩)]) ?_
                                exact jk408  (trivial) _ _ _ (HB.eq hw (rfl)) (lvh_eq (l := [(20, .int (zb (Ns 0 (30 + 14 * d + 1) = 0 ∧ vt1 (Ns 0) d f = Ns 0 (30 + 14 * d + 0)))), (10, .int (nI (vt1 (Ns 0) d f))), (19, .int (ansF (Ns 0 (30 + 14 * d + 1)))), (18, .int (nI (2 ^ f))), (17, .int (-1)), (16, .int (-1)), (15, .int (-1)), (14, .int (nI (Ns 0 29))), (13, .int (nI (Ns 0 24))), (12, .int (nI (Ns 0 8))), (11, .int (nI (Ns 0 (30 + 14 * d + 5)))), (9, .int (nI (Ns 0 (30 + 14 * d + 1)))), (8, .int (nI (Ns 0 (30 + 14 * d + 0)))), (7, .int (zb (Ns 0 14 = 1))), (6, .int (nI (4))), (5, .int (nI (f))), (4, .int (nI (d))), (3, .int (nI (k))), (2, .int (nI (Ns 0 6))), (0, .ref (b 0)), (1, .int (nI (p)))]) (lv_sub hl [0, 1, 2, 3, 4, 5, 6, 7, 8, 9, 10, 11, 12, 13, 14, 15, 16, 17, 18, 19, 20] rfl) (rfl))
                              · skip
                                refine lv_iconst (v := nI 3) E.1 E.2.1 dL_isDelivered_423 (by decide) ?_
                                refine lv_goto (tgt := 428) E.1 E.2.1 dL_isDelivered_424 (by decide) ?_
                                refine lv_eqi (y := if Ns 0 (30 + 14 * d + 1) = 0 then (if vt1 (Ns 0) d f = Ns 0 (30 + 14 * d + 0) then nI 3 else -1) else ansF (Ns 0 (30 + 14 * d + 1))) (by rw [if_pos c420.1, if_pos c420.2]) ?_
                                exact jk408  (trivial) _ _ _ (HB.eq hw (rfl)) (lvh_eq (l := [(20, .int (zb (Ns 0 (30 + 14 * d + 1) = 0 ∧ vt1 (Ns 0) d f = Ns 0 (30 + 14 * d + 0)))), (10, .int (nI (vt1 (Ns 0) d f))), (19, .int (ansF (Ns 0 (30 + 14 * d + 1)))), (18, .int (nI (2 ^ f))), (17, .int (-1)), (16, .int (-1)), (15, .int (-1)), (14, .int (nI (Ns 0 29))), (13, .int (nI (Ns 0 24))), (12, .int (nI (Ns 0 8))), (11, .int (nI (Ns 0 (30 + 14 * d + 5)))), (9, .int (nI (Ns 0 (30 + 14 * d + 1)))), (8, .int (nI (Ns 0 (30 + 14 * d + 0)))), (7, .int (zb (Ns 0 14 = 1))), (6, .int (nI (4))), (5, .int (nI (f))), (4, .int (nI (d))), (3, .int (nI (k))), (2, .int (nI (Ns 0 6))), (0, .ref (b 0)), (1, .int (nI (p)))]) (lv_sub hl [0, 1, 2, 3, 4, 5, 6, 7, 8, 9, 10, 11, 12, 13, 14, 15, 16, 17, 18, 19, 20] rfl) (rfl))
                            · skip
                              refine lv_iload E.1 E.2.1 dL_isDelivered_413 (lv_at hl 2 rfl) ?_
                              refine lv_goto (tgt := 428) E.1 E.2.1 dL_isDelivered_415 (by decide) ?_
                              refine lv_eqi (y := if Ns 0 (30 + 14 * d + 1) = 0 then (if vt1 (Ns 0) d f = Ns 0 (30 + 14 * d + 0) then nI 3 else -1) else ansF (Ns 0 (30 + 14 * d + 1))) (by rw [if_neg c410]) ?_
                              exact jk408  (trivial) _ _ _ (HB.eq hw (rfl)) (lvh_eq (l := [(20, .int (zb (Ns 0 (30 + 14 * d + 1) = 0 ∧ vt1 (Ns 0) d f = Ns 0 (30 + 14 * d + 0)))), (10, .int (nI (vt1 (Ns 0) d f))), (19, .int (ansF (Ns 0 (30 + 14 * d + 1)))), (18, .int (nI (2 ^ f))), (17, .int (-1)), (16, .int (-1)), (15, .int (-1)), (14, .int (nI (Ns 0 29))), (13, .int (nI (Ns 0 24))), (12, .int (nI (Ns 0 8))), (11, .int (nI (Ns 0 (30 + 14 * d + 5)))), (9, .int (nI (Ns 0 (30 + 14 * d + 1)))), (8, .int (nI (Ns 0 (30 + 14 * d + 0)))), (7, .int (zb (Ns 0 14 = 1))), (6, .int (nI (4))), (5, .int (nI (f))), (4, .int (nI (d))), (3, .int (nI (k))), (2, .int (nI (Ns 0 6))), (0, .ref (b 0)), (1, .int (nI (p)))]) (lv_sub hl [0, 1, 2, 3, 4, 5, 6, 7, 8, 9, 10, 11, 12, 13, 14, 15, 16, 17, 18, 19, 20] rfl) (rfl))
                          · intro  hP408 H locs ls hw hl
                            replace hw : HB G AA sS.heap (cW G b ad v pd rv Ns) H locs := hw
                            replace hl : lv_has ls 24 [(20, .int (zb (Ns 0 (30 + 14 * d + 1) = 0 ∧ vt1 (Ns 0) d f = Ns 0 (30 + 14 * d + 0)))), (10, .int (nI (vt1 (Ns 0) d f))), (19, .int (ansF (Ns 0 (30 + 14 * d + 1)))), (18, .int (nI (2 ^ f))), (17, .int (-1)), (16, .int (-1)), (15, .int (-1)), (14, .int (nI (Ns 0 29))), (13, .int (nI (Ns 0 24))), (12, .int (nI (Ns 0 8))), (11, .int (nI (Ns 0 (30 + 14 * d + 5)))), (9, .int (nI (Ns 0 (30 + 14 * d + 1)))), (8, .int (nI (Ns 0 (30 + 14 * d + 0)))), (7, .int (zb (Ns 0 14 = 1))), (6, .int (nI (4))), (5, .int (nI (f))), (4, .int (nI (d))), (3, .int (nI (k))), (2, .int (nI (Ns 0 6))), (0, .ref (b 0)), (1, .int (nI (p)))] := hl
                            show W _ _ _ _ _ _ _ _ _ _ _ _ _ _ _ (F0 mM 428 ls [.int (if Ns 0 (30 + 14 * d + 1) = 0 then (if vt1 (Ns 0) d f = Ns 0 (30 + 14 * d + 0) then nI 3 else -1) else ansF (Ns 0 (30 + 14 * d + 1)))])
                            refine lv_istore (lv' := [(17, .int (if Ns 0 (30 + 14 * d + 1) = 0 then (if vt1 (Ns 0) d f = Ns 0 (30 + 14 * d + 0) then nI 3 else -1) else ansF (Ns 0 (30 + 14 * d + 1)))), (20, .int (zb (Ns 0 (30 + 14 * d + 1) = 0 ∧ vt1 (Ns 0) d f = Ns 0 (30 + 14 * d + 0)))), (10, .int (nI (vt1 (Ns 0) d f))), (19, .int (ansF (Ns 0 (30 + 14 * d + 1)))), (18, .int (nI (2 ^ f))), (16, .int (-1)), (15, .int (-1)), (14, .int (nI (Ns 0 29))), (13, .int (nI (Ns 0 24))), (12, .int (nI (Ns 0 8))), (11, .int (nI (Ns 0 (30 + 14 * d + 5)))), (9, .int (nI (Ns 0 (30 + 14 * d + 1)))), (8, .int (nI (Ns 0 (30 + 14 * d + 0)))), (7, .int (zb (Ns 0 14 = 1))), (6, .int (nI (4))), (5, .int (nI (f))), (4, .int (nI (d))), (3, .int (nI (k))), (2, .int (nI (Ns 0 6))), (0, .ref (b 0)), (1, .int (nI (p)))]) E.1 E.2.1 dL_isDelivered_428 hl (by decide) rfl (fun ls hl => ?_)
                            refine W_join0 (G := G) (A := AA) (H0 := sS.heap) (nL := 24) 442 (True) (cW G b ad v pd rv Ns) ([(17, .int (if Ns 0 (30 + 14 * d + 1) = 0 then (if vt1 (Ns 0) d f = Ns 0 (30 + 14 * d + 0) then nI 3 else -1) else ansF (Ns 0 (30 + 14 * d + 1)))), (20, .int (zb (Ns 0 (30 + 14 * d + 1) = 0 ∧ vt1 (Ns 0) d f = Ns 0 (30 + 14 * d + 0)))), (10, .int (nI (vt1 (Ns 0) d f))), (19, .int (ansF (Ns 0 (30 + 14 * d + 1)))), (18, .int (nI (2 ^ f))), (16, .int (-1)), (15, .int (-1)), (14, .int (nI (Ns 0 29))), (13, .int (nI (Ns 0 24))), (12, .int (nI (Ns 0 8))), (11, .int (nI (Ns 0 (30 + 14 * d + 5)))), (9, .int (nI (Ns 0 (30 + 14 * d + 1)))), (8, .int (nI (Ns 0 (30 + 14 * d + 0)))), (7, .int (zb (Ns 0 14 = 1))), (6, .int (nI (4))), (5, .int (nI (f))), (4, .int (nI (d))), (3, .int (nI (k))), (2, .int (nI (Ns 0 6))), (0, .ref (b 0)), (1, .int (nI (p)))]) ([.int (nI (if Ns 0 (30 + 14 * d + 1) = 0 ∧ vt1 (Ns 0) d f = Ns 0 (30 + 14 * d + 0) then Ns 0 (30 + 14 * d + 0) else 2 ^ f))]) (fun jk430 => ?_) ?_
                            · skip
                              refine lv_iload E.1 E.2.1 dL_isDelivered_430 (lv_at hl 1 rfl) ?_
                              refine lv_if_eqB (tgt := 440) E.1 E.2.1 dL_isDelivered_432 (by decide) (fun c432 => ?_) (fun c432 => ?_)
                              · skip
                                refine lv_iload E.1 E.2.1 dL_isDelivered_440 (lv_at hl 4 rfl) ?_
                                refine lv_eqi (y := nI (if Ns 0 (30 + 14 * d + 1) = 0 ∧ vt1 (Ns 0) d f = Ns 0 (30 + 14 * d + 0) then Ns 0 (30 + 14 * d + 0) else 2 ^ f)) (by rw [if_neg c432]) ?_
                                exact jk430  (trivial) _ _ _ (HB.eq hw (rfl)) (lvh_eq (l := [(17, .int (if Ns 0 (30 + 14 * d + 1) = 0 then (if vt1 (Ns 0) d f = Ns 0 (30 + 14 * d + 0) then nI 3 else -1) else ansF (Ns 0 (30 + 14 * d + 1)))), (20, .int (zb (Ns 0 (30 + 14 * d + 1) = 0 ∧ vt1 (Ns 0) d f = Ns 0 (30 + 14 * d + 0)))), (10, .int (nI (vt1 (Ns 0) d f))), (19, .int (ansF (Ns 0 (30 + 14 * d + 1)))), (18, .int (nI (2 ^ f))), (16, .int (-1)), (15, .int (-1)), (14, .int (nI (Ns 0 29))), (13, .int (nI (Ns 0 24))), (12, .int (nI (Ns 0 8))), (11, .int (nI (Ns 0 (30 + 14 * d + 5)))), (9, .int (nI (Ns 0 (30 + 14 * d + 1)))), (8, .int (nI (Ns 0 (30 + 14 * d + 0)))), (7, .int (zb (Ns 0 14 = 1))), (6, .int (nI (4))), (5, .int (nI (f))), (4, .int (nI (d))), (3, .int (nI (k))), (2, .int (nI (Ns 0 6))), (0, .ref (b 0)), (1, .int (nI (p)))]) (lv_sub hl [0, 1, 2, 3, 4, 5, 6, 7, 8, 9, 10, 11, 12, 13, 14, 15, 16, 17, 18, 19, 20] rfl) (rfl))
                              · skip
                                refine lv_iload E.1 E.2.1 dL_isDelivered_435 (lv_at hl 12 rfl) ?_
                                refine lv_goto (tgt := 442) E.1 E.2.1 dL_isDelivered_437 (by decide) ?_
                                refine lv_eqi (y := nI (if Ns 0 (30 + 14 * d + 1) = 0 ∧ vt1 (Ns 0) d f = Ns 0 (30 + 14 * d + 0) then Ns 0 (30 + 14 * d + 0) else 2 ^ f)) (by rw [if_pos c432]) ?_
                                exact jk430  (trivial) _ _ _ (HB.eq hw (rfl)) (lvh_eq (l := [(17, .int (if Ns 0 (30 + 14 * d + 1) = 0 then (if vt1 (Ns 0) d f = Ns 0 (30 + 14 * d + 0) then nI 3 else -1) else ansF (Ns 0 (30 + 14 * d + 1)))), (20, .int (zb (Ns 0 (30 + 14 * d + 1) = 0 ∧ vt1 (Ns 0) d f = Ns 0 (30 + 14 * d + 0)))), (10, .int (nI (vt1 (Ns 0) d f))), (19, .int (ansF (Ns 0 (30 + 14 * d + 1)))), (18, .int (nI (2 ^ f))), (16, .int (-1)), (15, .int (-1)), (14, .int (nI (Ns 0 29))), (13, .int (nI (Ns 0 24))), (12, .int (nI (Ns 0 8))), (11, .int (nI (Ns 0 (30 + 14 * d + 5)))), (9, .int (nI (Ns 0 (30 + 14 * d + 1)))), (8, .int (nI (Ns 0 (30 + 14 * d + 0)))), (7, .int (zb (Ns 0 14 = 1))), (6, .int (nI (4))), (5, .int (nI (f))), (4, .int (nI (d))), (3, .int (nI (k))), (2, .int (nI (Ns 0 6))), (0, .ref (b 0)), (1, .int (nI (p)))]) (lv_sub hl [0, 1, 2, 3, 4, 5, 6, 7, 8, 9, 10, 11, 12, 13, 14, 15, 16, 17, 18, 19, 20] rfl) (rfl))
                            · intro  hP430 H locs ls hw hl
                              replace hw : HB G AA sS.heap (cW G b ad v pd rv Ns) H locs := hw
                              replace hl : lv_has ls 24 [(17, .int (if Ns 0 (30 + 14 * d + 1) = 0 then (if vt1 (Ns 0) d f = Ns 0 (30 + 14 * d + 0) then nI 3 else -1) else ansF (Ns 0 (30 + 14 * d + 1)))), (20, .int (zb (Ns 0 (30 + 14 * d + 1) = 0 ∧ vt1 (Ns 0) d f = Ns 0 (30 + 14 * d + 0)))), (10, .int (nI (vt1 (Ns 0) d f))), (19, .int (ansF (Ns 0 (30 + 14 * d + 1)))), (18, .int (nI (2 ^ f))), (16, .int (-1)), (15, .int (-1)), (14, .int (nI (Ns 0 29))), (13, .int (nI (Ns 0 24))), (12, .int (nI (Ns 0 8))), (11, .int (nI (Ns 0 (30 + 14 * d + 5)))), (9, .int (nI (Ns 0 (30 + 14 * d + 1)))), (8, .int (nI (Ns 0 (30 + 14 * d + 0)))), (7, .int (zb (Ns 0 14 = 1))), (6, .int (nI (4))), (5, .int (nI (f))), (4, .int (nI (d))), (3, .int (nI (k))), (2, .int (nI (Ns 0 6))), (0, .ref (b 0)), (1, .int (nI (p)))] := hl
                              show W _ _ _ _ _ _ _ _ _ _ _ _ _ _ _ (F0 mM 442 ls [.int (nI (if Ns 0 (30 + 14 * d + 1) = 0 ∧ vt1 (Ns 0) d f = Ns 0 (30 + 14 * d + 0) then Ns 0 (30 + 14 * d + 0) else 2 ^ f))])
                              refine lv_istore (lv' := [(18, .int (nI (if Ns 0 (30 + 14 * d + 1) = 0 ∧ vt1 (Ns 0) d f = Ns 0 (30 + 14 * d + 0) then Ns 0 (30 + 14 * d + 0) else 2 ^ f))), (17, .int (if Ns 0 (30 + 14 * d + 1) = 0 then (if vt1 (Ns 0) d f = Ns 0 (30 + 14 * d + 0) then nI 3 else -1) else ansF (Ns 0 (30 + 14 * d + 1)))), (20, .int (zb (Ns 0 (30 + 14 * d + 1) = 0 ∧ vt1 (Ns 0) d f = Ns 0 (30 + 14 * d + 0)))), (10, .int (nI (vt1 (Ns 0) d f))), (19, .int (ansF (Ns 0 (30 + 14 * d + 1)))), (16, .int (-1)), (15, .int (-1)), (14, .int (nI (Ns 0 29))), (13, .int (nI (Ns 0 24))), (12, .int (nI (Ns 0 8))), (11, .int (nI (Ns 0 (30 + 14 * d + 5)))), (9, .int (nI (Ns 0 (30 + 14 * d + 1)))), (8, .int (nI (Ns 0 (30 + 14 * d + 0)))), (7, .int (zb (Ns 0 14 = 1))), (6, .int (nI (4))), (5, .int (nI (f))), (4, .int (nI (d))), (3, .int (nI (k))), (2, .int (nI (Ns 0 6))), (0, .ref (b 0)), (1, .int (nI (p)))]) E.1 E.2.1 dL_isDelivered_442 hl (by decide) rfl (fun ls hl => ?_)
                              refine W_join0 (G := G) (A := AA) (H0 := sS.heap) (nL := 24) 455 (True) (cW G b ad v pd rv Ns) ([(18, .int (nI (if Ns 0 (30 + 14 * d + 1) = 0 ∧ vt1 (Ns 0) d f = Ns 0 (30 + 14 * d + 0) then Ns 0 (30 + 14 * d + 0) else 2 ^ f))), (17, .int (if Ns 0 (30 + 14 * d + 1) = 0 then (if vt1 (Ns 0) d f = Ns 0 (30 + 14 * d + 0) then nI 3 else -1) else ansF (Ns 0 (30 + 14 * d + 1)))), (20, .int (zb (Ns 0 (30 + 14 * d + 1) = 0 ∧ vt1 (Ns 0) d f = Ns 0 (30 + 14 * d + 0)))), (10, .int (nI (vt1 (Ns 0) d f))), (19, .int (ansF (Ns 0 (30 + 14 * d + 1)))), (16, .int (-1)), (15, .int (-1)), (14, .int (nI (Ns 0 29))), (13, .int (nI (Ns 0 24))), (12, .int (nI (Ns 0 8))), (11, .int (nI (Ns 0 (30 + 14 * d + 5)))), (9, .int (nI (Ns 0 (30 + 14 * d + 1)))), (8, .int (nI (Ns 0 (30 + 14 * d + 0)))), (7, .int (zb (Ns 0 14 = 1))), (6, .int (nI (4))), (5, .int (nI (f))), (4, .int (nI (d))), (3, .int (nI (k))), (2, .int (nI (Ns 0 6))), (0, .ref (b 0)), (1, .int (nI (p)))]) ([.int (nI (if Ns 0 (30 + 14 * d + 1) = 0 ∧ vt1 (Ns 0) d f = Ns 0 (30 + 14 * d + 0) then 1 else Ns 0 (30 + 14 * d + 1)))]) (fun jk444 => ?_) ?_
                              · skip
                                refine lv_iload E.1 E.2.1 dL_isDelivered_444 (lv_at hl 2 rfl) ?_
                                refine lv_if_eqB (tgt := 453) E.1 E.2.1 dL_isDelivered_446 (by decide) (fun c446 => ?_) (fun c446 => ?_)
                                · skip
                                  refine lv_iload E.1 E.2.1 dL_isDelivered_453 (lv_at hl 11 rfl) ?_
                                  refine lv_eqi (y := nI (if Ns 0 (30 + 14 * d + 1) = 0 ∧ vt1 (Ns 0) d f = Ns 0 (30 + 14 * d + 0) then 1 else Ns 0 (30 + 14 * d + 1))) (by rw [if_neg c446]) ?_
                                  exact jk444  (trivial) _ _ _ (HB.eq hw (rfl)) (lvh_eq (l := [(18, .int (nI (if Ns 0 (30 + 14 * d + 1) = 0 ∧ vt1 (Ns 0) d f = Ns 0 (30 + 14 * d + 0) then Ns 0 (30 + 14 * d + 0) else 2 ^ f))), (17, .int (if Ns 0 (30 + 14 * d + 1) = 0 then (if vt1 (Ns 0) d f = Ns 0 (30 + 14 * d + 0) then nI 3 else -1) else ansF (Ns 0 (30 + 14 * d + 1)))), (20, .int (zb (Ns 0 (30 + 14 * d + 1) = 0 ∧ vt1 (Ns 0) d f = Ns 0 (30 + 14 * d + 0)))), (10, .int (nI (vt1 (Ns 0) d f))), (19, .int (ansF (Ns 0 (30 + 14 * d + 1)))), (16, .int (-1)), (15, .int (-1)), (14, .int (nI (Ns 0 29))), (13, .int (nI (Ns 0 24))), (12, .int (nI (Ns 0 8))), (11, .int (nI (Ns 0 (30 + 14 * d + 5)))), (9, .int (nI (Ns 0 (30 + 14 * d + 1)))), (8, .int (nI (Ns 0 (30 + 14 * d + 0)))), (7, .int (zb (Ns 0 14 = 1))), (6, .int (nI (4))), (5, .int (nI (f))), (4, .int (nI (d))), (3, .int (nI (k))), (2, .int (nI (Ns 0 6))), (0, .ref (b 0)), (1, .int (nI (p)))]) (lv_sub hl [0, 1, 2, 3, 4, 5, 6, 7, 8, 9, 10, 11, 12, 13, 14, 15, 16, 17, 18, 19, 20] rfl) (rfl))
                                · skip
                                  refine lv_iconst (v := nI 1) E.1 E.2.1 dL_isDelivered_449 (by decide) ?_
                                  refine lv_goto (tgt := 455) E.1 E.2.1 dL_isDelivered_450 (by decide) ?_
                                  refine lv_eqi (y := nI (if Ns 0 (30 + 14 * d + 1) = 0 ∧ vt1 (Ns 0) d f = Ns 0 (30 + 14 * d + 0) then 1 else Ns 0 (30 + 14 * d + 1))) (by rw [if_pos c446]) ?_
                                  exact jk444  (trivial) _ _ _ (HB.eq hw (rfl)) (lvh_eq (l := [(18, .int (nI (if Ns 0 (30 + 14 * d + 1) = 0 ∧ vt1 (Ns 0) d f = Ns 0 (30 + 14 * d + 0) then Ns 0 (30 + 14 * d + 0) else 2 ^ f))), (17, .int (if Ns 0 (30 + 14 * d + 1) = 0 then (if vt1 (Ns 0) d f = Ns 0 (30 + 14 * d + 0) then nI 3 else -1) else ansF (Ns 0 (30 + 14 * d + 1)))), (20, .int (zb (Ns 0 (30 + 14 * d + 1) = 0 ∧ vt1 (Ns 0) d f = Ns 0 (30 + 14 * d + 0)))), (10, .int (nI (vt1 (Ns 0) d f))), (19, .int (ansF (Ns 0 (30 + 14 * d + 1)))), (16, .int (-1)), (15, .int (-1)), (14, .int (nI (Ns 0 29))), (13, .int (nI (Ns 0 24))), (12, .int (nI (Ns 0 8))), (11, .int (nI (Ns 0 (30 + 14 * d + 5)))), (9, .int (nI (Ns 0 (30 + 14 * d + 1)))), (8, .int (nI (Ns 0 (30 + 14 * d + 0)))), (7, .int (zb (Ns 0 14 = 1))), (6, .int (nI (4))), (5, .int (nI (f))), (4, .int (nI (d))), (3, .int (nI (k))), (2, .int (nI (Ns 0 6))), (0, .ref (b 0)), (1, .int (nI (p)))]) (lv_sub hl [0, 1, 2, 3, 4, 5, 6, 7, 8, 9, 10, 11, 12, 13, 14, 15, 16, 17, 18, 19, 20] rfl) (rfl))
                              · intro  hP444 H locs ls hw hl
                                replace hw : HB G AA sS.heap (cW G b ad v pd rv Ns) H locs := hw
                                replace hl : lv_has ls 24 [(18, .int (nI (if Ns 0 (30 + 14 * d + 1) = 0 ∧ vt1 (Ns 0) d f = Ns 0 (30 + 14 * d + 0) then Ns 0 (30 + 14 * d + 0) else 2 ^ f))), (17, .int (if Ns 0 (30 + 14 * d + 1) = 0 then (if vt1 (Ns 0) d f = Ns 0 (30 + 14 * d + 0) then nI 3 else -1) else ansF (Ns 0 (30 + 14 * d + 1)))), (20, .int (zb (Ns 0 (30 + 14 * d + 1) = 0 ∧ vt1 (Ns 0) d f = Ns 0 (30 + 14 * d + 0)))), (10, .int (nI (vt1 (Ns 0) d f))), (19, .int (ansF (Ns 0 (30 + 14 * d + 1)))), (16, .int (-1)), (15, .int (-1)), (14, .int (nI (Ns 0 29))), (13, .int (nI (Ns 0 24))), (12, .int (nI (Ns 0 8))), (11, .int (nI (Ns 0 (30 + 14 * d + 5)))), (9, .int (nI (Ns 0 (30 + 14 * d + 1)))), (8, .int (nI (Ns 0 (30 + 14 * d + 0)))), (7, .int (zb (Ns 0 14 = 1))), (6, .int (nI (4))), (5, .int (nI (f))), (4, .int (nI (d))), (3, .int (nI (k))), (2, .int (nI (Ns 0 6))), (0, .ref (b 0)), (1, .int (nI (p)))] := hl
                                show W _ _ _ _ _ _ _ _ _ _ _ _ _ _ _ (F0 mM 455 ls [.int (nI (if Ns 0 (30 + 14 * d + 1) = 0 ∧ vt1 (Ns 0) d f = Ns 0 (30 + 14 * d + 0) then 1 else Ns 0 (30 + 14 * d + 1)))])
                                refine lv_istore (lv' := [(9, .int (nI (if Ns 0 (30 + 14 * d + 1) = 0 ∧ vt1 (Ns 0) d f = Ns 0 (30 + 14 * d + 0) then 1 else Ns 0 (30 + 14 * d + 1)))), (18, .int (nI (if Ns 0 (30 + 14 * d + 1) = 0 ∧ vt1 (Ns 0) d f = Ns 0 (30 + 14 * d + 0) then Ns 0 (30 + 14 * d + 0) else 2 ^ f))), (17, .int (if Ns 0 (30 + 14 * d + 1) = 0 then (if vt1 (Ns 0) d f = Ns 0 (30 + 14 * d + 0) then nI 3 else -1) else ansF (Ns 0 (30 + 14 * d + 1)))), (20, .int (zb (Ns 0 (30 + 14 * d + 1) = 0 ∧ vt1 (Ns 0) d f = Ns 0 (30 + 14 * d + 0)))), (10, .int (nI (vt1 (Ns 0) d f))), (19, .int (ansF (Ns 0 (30 + 14 * d + 1)))), (16, .int (-1)), (15, .int (-1)), (14, .int (nI (Ns 0 29))), (13, .int (nI (Ns 0 24))), (12, .int (nI (Ns 0 8))), (11, .int (nI (Ns 0 (30 + 14 * d + 5)))), (8, .int (nI (Ns 0 (30 + 14 * d + 0)))), (7, .int (zb (Ns 0 14 = 1))), (6, .int (nI (4))), (5, .int (nI (f))), (4, .int (nI (d))), (3, .int (nI (k))), (2, .int (nI (Ns 0 6))), (0, .ref (b 0)), (1, .int (nI (p)))]) E.1 E.2.1 dL_isDelivered_455 hl (by decide) rfl (fun ls hl => ?_)
                                refine lv_goto (tgt := 571) E.1 E.2.1 dL_isDelivered_457 (by decide) ?_
                                exact jk213 (if Ns 0 (30 + 14 * d + 1) = 0 then (if vt1 (Ns 0) d f = Ns 0 (30 + 14 * d + 0) then nI 3 else -1) else ansF (Ns 0 (30 + 14 * d + 1))) (if Ns 0 (30 + 14 * d + 1) = 0 ∧ vt1 (Ns 0) d f = Ns 0 (30 + 14 * d + 0) then Ns 0 (30 + 14 * d + 0) else 2 ^ f) (vt1 (Ns 0) d f) (if Ns 0 (30 + 14 * d + 1) = 0 ∧ vt1 (Ns 0) d f = Ns 0 (30 + 14 * d + 0) then 1 else Ns 0 (30 + 14 * d + 1)) (Ns 0 (30 + 14 * d + 5)) (dsc_1 (m0.trans c368) m1 m2 m3 (by omega) hF hd8 hf4 rfl rfl rfl) _ _ _ (HB.eq hw (rfl)) (lvh_eq (l := [(17, .int (if Ns 0 (30 + 14 * d + 1) = 0 then (if vt1 (Ns 0) d f = Ns 0 (30 + 14 * d + 0) then nI 3 else -1) else ansF (Ns 0 (30 + 14 * d + 1)))), (18, .int (nI (if Ns 0 (30 + 14 * d + 1) = 0 ∧ vt1 (Ns 0) d f = Ns 0 (30 + 14 * d + 0) then Ns 0 (30 + 14 * d + 0) else 2 ^ f))), (10, .int (nI (vt1 (Ns 0) d f))), (9, .int (nI (if Ns 0 (30 + 14 * d + 1) = 0 ∧ vt1 (Ns 0) d f = Ns 0 (30 + 14 * d + 0) then 1 else Ns 0 (30 + 14 * d + 1)))), (11, .int (nI (Ns 0 (30 + 14 * d + 5)))), (0, .ref (b 0)), (1, .int (nI (p))), (2, .int (nI (Ns 0 6))), (3, .int (nI (k))), (4, .int (nI (d))), (5, .int (nI (f))), (6, .int (nI (4))), (7, .int (zb (Ns 0 14 = 1))), (8, .int (nI (Ns 0 (30 + 14 * d + 0)))), (12, .int (nI (Ns 0 8))), (13, .int (nI (Ns 0 24))), (14, .int (nI (Ns 0 29)))]) (lv_sub hl [2, 1, 4, 0, 11, 19, 20, 18, 17, 16, 15, 14, 13, 12, 10, 9, 8] rfl) (rfl))
                · exact absurd c221 (by decide)
            · intro sd ck vt st rc hP213 H locs ls hw hl
              replace hw : HB G AA sS.heap (cW G b ad v pd rv Ns) H locs := hw
              replace hl : lv_has ls 24 [(17, .int (sd)), (18, .int (nI (ck))), (10, .int (nI (vt))), (9, .int (nI (st))), (11, .int (nI (rc))), (0, .ref (b 0)), (1, .int (nI (p))), (2, .int (nI (Ns 0 6))), (3, .int (nI (k))), (4, .int (nI (d))), (5, .int (nI (f))), (6, .int (nI (4))), (7, .int (zb (Ns 0 14 = 1))), (8, .int (nI (Ns 0 (30 + 14 * d + 0)))), (12, .int (nI (Ns 0 8))), (13, .int (nI (Ns 0 24))), (14, .int (nI (Ns 0 29)))] := hl
              show W _ _ _ _ _ _ _ _ _ _ _ _ _ _ _ (F0 mM 571 ls [])
              replace hP213 : DSc (Ns 0) p d sd ck vt st rc := hP213
              obtain ⟨⟨hvt, hst, hrc⟩, M, hb, g1, g4, g5, hs⟩ := hP213
              rcases hs with ⟨hsd, hM⟩ | ⟨q, hq7, hsd, hck, hM⟩
              · skip
                subst hsd
                refine lv_aload_n E.1 E.2.1 dL_isDelivered_571 rfl (lv_at hl 5 rfl) ?_
                refine lv_iload_n E.1 E.2.1 dL_isDelivered_572 rfl (lv_at hl 6 rfl) ?_
                refine callVIp E (c_X3_deliver_ok l G b ad v pd rv Ns nx u hx0 hnx hu0 hu6 p hp hI) ES.eb (fun _ _ _ => trivial) mn_14_0 YX3_deliver ⟨rfl, rfl⟩ ⟨Nat.le_of_ble_eq_true rfl, Nat.le_of_ble_eq_true rfl⟩ ⟨Nat.le_of_ble_eq_true rfl, Nat.le_of_ble_eq_true rfl⟩ hw (rr := []) (big' := cW G b ad (recV nx u v) pd rv (va_up (va_up (Ns) (2 + nx) (Ns 0)) 0 (mDlv p (Ns 0)))) (by rw [List.append_nil]) (by rw [List.append_nil]) 0 rfl rfl rfl hl rfl (Nat.le_of_ble_eq_true rfl) dL_isDelivered_573 (fun H locs hw => ?_)
                obtain ⟨Ms, vs, e0, hcv2, hw⟩ : ∃ (Ms : Nat → NS) (vs : Nat → Int32), Ms 0 = mDlv p (Ns 0) ∧ CV vs ∧ HB G AA sS.heap (cW G b ad vs pd rv Ms) H locs := ⟨_, _, va_up_self _ _ _, CV.rec hnx hu6, hw⟩
                have hI2 : Inv (Ms 0) := by rw [e0]; exact hI.dlv hp
                have hDV2 : dvI (Ms 0) 5 = Ms 0 7 := by rw [e0]; exact (DV.dlv hDV (hI.2.1 p hp).2.2.2.1).1
                have hF2 := hI2.1
                have hm2 := hI2.hm
                have e1 : mDlv p (Ns 0) = Ms 0 := e0.symm
                refine lv_eqi (y := nI (Ms 0 6)) (by rw [e0]) ?_
                refine lv_istore (lv' := [(20, .int (nI (Ms 0 6))), (17, .int (-1)), (18, .int (nI (ck))), (10, .int (nI (vt))), (9, .int (nI (st))), (11, .int (nI (rc))), (0, .ref (b 0)), (1, .int (nI (p))), (2, .int (nI (Ns 0 6))), (3, .int (nI (k))), (4, .int (nI (d))), (5, .int (nI (f))), (6, .int (nI (4))), (7, .int (zb (Ns 0 14 = 1))), (8, .int (nI (Ns 0 (30 + 14 * d + 0)))), (12, .int (nI (Ns 0 8))), (13, .int (nI (Ns 0 24))), (14, .int (nI (Ns 0 29)))]) E.1 E.2.1 dL_isDelivered_576 hl (by decide) rfl (fun ls hl => ?_)
                refine lv_iconst (v := nI 0) E.1 E.2.1 dL_isDelivered_578 (by decide) ?_
                refine lv_istore (lv' := [(21, .int (nI (0))), (20, .int (nI (Ms 0 6))), (17, .int (-1)), (18, .int (nI (ck))), (10, .int (nI (vt))), (9, .int (nI (st))), (11, .int (nI (rc))), (0, .ref (b 0)), (1, .int (nI (p))), (2, .int (nI (Ns 0 6))), (3, .int (nI (k))), (4, .int (nI (d))), (5, .int (nI (f))), (6, .int (nI (4))), (7, .int (zb (Ns 0 14 = 1))), (8, .int (nI (Ns 0 (30 + 14 * d + 0)))), (12, .int (nI (Ns 0 8))), (13, .int (nI (Ns 0 24))), (14, .int (nI (Ns 0 29)))]) E.1 E.2.1 dL_isDelivered_579 hl (by decide) rfl (fun ls hl => ?_)
                have hX := e0.trans hM
                have r1 := hF2.f1 (d := d) hd8
                have r4 := hF2.f4 (d := d) hd8
                have r5 := hF2.f5 (d := d) hd8
                have k6 : Ms 0 6 = Ns 0 6 - 1 := by rw [hX]; exact hb.1
                have k20 : Ms 0 24 + Ns 0 14 = Ns 0 24 + 1 := by rw [hX]; exact hb.2.2.1
                have k25 : Ms 0 29 = Ns 0 29 := by rw [hX]; exact hb.2.2.2.1
                have k8 : Ms 0 8 = Ns 0 8 + Ns 0 14 := by rw [hX]; exact hb.2.1
                have k5 : Ms 0 5 = Ns 0 5 := by rw [hX]; exact hb.2.2.2.2
                have k1 : Ms 0 (30 + 14 * d + 1) = st := by rw [hX]; exact g1
                have k4 : Ms 0 (30 + 14 * d + 4) = vt := by rw [hX]; exact g4
                have kr : Ms 0 (30 + 14 * d + 5) = rc := by rw [hX]; exact g5
                refine lv_iload E.1 E.2.1 dL_isDelivered_581 (lv_at hl 2 rfl) ?_
                refine lv_if_lt (tgt := 611) E.1 E.2.1 dL_isDelivered_583 (by decide) (fun c583 => ?_) (fun c583 => ?_)
                · skip
                  refine lv_iload E.1 E.2.1 dL_isDelivered_611 (lv_at hl 2 rfl) ?_
                  refine lv_if_lt (tgt := 655) E.1 E.2.1 dL_isDelivered_613 (by decide) (fun c613 => ?_) (fun c613 => ?_)
                  · skip
                    refine lv_iload E.1 E.2.1 dL_isDelivered_655 (lv_at hl 0 rfl) ?_
                    refine lv_if_geN (tgt := 662) E.1 E.2.1 (by omega) dL_isDelivered_657 (by decide) (fun c657 => ?_) (fun c657 => ?_)
                    · skip
                      refine W_join0 (G := G) (A := AA) (H0 := sS.heap) (nL := 24) 686 (True) (cW G b ad vs pd rv Ms) ([(21, .int (nI (0))), (20, .int (nI (Ms 0 6))), (17, .int (-1)), (18, .int (nI (ck))), (10, .int (nI (vt))), (9, .int (nI (st))), (11, .int (nI (rc))), (0, .ref (b 0)), (1, .int (nI (p))), (2, .int (nI (Ns 0 6))), (3, .int (nI (k))), (4, .int (nI (d))), (5, .int (nI (f))), (6, .int (nI (4))), (7, .int (zb (Ns 0 14 = 1))), (8, .int (nI (Ns 0 (30 + 14 * d + 0)))), (12, .int (nI (Ns 0 8))), (13, .int (nI (Ns 0 24))), (14, .int (nI (Ns 0 29)))]) ([.int (nI (Ns 0 6 - 1 + 0 - 60))]) (fun jk662 => ?_) ?_
                      · skip
                        refine lv_iload_n E.1 E.2.1 dL_isDelivered_662 rfl (lv_at hl 9 rfl) ?_
                        refine lv_iconst (v := nI 1) E.1 E.2.1 dL_isDelivered_663 (by decide) ?_
                        refine lv_subN E.1 E.2.1 (by omega) dL_isDelivered_664 ?_
                        refine lv_iload E.1 E.2.1 dL_isDelivered_665 (lv_at hl 0 rfl) ?_
                        refine lv_addN E.1 E.2.1 dL_isDelivered_667 ?_
                        refine lv_bipush (v := nI 60) E.1 E.2.1 dL_isDelivered_668 (by decide) ?_
                        refine lv_icmp_leN (tgt := 685) E.1 E.2.1 (by omega) (by omega) dL_isDelivered_670 (by decide) (fun c670 => ?_) (fun c670 => ?_)
                        · skip
                          refine lv_iconst (v := nI 0) E.1 E.2.1 dL_isDelivered_685 (by decide) ?_
                          refine lv_eqi (y := nI (Ns 0 6 - 1 + 0 - 60)) (by rw [show Ns 0 6 - 1 + 0 - 60 = 0 by omega]) ?_
                          exact jk662  (trivial) _ _ _ (HB.eq hw (rfl)) (lvh_eq (l := [(21, .int (nI (0))), (20, .int (nI (Ms 0 6))), (17, .int (-1)), (18, .int (nI (ck))), (10, .int (nI (vt))), (9, .int (nI (st))), (11, .int (nI (rc))), (0, .ref (b 0)), (1, .int (nI (p))), (2, .int (nI (Ns 0 6))), (3, .int (nI (k))), (4, .int (nI (d))), (5, .int (nI (f))), (6, .int (nI (4))), (7, .int (zb (Ns 0 14 = 1))), (8, .int (nI (Ns 0 (30 + 14 * d + 0)))), (12, .int (nI (Ns 0 8))), (13, .int (nI (Ns 0 24))), (14, .int (nI (Ns 0 29)))]) (lv_sub hl [0, 1, 2, 3, 4, 5, 6, 7, 8, 9, 10, 11, 12, 13, 14, 15, 16, 17, 18] rfl) (rfl))
                        · skip
                          refine lv_iload_n E.1 E.2.1 dL_isDelivered_673 rfl (lv_at hl 9 rfl) ?_
                          refine lv_iconst (v := nI 1) E.1 E.2.1 dL_isDelivered_674 (by decide) ?_
                          refine lv_subN E.1 E.2.1 (by omega) dL_isDelivered_675 ?_
                          refine lv_iload E.1 E.2.1 dL_isDelivered_676 (lv_at hl 0 rfl) ?_
                          refine lv_addN E.1 E.2.1 dL_isDelivered_678 ?_
                          refine lv_bipush (v := nI 60) E.1 E.2.1 dL_isDelivered_679 (by decide) ?_
                          refine lv_subN E.1 E.2.1 (by omega) dL_isDelivered_681 ?_
                          refine lv_goto (tgt := 686) E.1 E.2.1 dL_isDelivered_682 (by decide) ?_
                          refine lv_eqi (y := nI (Ns 0 6 - 1 + 0 - 60)) (rfl) ?_
                          exact jk662  (trivial) _ _ _ (HB.eq hw (rfl)) (lvh_eq (l := [(21, .int (nI (0))), (20, .int (nI (Ms 0 6))), (17, .int (-1)), (18, .int (nI (ck))), (10, .int (nI (vt))), (9, .int (nI (st))), (11, .int (nI (rc))), (0, .ref (b 0)), (1, .int (nI (p))), (2, .int (nI (Ns 0 6))), (3, .int (nI (k))), (4, .int (nI (d))), (5, .int (nI (f))), (6, .int (nI (4))), (7, .int (zb (Ns 0 14 = 1))), (8, .int (nI (Ns 0 (30 + 14 * d + 0)))), (12, .int (nI (Ns 0 8))), (13, .int (nI (Ns 0 24))), (14, .int (nI (Ns 0 29)))]) (lv_sub hl [0, 1, 2, 3, 4, 5, 6, 7, 8, 9, 10, 11, 12, 13, 14, 15, 16, 17, 18] rfl) (rfl))
                      · intro  hP662 H locs ls hw hl
                        replace hw : HB G AA sS.heap (cW G b ad vs pd rv Ms) H locs := hw
                        replace hl : lv_has ls 24 [(21, .int (nI (0))), (20, .int (nI (Ms 0 6))), (17, .int (-1)), (18, .int (nI (ck))), (10, .int (nI (vt))), (9, .int (nI (st))), (11, .int (nI (rc))), (0, .ref (b 0)), (1, .int (nI (p))), (2, .int (nI (Ns 0 6))), (3, .int (nI (k))), (4, .int (nI (d))), (5, .int (nI (f))), (6, .int (nI (4))), (7, .int (zb (Ns 0 14 = 1))), (8, .int (nI (Ns 0 (30 + 14 * d + 0)))), (12, .int (nI (Ns 0 8))), (13, .int (nI (Ns 0 24))), (14, .int (nI (Ns 0 29)))] := hl
                        show W _ _ _ _ _ _ _ _ _ _ _ _ _ _ _ (F0 mM 686 ls [.int (nI (Ns 0 6 - 1 + 0 - 60))])
                        refine lv_istore (lv' := [(22, .int (nI (Ns 0 6 - 1 + 0 - 60))), (21, .int (nI (0))), (20, .int (nI (Ms 0 6))), (17, .int (-1)), (18, .int (nI (ck))), (10, .int (nI (vt))), (9, .int (nI (st))), (11, .int (nI (rc))), (0, .ref (b 0)), (1, .int (nI (p))), (2, .int (nI (Ns 0 6))), (3, .int (nI (k))), (4, .int (nI (d))), (5, .int (nI (f))), (6, .int (nI (4))), (7, .int (zb (Ns 0 14 = 1))), (8, .int (nI (Ns 0 (30 + 14 * d + 0)))), (12, .int (nI (Ns 0 8))), (13, .int (nI (Ns 0 24))), (14, .int (nI (Ns 0 29)))]) E.1 E.2.1 dL_isDelivered_686 hl (by decide) rfl (fun ls hl => ?_)
                        refine lv_iload E.1 E.2.1 dL_isDelivered_688 (lv_at hl 14 rfl) ?_
                        refine lv_iconst (v := nI 4) E.1 E.2.1 dL_isDelivered_690 (by decide) ?_
                        refine lv_icmp_neN (tgt := 738) E.1 E.2.1 (by omega) (by omega) dL_isDelivered_691 (by decide) (fun c691 => ?_) (fun c691 => ?_)
                        · exact absurd c691 (by decide)
                        · skip
                          refine lv_aload_n E.1 E.2.1 dL_isDelivered_694 rfl (lv_at hl 8 rfl) ?_
                          refine lv_iload E.1 E.2.1 dL_isDelivered_695 (lv_at hl 12 rfl) ?_
                          refine lv_iconst (v := nI 1) E.1 E.2.1 dL_isDelivered_697 (by decide) ?_
                          refine callVIp E (c_X3_ofDeal_ok l G b ad vs pd rv Ms d (by omega) hF2 1 (by decide)) ES.eb (fun _ _ _ => trivial) mn_7_11 YX3_ofDeal ⟨rfl, rfl⟩ ⟨Nat.le_of_ble_eq_true rfl, Nat.le_of_ble_eq_true rfl⟩ ⟨Nat.le_of_ble_eq_true rfl, Nat.le_of_ble_eq_true rfl⟩ hw (rr := []) (big' := cW G b ad vs pd rv Ms) (by rw [List.append_nil]) (by rw [List.append_nil]) 0 rfl rfl rfl hl rfl (Nat.le_of_ble_eq_true rfl) dL_isDelivered_698 (fun H locs hw => ?_)
                          refine lv_eqi (y := nI (Ms 0 (30 + 14 * d + 1))) (rfl) ?_
                          refine lv_iload E.1 E.2.1 dL_isDelivered_701 (lv_at hl 6 rfl) ?_
                          refine lv_icmp_neN (tgt := 734) E.1 E.2.1 (by omega) (by omega) dL_isDelivered_703 (by decide) (fun c703 => ?_) (fun c703 => ?_)
                          · exact absurd k1 c703
                          · skip
                            refine lv_aload_n E.1 E.2.1 dL_isDelivered_706 rfl (lv_at hl 8 rfl) ?_
                            refine lv_iload E.1 E.2.1 dL_isDelivered_707 (lv_at hl 12 rfl) ?_
                            refine lv_iconst (v := nI 3) E.1 E.2.1 dL_isDelivered_709 (by decide) ?_
                            refine callVIp E (c_X3_ofDeal_ok l G b ad vs pd rv Ms d (by omega) hF2 3 (by decide)) ES.eb (fun _ _ _ => trivial) mn_7_11 YX3_ofDeal ⟨rfl, rfl⟩ ⟨Nat.le_of_ble_eq_true rfl, Nat.le_of_ble_eq_true rfl⟩ ⟨Nat.le_of_ble_eq_true rfl, Nat.le_of_ble_eq_true rfl⟩ hw (rr := []) (big' := cW G b ad vs pd rv Ms) (by rw [List.append_nil]) (by rw [List.append_nil]) 0 rfl rfl rfl hl rfl (Nat.le_of_ble_eq_true rfl) dL_isDelivered_710 (fun H locs hw => ?_)
                            refine lv_eqi (y := nI (Ms 0 (30 + 14 * d + 4))) (rfl) ?_
                            refine lv_iload E.1 E.2.1 dL_isDelivered_713 (lv_at hl 5 rfl) ?_
                            refine lv_icmp_neN (tgt := 734) E.1 E.2.1 (by omega) (by omega) dL_isDelivered_715 (by decide) (fun c715 => ?_) (fun c715 => ?_)
                            · exact absurd k4 c715
                            · skip
                              refine lv_aload_n E.1 E.2.1 dL_isDelivered_718 rfl (lv_at hl 8 rfl) ?_
                              refine lv_iload E.1 E.2.1 dL_isDelivered_719 (lv_at hl 12 rfl) ?_
                              refine lv_iconst (v := nI 4) E.1 E.2.1 dL_isDelivered_721 (by decide) ?_
                              refine callVIp E (c_X3_ofDeal_ok l G b ad vs pd rv Ms d (by omega) hF2 4 (by decide)) ES.eb (fun _ _ _ => trivial) mn_7_11 YX3_ofDeal ⟨rfl, rfl⟩ ⟨Nat.le_of_ble_eq_true rfl, Nat.le_of_ble_eq_true rfl⟩ ⟨Nat.le_of_ble_eq_true rfl, Nat.le_of_ble_eq_true rfl⟩ hw (rr := []) (big' := cW G b ad vs pd rv Ms) (by rw [List.append_nil]) (by rw [List.append_nil]) 0 rfl rfl rfl hl rfl (Nat.le_of_ble_eq_true rfl) dL_isDelivered_722 (fun H locs hw => ?_)
                              refine lv_eqi (y := nI (Ms 0 (30 + 14 * d + 5))) (rfl) ?_
                              refine lv_iload E.1 E.2.1 dL_isDelivered_725 (lv_at hl 7 rfl) ?_
                              refine lv_icmp_neN (tgt := 734) E.1 E.2.1 (by omega) (by omega) dL_isDelivered_727 (by decide) (fun c727 => ?_) (fun c727 => ?_)
                              · exact absurd kr c727
                              · skip
                                refine lv_iconst (v := nI 1) E.1 E.2.1 dL_isDelivered_730 (by decide) ?_
                                refine lv_goto (tgt := 768) E.1 E.2.1 dL_isDelivered_731 (by decide) ?_
                                refine lv_istore (lv' := [(23, .int (nI (1))), (22, .int (nI (Ns 0 6 - 1 + 0 - 60))), (21, .int (nI (0))), (20, .int (nI (Ms 0 6))), (17, .int (-1)), (18, .int (nI (ck))), (10, .int (nI (vt))), (9, .int (nI (st))), (11, .int (nI (rc))), (0, .ref (b 0)), (1, .int (nI (p))), (2, .int (nI (Ns 0 6))), (3, .int (nI (k))), (4, .int (nI (d))), (5, .int (nI (f))), (6, .int (nI (4))), (7, .int (zb (Ns 0 14 = 1))), (8, .int (nI (Ns 0 (30 + 14 * d + 0)))), (12, .int (nI (Ns 0 8))), (13, .int (nI (Ns 0 24))), (14, .int (nI (Ns 0 29)))]) E.1 E.2.1 dL_isDelivered_768 hl (by decide) rfl (fun ls hl => ?_)
                                refine lv_iload E.1 E.2.1 dL_isDelivered_770 (lv_at hl 0 rfl) ?_
                                refine lv_if_eqN (tgt := 865) E.1 E.2.1 (by omega) dL_isDelivered_772 (by decide) (fun c772 => ?_) (fun c772 => ?_)
                                · exact absurd c772 (by decide)
                                · skip
                                  refine lv_iload E.1 E.2.1 dL_isDelivered_775 (lv_at hl 3 rfl) ?_
                                  refine lv_iload_n E.1 E.2.1 dL_isDelivered_777 rfl (lv_at hl 11 rfl) ?_
                                  refine lv_iconst (v := nI 1) E.1 E.2.1 dL_isDelivered_778 (by decide) ?_
                                  refine lv_subN E.1 E.2.1 (by omega) dL_isDelivered_779 ?_
                                  refine lv_iload E.1 E.2.1 dL_isDelivered_780 (lv_at hl 2 rfl) ?_
                                  refine lv_addN E.1 E.2.1 dL_isDelivered_782 ?_
                                  refine lv_iload E.1 E.2.1 dL_isDelivered_783 (lv_at hl 1 rfl) ?_
                                  refine lv_subN E.1 E.2.1 (by omega) dL_isDelivered_785 ?_
                                  refine lv_icmp_neN (tgt := 865) E.1 E.2.1 (by omega) (by omega) dL_isDelivered_786 (by decide) (fun c786 => ?_) (fun c786 => ?_)
                                  · omega
                                  · skip
                                    refine lv_aload_n E.1 E.2.1 dL_isDelivered_789 rfl (lv_at hl 9 rfl) ?_
                                    refine lv_iconst (v := nI 2) E.1 E.2.1 dL_isDelivered_790 (by decide) ?_
                                    refine callVIp E (c_X3_count_ok l G b ad vs pd rv Ms 2 (by decide) (by decide) (by decide) hF2 hDV2) ES.eb (fun _ _ _ => trivial) mn_3_8 YX3_count ⟨rfl, rfl⟩ ⟨Nat.le_of_ble_eq_true rfl, Nat.le_of_ble_eq_true rfl⟩ ⟨Nat.le_of_ble_eq_true rfl, Nat.le_of_ble_eq_true rfl⟩ hw (rr := []) (big' := cW G b ad vs pd rv Ms) (by rw [List.append_nil]) (by rw [List.append_nil]) 0 rfl rfl rfl hl rfl (Nat.le_of_ble_eq_true rfl) dL_isDelivered_791 (fun H locs hw => ?_)
                                    refine lv_eqi (y := nI (Ms 0 6)) (rfl) ?_
                                    refine lv_iload E.1 E.2.1 dL_isDelivered_794 (lv_at hl 3 rfl) ?_
                                    refine lv_icmp_neN (tgt := 865) E.1 E.2.1 (by omega) (by omega) dL_isDelivered_796 (by decide) (fun c796 => ?_) (fun c796 => ?_)
                                    · exact absurd rfl c796
                                    · skip
                                      refine lv_aload_n E.1 E.2.1 dL_isDelivered_799 rfl (lv_at hl 9 rfl) ?_
                                      refine lv_iload E.1 E.2.1 dL_isDelivered_800 (lv_at hl 15 rfl) ?_
                                      refine lv_iconst (v := nI 3) E.1 E.2.1 dL_isDelivered_802 (by decide) ?_
                                      refine callVIp E (c_X3_who_ok l G b ad vs pd rv Ms 4 3 (by omega) (by decide) hF2 hm2) ES.eb (fun _ _ _ => trivial) mn_6_14 YX3_who ⟨rfl, rfl⟩ ⟨Nat.le_of_ble_eq_true rfl, Nat.le_of_ble_eq_true rfl⟩ ⟨Nat.le_of_ble_eq_true rfl, Nat.le_of_ble_eq_true rfl⟩ hw (rr := []) (big' := cW G b ad vs pd rv Ms) (by rw [List.append_nil]) (by rw [List.append_nil]) 0 rfl rfl rfl hl rfl (Nat.le_of_ble_eq_true rfl) dL_isDelivered_803 (fun H locs hw => ?_)
                                      refine lv_eqi (y := nI (Ms 0 24)) (rfl) ?_
                                      refine lv_iload E.1 E.2.1 dL_isDelivered_806 (lv_at hl 19 rfl) ?_
                                      refine W_join0 (G := G) (A := AA) (H0 := sS.heap) (nL := 24) 818 (True) (cW G b ad vs pd rv Ms) ([(23, .int (nI (1))), (22, .int (nI (Ns 0 6 - 1 + 0 - 60))), (21, .int (nI (0))), (20, .int (nI (Ms 0 6))), (17, .int (-1)), (18, .int (nI (ck))), (10, .int (nI (vt))), (9, .int (nI (st))), (11, .int (nI (rc))), (0, .ref (b 0)), (1, .int (nI (p))), (2, .int (nI (Ns 0 6))), (3, .int (nI (k))), (4, .int (nI (d))), (5, .int (nI (f))), (6, .int (nI (4))), (7, .int (zb (Ns 0 14 = 1))), (8, .int (nI (Ns 0 (30 + 14 * d + 0)))), (12, .int (nI (Ns 0 8))), (13, .int (nI (Ns 0 24))), (14, .int (nI (Ns 0 29)))]) ([.int (nI (if Ns 0 14 = 1 then 0 else 1)), .int (nI (Ns 0 24)), .int (nI (Ms 0 24))]) (fun jk808 => ?_) ?_
                                      · skip
                                        refine lv_iload E.1 E.2.1 dL_isDelivered_808 (lv_at hl 16 rfl) ?_
                                        refine lv_if_eqB (tgt := 817) E.1 E.2.1 dL_isDelivered_810 (by decide) (fun c810 => ?_) (fun c810 => ?_)
                                        · skip
                                          refine lv_iconst (v := nI 1) E.1 E.2.1 dL_isDelivered_817 (by decide) ?_
                                          refine lv_eqi (y := nI (if Ns 0 14 = 1 then 0 else 1)) (by rw [if_neg c810]) ?_
                                          exact jk808  (trivial) _ _ _ (HB.eq hw (rfl)) (lvh_eq (l := [(23, .int (nI (1))), (22, .int (nI (Ns 0 6 - 1 + 0 - 60))), (21, .int (nI (0))), (20, .int (nI (Ms 0 6))), (17, .int (-1)), (18, .int (nI (ck))), (10, .int (nI (vt))), (9, .int (nI (st))), (11, .int (nI (rc))), (0, .ref (b 0)), (1, .int (nI (p))), (2, .int (nI (Ns 0 6))), (3, .int (nI (k))), (4, .int (nI (d))), (5, .int (nI (f))), (6, .int (nI (4))), (7, .int (zb (Ns 0 14 = 1))), (8, .int (nI (Ns 0 (30 + 14 * d + 0)))), (12, .int (nI (Ns 0 8))), (13, .int (nI (Ns 0 24))), (14, .int (nI (Ns 0 29)))]) (lv_sub hl [0, 1, 2, 3, 4, 5, 6, 7, 8, 9, 10, 11, 12, 13, 14, 15, 16, 17, 18, 19, 20] rfl) (rfl))
                                        · skip
                                          refine lv_iconst (v := nI 0) E.1 E.2.1 dL_isDelivered_813 (by decide) ?_
                                          refine lv_goto (tgt := 818) E.1 E.2.1 dL_isDelivered_814 (by decide) ?_
                                          refine lv_eqi (y := nI (if Ns 0 14 = 1 then 0 else 1)) (by rw [if_pos c810]) ?_
                                          exact jk808  (trivial) _ _ _ (HB.eq hw (rfl)) (lvh_eq (l := [(23, .int (nI (1))), (22, .int (nI (Ns 0 6 - 1 + 0 - 60))), (21, .int (nI (0))), (20, .int (nI (Ms 0 6))), (17, .int (-1)), (18, .int (nI (ck))), (10, .int (nI (vt))), (9, .int (nI (st))), (11, .int (nI (rc))), (0, .ref (b 0)), (1, .int (nI (p))), (2, .int (nI (Ns 0 6))), (3, .int (nI (k))), (4, .int (nI (d))), (5, .int (nI (f))), (6, .int (nI (4))), (7, .int (zb (Ns 0 14 = 1))), (8, .int (nI (Ns 0 (30 + 14 * d + 0)))), (12, .int (nI (Ns 0 8))), (13, .int (nI (Ns 0 24))), (14, .int (nI (Ns 0 29)))]) (lv_sub hl [0, 1, 2, 3, 4, 5, 6, 7, 8, 9, 10, 11, 12, 13, 14, 15, 16, 17, 18, 19, 20] rfl) (rfl))
                                      · intro  hP808 H locs ls hw hl
                                        replace hw : HB G AA sS.heap (cW G b ad vs pd rv Ms) H locs := hw
                                        replace hl : lv_has ls 24 [(23, .int (nI (1))), (22, .int (nI (Ns 0 6 - 1 + 0 - 60))), (21, .int (nI (0))), (20, .int (nI (Ms 0 6))), (17, .int (-1)), (18, .int (nI (ck))), (10, .int (nI (vt))), (9, .int (nI (st))), (11, .int (nI (rc))), (0, .ref (b 0)), (1, .int (nI (p))), (2, .int (nI (Ns 0 6))), (3, .int (nI (k))), (4, .int (nI (d))), (5, .int (nI (f))), (6, .int (nI (4))), (7, .int (zb (Ns 0 14 = 1))), (8, .int (nI (Ns 0 (30 + 14 * d + 0)))), (12, .int (nI (Ns 0 8))), (13, .int (nI (Ns 0 24))), (14, .int (nI (Ns 0 29)))] := hl
                                        show W _ _ _ _ _ _ _ _ _ _ _ _ _ _ _ (F0 mM 818 ls [.int (nI (if Ns 0 14 = 1 then 0 else 1)), .int (nI (Ns 0 24)), .int (nI (Ms 0 24))])
                                        refine lv_addN E.1 E.2.1 dL_isDelivered_818 ?_
                                        refine lv_icmp_ne (tgt := 865) E.1 E.2.1 dL_isDelivered_819 (by decide) (fun c819 => ?_) (fun c819 => ?_)
                                        · exact absurd (congrArg nI (show Ms 0 24 = Ns 0 24 + (if Ns 0 14 = 1 then 0 else 1) by split <;> omega)) c819
                                        · skip
                                          refine lv_aload_n E.1 E.2.1 dL_isDelivered_822 rfl (lv_at hl 9 rfl) ?_
                                          refine lv_iload E.1 E.2.1 dL_isDelivered_823 (lv_at hl 15 rfl) ?_
                                          refine lv_iconst (v := nI 4) E.1 E.2.1 dL_isDelivered_825 (by decide) ?_
                                          refine callVIp E (c_X3_who_ok l G b ad vs pd rv Ms 4 4 (by omega) (by decide) hF2 hm2) ES.eb (fun _ _ _ => trivial) mn_6_14 YX3_who ⟨rfl, rfl⟩ ⟨Nat.le_of_ble_eq_true rfl, Nat.le_of_ble_eq_true rfl⟩ ⟨Nat.le_of_ble_eq_true rfl, Nat.le_of_ble_eq_true rfl⟩ hw (rr := []) (big' := cW G b ad vs pd rv Ms) (by rw [List.append_nil]) (by rw [List.append_nil]) 0 rfl rfl rfl hl rfl (Nat.le_of_ble_eq_true rfl) dL_isDelivered_826 (fun H locs hw => ?_)
                                          refine lv_eqi (y := nI (Ms 0 29)) (rfl) ?_
                                          refine lv_iload E.1 E.2.1 dL_isDelivered_829 (lv_at hl 20 rfl) ?_
                                          refine lv_iload E.1 E.2.1 dL_isDelivered_831 (lv_at hl 2 rfl) ?_
                                          refine lv_addN E.1 E.2.1 dL_isDelivered_833 ?_
                                          refine lv_icmp_ne (tgt := 865) E.1 E.2.1 dL_isDelivered_834 (by decide) (fun c834 => ?_) (fun c834 => ?_)
                                          · exact absurd (congrArg nI (show Ms 0 29 = Ns 0 29 + 0 by omega)) c834
                                          · skip
                                            refine lv_aload_n E.1 E.2.1 dL_isDelivered_837 rfl (lv_at hl 9 rfl) ?_
                                            refine lv_iconst (v := nI 4) E.1 E.2.1 dL_isDelivered_838 (by decide) ?_
                                            refine callVIp E (c_X3_count_ok l G b ad vs pd rv Ms 4 (by decide) (by decide) (by decide) hF2 hDV2) ES.eb (fun _ _ _ => trivial) mn_3_8 YX3_count ⟨rfl, rfl⟩ ⟨Nat.le_of_ble_eq_true rfl, Nat.le_of_ble_eq_true rfl⟩ ⟨Nat.le_of_ble_eq_true rfl, Nat.le_of_ble_eq_true rfl⟩ hw (rr := []) (big' := cW G b ad vs pd rv Ms) (by rw [List.append_nil]) (by rw [List.append_nil]) 0 rfl rfl rfl hl rfl (Nat.le_of_ble_eq_true rfl) dL_isDelivered_839 (fun H locs hw => ?_)
                                            refine lv_eqi (y := nI (Ms 0 8)) (rfl) ?_
                                            refine lv_iload E.1 E.2.1 dL_isDelivered_842 (lv_at hl 18 rfl) ?_
                                            refine W_join0 (G := G) (A := AA) (H0 := sS.heap) (nL := 24) 854 (True) (cW G b ad vs pd rv Ms) ([(23, .int (nI (1))), (22, .int (nI (Ns 0 6 - 1 + 0 - 60))), (21, .int (nI (0))), (20, .int (nI (Ms 0 6))), (17, .int (-1)), (18, .int (nI (ck))), (10, .int (nI (vt))), (9, .int (nI (st))), (11, .int (nI (rc))), (0, .ref (b 0)), (1, .int (nI (p))), (2, .int (nI (Ns 0 6))), (3, .int (nI (k))), (4, .int (nI (d))), (5, .int (nI (f))), (6, .int (nI (4))), (7, .int (zb (Ns 0 14 = 1))), (8, .int (nI (Ns 0 (30 + 14 * d + 0)))), (12, .int (nI (Ns 0 8))), (13, .int (nI (Ns 0 24))), (14, .int (nI (Ns 0 29)))]) ([.int (nI (if Ns 0 14 = 1 then 1 else 0)), .int (nI (Ns 0 8)), .int (nI (Ms 0 8))]) (fun jk844 => ?_) ?_
                                            · skip
                                              refine lv_iload E.1 E.2.1 dL_isDelivered_844 (lv_at hl 16 rfl) ?_
                                              refine lv_if_eqB (tgt := 853) E.1 E.2.1 dL_isDelivered_846 (by decide) (fun c846 => ?_) (fun c846 => ?_)
                                              · skip
                                                refine lv_iconst (v := nI 0) E.1 E.2.1 dL_isDelivered_853 (by decide) ?_
                                                refine lv_eqi (y := nI (if Ns 0 14 = 1 then 1 else 0)) (by rw [if_neg c846]) ?_
                                                exact jk844  (trivial) _ _ _ (HB.eq hw (rfl)) (lvh_eq (l := [(23, .int (nI (1))), (22, .int (nI (Ns 0 6 - 1 + 0 - 60))), (21, .int (nI (0))), (20, .int (nI (Ms 0 6))), (17, .int (-1)), (18, .int (nI (ck))), (10, .int (nI (vt))), (9, .int (nI (st))), (11, .int (nI (rc))), (0, .ref (b 0)), (1, .int (nI (p))), (2, .int (nI (Ns 0 6))), (3, .int (nI (k))), (4, .int (nI (d))), (5, .int (nI (f))), (6, .int (nI (4))), (7, .int (zb (Ns 0 14 = 1))), (8, .int (nI (Ns 0 (30 + 14 * d + 0)))), (12, .int (nI (Ns 0 8))), (13, .int (nI (Ns 0 24))), (14, .int (nI (Ns 0 29)))]) (lv_sub hl [0, 1, 2, 3, 4, 5, 6, 7, 8, 9, 10, 11, 12, 13, 14, 15, 16, 17, 18, 19, 20] rfl) (rfl))
                                              · skip
                                                refine lv_iconst (v := nI 1) E.1 E.2.1 dL_isDelivered_849 (by decide) ?_
                                                refine lv_goto (tgt := 854) E.1 E.2.1 dL_isDelivered_850 (by decide) ?_
                                                refine lv_eqi (y := nI (if Ns 0 14 = 1 then 1 else 0)) (by rw [if_pos c846]) ?_
                                                exact jk844  (trivial) _ _ _ (HB.eq hw (rfl)) (lvh_eq (l := [(23, .int (nI (1))), (22, .int (nI (Ns 0 6 - 1 + 0 - 60))), (21, .int (nI (0))), (20, .int (nI (Ms 0 6))), (17, .int (-1)), (18, .int (nI (ck))), (10, .int (nI (vt))), (9, .int (nI (st))), (11, .int (nI (rc))), (0, .ref (b 0)), (1, .int (nI (p))), (2, .int (nI (Ns 0 6))), (3, .int (nI (k))), (4, .int (nI (d))), (5, .int (nI (f))), (6, .int (nI (4))), (7, .int (zb (Ns 0 14 = 1))), (8, .int (nI (Ns 0 (30 + 14 * d + 0)))), (12, .int (nI (Ns 0 8))), (13, .int (nI (Ns 0 24))), (14, .int (nI (Ns 0 29)))]) (lv_sub hl [0, 1, 2, 3, 4, 5, 6, 7, 8, 9, 10, 11, 12, 13, 14, 15, 16, 17, 18, 19, 20] rfl) (rfl))
                                            · intro  hP844 H locs ls hw hl
                                              replace hw : HB G AA sS.heap (cW G b ad vs pd rv Ms) H locs := hw
                                              replace hl : lv_has ls 24 [(23, .int (nI (1))), (22, .int (nI (Ns 0 6 - 1 + 0 - 60))), (21, .int (nI (0))), (20, .int (nI (Ms 0 6))), (17, .int (-1)), (18, .int (nI (ck))), (10, .int (nI (vt))), (9, .int (nI (st))), (11, .int (nI (rc))), (0, .ref (b 0)), (1, .int (nI (p))), (2, .int (nI (Ns 0 6))), (3, .int (nI (k))), (4, .int (nI (d))), (5, .int (nI (f))), (6, .int (nI (4))), (7, .int (zb (Ns 0 14 = 1))), (8, .int (nI (Ns 0 (30 + 14 * d + 0)))), (12, .int (nI (Ns 0 8))), (13, .int (nI (Ns 0 24))), (14, .int (nI (Ns 0 29)))] := hl
                                              show W _ _ _ _ _ _ _ _ _ _ _ _ _ _ _ (F0 mM 854 ls [.int (nI (if Ns 0 14 = 1 then 1 else 0)), .int (nI (Ns 0 8)), .int (nI (Ms 0 8))])
                                              refine lv_addN E.1 E.2.1 dL_isDelivered_854 ?_
                                              refine lv_iload E.1 E.2.1 dL_isDelivered_855 (lv_at hl 1 rfl) ?_
                                              refine lv_addN E.1 E.2.1 dL_isDelivered_857 ?_
                                              refine lv_icmp_ne (tgt := 865) E.1 E.2.1 dL_isDelivered_858 (by decide) (fun c858 => ?_) (fun c858 => ?_)
                                              · exact absurd (congrArg nI (show Ms 0 8 = Ns 0 8 + (if Ns 0 14 = 1 then 1 else 0) + (Ns 0 6 - 1 + 0 - 60) by split <;> omega)) c858
                                              · skip
                                                refine lv_iconst (v := nI 1) E.1 E.2.1 dL_isDelivered_861 (by decide) ?_
                                                refine lv_goto (tgt := 866) E.1 E.2.1 dL_isDelivered_862 (by decide) ?_
                                                refine W.widen (k := 0) (n := 0) (Nat.le_of_ble_eq_true rfl) (Nat.le_of_ble_eq_true rfl) ?_
                                                exact rU E hr hlk (vs, Ms) (⟨hcv2, by rw [hdel]; exact e0⟩) (HB.eq hw (rfl)) dL_isDelivered_866
                    · exact absurd c657 (by decide)
                  · exact absurd c613 (by decide)
                · exact absurd c583 (by decide)
              · skip
                subst hsd
                refine lv_aload_n E.1 E.2.1 dL_isDelivered_571 rfl (lv_at hl 5 rfl) ?_
                refine lv_iload_n E.1 E.2.1 dL_isDelivered_572 rfl (lv_at hl 6 rfl) ?_
                refine callVIp E (c_X3_deliver_ok l G b ad v pd rv Ns nx u hx0 hnx hu0 hu6 p hp hI) ES.eb (fun _ _ _ => trivial) mn_14_0 YX3_deliver ⟨rfl, rfl⟩ ⟨Nat.le_of_ble_eq_true rfl, Nat.le_of_ble_eq_true rfl⟩ ⟨Nat.le_of_ble_eq_true rfl, Nat.le_of_ble_eq_true rfl⟩ hw (rr := []) (big' := cW G b ad (recV nx u v) pd rv (va_up (va_up (Ns) (2 + nx) (Ns 0)) 0 (mDlv p (Ns 0)))) (by rw [List.append_nil]) (by rw [List.append_nil]) 0 rfl rfl rfl hl rfl (Nat.le_of_ble_eq_true rfl) dL_isDelivered_573 (fun H locs hw => ?_)
                obtain ⟨Ms, vs, e0, hcv2, hw⟩ : ∃ (Ms : Nat → NS) (vs : Nat → Int32), Ms 0 = mDlv p (Ns 0) ∧ CV vs ∧ HB G AA sS.heap (cW G b ad vs pd rv Ms) H locs := ⟨_, _, va_up_self _ _ _, CV.rec hnx hu6, hw⟩
                have hI2 : Inv (Ms 0) := by rw [e0]; exact hI.dlv hp
                have hDV2 : dvI (Ms 0) 5 = Ms 0 7 := by rw [e0]; exact (DV.dlv hDV (hI.2.1 p hp).2.2.2.1).1
                have hF2 := hI2.1
                have hm2 := hI2.hm
                have e1 : mDlv p (Ns 0) = Ms 0 := e0.symm
                refine lv_eqi (y := nI (Ms 0 6)) (by rw [e0]) ?_
                refine lv_istore (lv' := [(20, .int (nI (Ms 0 6))), (17, .int (nI (q))), (18, .int (nI (ck))), (10, .int (nI (vt))), (9, .int (nI (st))), (11, .int (nI (rc))), (0, .ref (b 0)), (1, .int (nI (p))), (2, .int (nI (Ns 0 6))), (3, .int (nI (k))), (4, .int (nI (d))), (5, .int (nI (f))), (6, .int (nI (4))), (7, .int (zb (Ns 0 14 = 1))), (8, .int (nI (Ns 0 (30 + 14 * d + 0)))), (12, .int (nI (Ns 0 8))), (13, .int (nI (Ns 0 24))), (14, .int (nI (Ns 0 29)))]) E.1 E.2.1 dL_isDelivered_576 hl (by decide) rfl (fun ls hl => ?_)
                refine lv_iconst (v := nI 0) E.1 E.2.1 dL_isDelivered_578 (by decide) ?_
                refine lv_istore (lv' := [(21, .int (nI (0))), (20, .int (nI (Ms 0 6))), (17, .int (nI (q))), (18, .int (nI (ck))), (10, .int (nI (vt))), (9, .int (nI (st))), (11, .int (nI (rc))), (0, .ref (b 0)), (1, .int (nI (p))), (2, .int (nI (Ns 0 6))), (3, .int (nI (k))), (4, .int (nI (d))), (5, .int (nI (f))), (6, .int (nI (4))), (7, .int (zb (Ns 0 14 = 1))), (8, .int (nI (Ns 0 (30 + 14 * d + 0)))), (12, .int (nI (Ns 0 8))), (13, .int (nI (Ns 0 24))), (14, .int (nI (Ns 0 29)))]) E.1 E.2.1 dL_isDelivered_579 hl (by decide) rfl (fun ls hl => ?_)
                have hX := e0.trans hM
                have r1 := hF2.f1 (d := d) hd8
                have r4 := hF2.f4 (d := d) hd8
                have r5 := hF2.f5 (d := d) hd8
                obtain ⟨hsn, k6, k20, k25, k8, k5, kk⟩ := fin_a hb hd8 hp h6 hX
                have k1 := (kk 1 (by decide)).trans g1
                have k4 := (kk 4 (by decide)).trans g4
                have kr := (kk 5 (by decide)).trans g5
                have hp4 := pcn_le (S := ck) 4
                refine lv_iload E.1 E.2.1 dL_isDelivered_581 (lv_at hl 2 rfl) ?_
                refine lv_if_ltN (tgt := 611) E.1 E.2.1 (by omega) dL_isDelivered_583 (by decide) (fun c583 => ?_) (fun c583 => ?_)
                · omega
                · skip
                  refine lv_iload E.1 E.2.1 dL_isDelivered_586 (lv_at hl 13 rfl) ?_
                  refine lv_iconst (v := nI 4) E.1 E.2.1 dL_isDelivered_588 (by decide) ?_
                  refine lv_icmp_neN (tgt := 611) E.1 E.2.1 (by omega) (by omega) dL_isDelivered_589 (by decide) (fun c589 => ?_) (fun c589 => ?_)
                  · exact absurd c589 (by decide)
                  · skip
                    refine lv_aload_n E.1 E.2.1 dL_isDelivered_592 rfl (lv_at hl 7 rfl) ?_
                    refine lv_iload_n E.1 E.2.1 dL_isDelivered_593 rfl (lv_at hl 9 rfl) ?_
                    refine lv_iconst (v := nI 1) E.1 E.2.1 dL_isDelivered_594 (by decide) ?_
                    refine lv_subN E.1 E.2.1 (by omega) dL_isDelivered_595 ?_
                    refine lv_iload E.1 E.2.1 dL_isDelivered_596 (lv_at hl 2 rfl) ?_
                    refine lv_iload E.1 E.2.1 dL_isDelivered_598 (lv_at hl 11 rfl) ?_
                    refine lv_iconst (v := nI 4) E.1 E.2.1 dL_isDelivered_600 (by decide) ?_
                    refine lv_iload E.1 E.2.1 dL_isDelivered_601 (lv_at hl 3 rfl) ?_
                    refine callSX E (c_L_sentTo l G b ad vs pd rv Ms hF2 (Ns 0 6 - 1) q d 4 ck (by omega) hsn (by omega) (by omega) (by decide) (by omega)) ES.eb (fun _ _ _ => trivial) mn_7_23 YL_sentTo ⟨rfl, rfl⟩ ⟨Nat.le_of_ble_eq_true rfl, Nat.le_of_ble_eq_true rfl⟩ ⟨Nat.le_of_ble_eq_true rfl, Nat.le_of_ble_eq_true rfl⟩ hw (rr := []) (big' := cW G b ad vs pd rv Ms) (by rw [List.append_nil]) (by rw [List.append_nil]) rfl hl rfl (Nat.le_of_ble_eq_true rfl) dL_isDelivered_603 (fun H locs hw => ?_)
                    refine lv_istore (lv' := [(21, .int (nI (pcn ck 4))), (20, .int (nI (Ms 0 6))), (17, .int (nI (q))), (18, .int (nI (ck))), (10, .int (nI (vt))), (9, .int (nI (st))), (11, .int (nI (rc))), (0, .ref (b 0)), (1, .int (nI (p))), (2, .int (nI (Ns 0 6))), (3, .int (nI (k))), (4, .int (nI (d))), (5, .int (nI (f))), (6, .int (nI (4))), (7, .int (zb (Ns 0 14 = 1))), (8, .int (nI (Ns 0 (30 + 14 * d + 0)))), (12, .int (nI (Ns 0 8))), (13, .int (nI (Ns 0 24))), (14, .int (nI (Ns 0 29)))]) E.1 E.2.1 dL_isDelivered_606 hl (by decide) rfl (fun ls hl => ?_)
                    refine lv_goto (tgt := 655) E.1 E.2.1 dL_isDelivered_608 (by decide) ?_
                    refine lv_iload E.1 E.2.1 dL_isDelivered_655 (lv_at hl 0 rfl) ?_
                    refine lv_if_geN (tgt := 662) E.1 E.2.1 (by omega) dL_isDelivered_657 (by decide) (fun c657 => ?_) (fun c657 => ?_)
                    · skip
                      refine W_join0 (G := G) (A := AA) (H0 := sS.heap) (nL := 24) 686 (True) (cW G b ad vs pd rv Ms) ([(21, .int (nI (pcn ck 4))), (20, .int (nI (Ms 0 6))), (17, .int (nI (q))), (18, .int (nI (ck))), (10, .int (nI (vt))), (9, .int (nI (st))), (11, .int (nI (rc))), (0, .ref (b 0)), (1, .int (nI (p))), (2, .int (nI (Ns 0 6))), (3, .int (nI (k))), (4, .int (nI (d))), (5, .int (nI (f))), (6, .int (nI (4))), (7, .int (zb (Ns 0 14 = 1))), (8, .int (nI (Ns 0 (30 + 14 * d + 0)))), (12, .int (nI (Ns 0 8))), (13, .int (nI (Ns 0 24))), (14, .int (nI (Ns 0 29)))]) ([.int (nI (Ns 0 6 - 1 + pcn ck 4 - 60))]) (fun jk662 => ?_) ?_
                      · skip
                        refine lv_iload_n E.1 E.2.1 dL_isDelivered_662 rfl (lv_at hl 9 rfl) ?_
                        refine lv_iconst (v := nI 1) E.1 E.2.1 dL_isDelivered_663 (by decide) ?_
                        refine lv_subN E.1 E.2.1 (by omega) dL_isDelivered_664 ?_
                        refine lv_iload E.1 E.2.1 dL_isDelivered_665 (lv_at hl 0 rfl) ?_
                        refine lv_addN E.1 E.2.1 dL_isDelivered_667 ?_
                        refine lv_bipush (v := nI 60) E.1 E.2.1 dL_isDelivered_668 (by decide) ?_
                        refine lv_icmp_leN (tgt := 685) E.1 E.2.1 (by omega) (by omega) dL_isDelivered_670 (by decide) (fun c670 => ?_) (fun c670 => ?_)
                        · skip
                          refine lv_iconst (v := nI 0) E.1 E.2.1 dL_isDelivered_685 (by decide) ?_
                          refine lv_eqi (y := nI (Ns 0 6 - 1 + pcn ck 4 - 60)) (by rw [show Ns 0 6 - 1 + pcn ck 4 - 60 = 0 by omega]) ?_
                          exact jk662  (trivial) _ _ _ (HB.eq hw (rfl)) (lvh_eq (l := [(21, .int (nI (pcn ck 4))), (20, .int (nI (Ms 0 6))), (17, .int (nI (q))), (18, .int (nI (ck))), (10, .int (nI (vt))), (9, .int (nI (st))), (11, .int (nI (rc))), (0, .ref (b 0)), (1, .int (nI (p))), (2, .int (nI (Ns 0 6))), (3, .int (nI (k))), (4, .int (nI (d))), (5, .int (nI (f))), (6, .int (nI (4))), (7, .int (zb (Ns 0 14 = 1))), (8, .int (nI (Ns 0 (30 + 14 * d + 0)))), (12, .int (nI (Ns 0 8))), (13, .int (nI (Ns 0 24))), (14, .int (nI (Ns 0 29)))]) (lv_sub hl [0, 1, 2, 3, 4, 5, 6, 7, 8, 9, 10, 11, 12, 13, 14, 15, 16, 17, 18] rfl) (rfl))
                        · skip
                          refine lv_iload_n E.1 E.2.1 dL_isDelivered_673 rfl (lv_at hl 9 rfl) ?_
                          refine lv_iconst (v := nI 1) E.1 E.2.1 dL_isDelivered_674 (by decide) ?_
                          refine lv_subN E.1 E.2.1 (by omega) dL_isDelivered_675 ?_
                          refine lv_iload E.1 E.2.1 dL_isDelivered_676 (lv_at hl 0 rfl) ?_
                          refine lv_addN E.1 E.2.1 dL_isDelivered_678 ?_
                          refine lv_bipush (v := nI 60) E.1 E.2.1 dL_isDelivered_679 (by decide) ?_
                          refine lv_subN E.1 E.2.1 (by omega) dL_isDelivered_681 ?_
                          refine lv_goto (tgt := 686) E.1 E.2.1 dL_isDelivered_682 (by decide) ?_
                          refine lv_eqi (y := nI (Ns 0 6 - 1 + pcn ck 4 - 60)) (rfl) ?_
                          exact jk662  (trivial) _ _ _ (HB.eq hw (rfl)) (lvh_eq (l := [(21, .int (nI (pcn ck 4))), (20, .int (nI (Ms 0 6))), (17, .int (nI (q))), (18, .int (nI (ck))), (10, .int (nI (vt))), (9, .int (nI (st))), (11, .int (nI (rc))), (0, .ref (b 0)), (1, .int (nI (p))), (2, .int (nI (Ns 0 6))), (3, .int (nI (k))), (4, .int (nI (d))), (5, .int (nI (f))), (6, .int (nI (4))), (7, .int (zb (Ns 0 14 = 1))), (8, .int (nI (Ns 0 (30 + 14 * d + 0)))), (12, .int (nI (Ns 0 8))), (13, .int (nI (Ns 0 24))), (14, .int (nI (Ns 0 29)))]) (lv_sub hl [0, 1, 2, 3, 4, 5, 6, 7, 8, 9, 10, 11, 12, 13, 14, 15, 16, 17, 18] rfl) (rfl))
                      · intro  hP662 H locs ls hw hl
                        replace hw : HB G AA sS.heap (cW G b ad vs pd rv Ms) H locs := hw
                        replace hl : lv_has ls 24 [(21, .int (nI (pcn ck 4))), (20, .int (nI (Ms 0 6))), (17, .int (nI (q))), (18, .int (nI (ck))), (10, .int (nI (vt))), (9, .int (nI (st))), (11, .int (nI (rc))), (0, .ref (b 0)), (1, .int (nI (p))), (2, .int (nI (Ns 0 6))), (3, .int (nI (k))), (4, .int (nI (d))), (5, .int (nI (f))), (6, .int (nI (4))), (7, .int (zb (Ns 0 14 = 1))), (8, .int (nI (Ns 0 (30 + 14 * d + 0)))), (12, .int (nI (Ns 0 8))), (13, .int (nI (Ns 0 24))), (14, .int (nI (Ns 0 29)))] := hl
                        show W _ _ _ _ _ _ _ _ _ _ _ _ _ _ _ (F0 mM 686 ls [.int (nI (Ns 0 6 - 1 + pcn ck 4 - 60))])
                        refine lv_istore (lv' := [(22, .int (nI (Ns 0 6 - 1 + pcn ck 4 - 60))), (21, .int (nI (pcn ck 4))), (20, .int (nI (Ms 0 6))), (17, .int (nI (q))), (18, .int (nI (ck))), (10, .int (nI (vt))), (9, .int (nI (st))), (11, .int (nI (rc))), (0, .ref (b 0)), (1, .int (nI (p))), (2, .int (nI (Ns 0 6))), (3, .int (nI (k))), (4, .int (nI (d))), (5, .int (nI (f))), (6, .int (nI (4))), (7, .int (zb (Ns 0 14 = 1))), (8, .int (nI (Ns 0 (30 + 14 * d + 0)))), (12, .int (nI (Ns 0 8))), (13, .int (nI (Ns 0 24))), (14, .int (nI (Ns 0 29)))]) E.1 E.2.1 dL_isDelivered_686 hl (by decide) rfl (fun ls hl => ?_)
                        refine lv_iload E.1 E.2.1 dL_isDelivered_688 (lv_at hl 14 rfl) ?_
                        refine lv_iconst (v := nI 4) E.1 E.2.1 dL_isDelivered_690 (by decide) ?_
                        refine lv_icmp_neN (tgt := 738) E.1 E.2.1 (by omega) (by omega) dL_isDelivered_691 (by decide) (fun c691 => ?_) (fun c691 => ?_)
                        · exact absurd c691 (by decide)
                        · skip
                          refine lv_aload_n E.1 E.2.1 dL_isDelivered_694 rfl (lv_at hl 8 rfl) ?_
                          refine lv_iload E.1 E.2.1 dL_isDelivered_695 (lv_at hl 12 rfl) ?_
                          refine lv_iconst (v := nI 1) E.1 E.2.1 dL_isDelivered_697 (by decide) ?_
                          refine callVIp E (c_X3_ofDeal_ok l G b ad vs pd rv Ms d (by omega) hF2 1 (by decide)) ES.eb (fun _ _ _ => trivial) mn_7_11 YX3_ofDeal ⟨rfl, rfl⟩ ⟨Nat.le_of_ble_eq_true rfl, Nat.le_of_ble_eq_true rfl⟩ ⟨Nat.le_of_ble_eq_true rfl, Nat.le_of_ble_eq_true rfl⟩ hw (rr := []) (big' := cW G b ad vs pd rv Ms) (by rw [List.append_nil]) (by rw [List.append_nil]) 0 rfl rfl rfl hl rfl (Nat.le_of_ble_eq_true rfl) dL_isDelivered_698 (fun H locs hw => ?_)
                          refine lv_eqi (y := nI (Ms 0 (30 + 14 * d + 1))) (rfl) ?_
                          refine lv_iload E.1 E.2.1 dL_isDelivered_701 (lv_at hl 6 rfl) ?_
                          refine lv_icmp_neN (tgt := 734) E.1 E.2.1 (by omega) (by omega) dL_isDelivered_703 (by decide) (fun c703 => ?_) (fun c703 => ?_)
                          · exact absurd k1 c703
                          · skip
                            refine lv_aload_n E.1 E.2.1 dL_isDelivered_706 rfl (lv_at hl 8 rfl) ?_
                            refine lv_iload E.1 E.2.1 dL_isDelivered_707 (lv_at hl 12 rfl) ?_
                            refine lv_iconst (v := nI 3) E.1 E.2.1 dL_isDelivered_709 (by decide) ?_
                            refine callVIp E (c_X3_ofDeal_ok l G b ad vs pd rv Ms d (by omega) hF2 3 (by decide)) ES.eb (fun _ _ _ => trivial) mn_7_11 YX3_ofDeal ⟨rfl, rfl⟩ ⟨Nat.le_of_ble_eq_true rfl, Nat.le_of_ble_eq_true rfl⟩ ⟨Nat.le_of_ble_eq_true rfl, Nat.le_of_ble_eq_true rfl⟩ hw (rr := []) (big' := cW G b ad vs pd rv Ms) (by rw [List.append_nil]) (by rw [List.append_nil]) 0 rfl rfl rfl hl rfl (Nat.le_of_ble_eq_true rfl) dL_isDelivered_710 (fun H locs hw => ?_)
                            refine lv_eqi (y := nI (Ms 0 (30 + 14 * d + 4))) (rfl) ?_
                            refine lv_iload E.1 E.2.1 dL_isDelivered_713 (lv_at hl 5 rfl) ?_
                            refine lv_icmp_neN (tgt := 734) E.1 E.2.1 (by omega) (by omega) dL_isDelivered_715 (by decide) (fun c715 => ?_) (fun c715 => ?_)
                            · exact absurd k4 c715
                            · skip
                              refine lv_aload_n E.1 E.2.1 dL_isDelivered_718 rfl (lv_at hl 8 rfl) ?_
                              refine lv_iload E.1 E.2.1 dL_isDelivered_719 (lv_at hl 12 rfl) ?_
                              refine lv_iconst (v := nI 4) E.1 E.2.1 dL_isDelivered_721 (by decide) ?_
                              refine callVIp E (c_X3_ofDeal_ok l G b ad vs pd rv Ms d (by omega) hF2 4 (by decide)) ES.eb (fun _ _ _ => trivial) mn_7_11 YX3_ofDeal ⟨rfl, rfl⟩ ⟨Nat.le_of_ble_eq_true rfl, Nat.le_of_ble_eq_true rfl⟩ ⟨Nat.le_of_ble_eq_true rfl, Nat.le_of_ble_eq_true rfl⟩ hw (rr := []) (big' := cW G b ad vs pd rv Ms) (by rw [List.append_nil]) (by rw [List.append_nil]) 0 rfl rfl rfl hl rfl (Nat.le_of_ble_eq_true rfl) dL_isDelivered_722 (fun H locs hw => ?_)
                              refine lv_eqi (y := nI (Ms 0 (30 + 14 * d + 5))) (rfl) ?_
                              refine lv_iload E.1 E.2.1 dL_isDelivered_725 (lv_at hl 7 rfl) ?_
                              refine lv_icmp_neN (tgt := 734) E.1 E.2.1 (by omega) (by omega) dL_isDelivered_727 (by decide) (fun c727 => ?_) (fun c727 => ?_)
                              · exact absurd kr c727
                              · skip
                                refine lv_iconst (v := nI 1) E.1 E.2.1 dL_isDelivered_730 (by decide) ?_
                                refine lv_goto (tgt := 768) E.1 E.2.1 dL_isDelivered_731 (by decide) ?_
                                refine lv_istore (lv' := [(23, .int (nI (1))), (22, .int (nI (Ns 0 6 - 1 + pcn ck 4 - 60))), (21, .int (nI (pcn ck 4))), (20, .int (nI (Ms 0 6))), (17, .int (nI (q))), (18, .int (nI (ck))), (10, .int (nI (vt))), (9, .int (nI (st))), (11, .int (nI (rc))), (0, .ref (b 0)), (1, .int (nI (p))), (2, .int (nI (Ns 0 6))), (3, .int (nI (k))), (4, .int (nI (d))), (5, .int (nI (f))), (6, .int (nI (4))), (7, .int (zb (Ns 0 14 = 1))), (8, .int (nI (Ns 0 (30 + 14 * d + 0)))), (12, .int (nI (Ns 0 8))), (13, .int (nI (Ns 0 24))), (14, .int (nI (Ns 0 29)))]) E.1 E.2.1 dL_isDelivered_768 hl (by decide) rfl (fun ls hl => ?_)
                                refine lv_iload E.1 E.2.1 dL_isDelivered_770 (lv_at hl 0 rfl) ?_
                                refine lv_if_eqN (tgt := 865) E.1 E.2.1 (by omega) dL_isDelivered_772 (by decide) (fun c772 => ?_) (fun c772 => ?_)
                                · exact absurd c772 (by decide)
                                · skip
                                  refine lv_iload E.1 E.2.1 dL_isDelivered_775 (lv_at hl 3 rfl) ?_
                                  refine lv_iload_n E.1 E.2.1 dL_isDelivered_777 rfl (lv_at hl 11 rfl) ?_
                                  refine lv_iconst (v := nI 1) E.1 E.2.1 dL_isDelivered_778 (by decide) ?_
                                  refine lv_subN E.1 E.2.1 (by omega) dL_isDelivered_779 ?_
                                  refine lv_iload E.1 E.2.1 dL_isDelivered_780 (lv_at hl 2 rfl) ?_
                                  refine lv_addN E.1 E.2.1 dL_isDelivered_782 ?_
                                  refine lv_iload E.1 E.2.1 dL_isDelivered_783 (lv_at hl 1 rfl) ?_
                                  refine lv_subN E.1 E.2.1 (by omega) dL_isDelivered_785 ?_
                                  refine lv_icmp_neN (tgt := 865) E.1 E.2.1 (by omega) (by omega) dL_isDelivered_786 (by decide) (fun c786 => ?_) (fun c786 => ?_)
                                  · omega
                                  · skip
                                    refine lv_aload_n E.1 E.2.1 dL_isDelivered_789 rfl (lv_at hl 9 rfl) ?_
                                    refine lv_iconst (v := nI 2) E.1 E.2.1 dL_isDelivered_790 (by decide) ?_
                                    refine callVIp E (c_X3_count_ok l G b ad vs pd rv Ms 2 (by decide) (by decide) (by decide) hF2 hDV2) ES.eb (fun _ _ _ => trivial) mn_3_8 YX3_count ⟨rfl, rfl⟩ ⟨Nat.le_of_ble_eq_true rfl, Nat.le_of_ble_eq_true rfl⟩ ⟨Nat.le_of_ble_eq_true rfl, Nat.le_of_ble_eq_true rfl⟩ hw (rr := []) (big' := cW G b ad vs pd rv Ms) (by rw [List.append_nil]) (by rw [List.append_nil]) 0 rfl rfl rfl hl rfl (Nat.le_of_ble_eq_true rfl) dL_isDelivered_791 (fun H locs hw => ?_)
                                    refine lv_eqi (y := nI (Ms 0 6)) (rfl) ?_
                                    refine lv_iload E.1 E.2.1 dL_isDelivered_794 (lv_at hl 3 rfl) ?_
                                    refine lv_icmp_neN (tgt := 865) E.1 E.2.1 (by omega) (by omega) dL_isDelivered_796 (by decide) (fun c796 => ?_) (fun c796 => ?_)
                                    · exact absurd rfl c796
                                    · skip
                                      refine lv_aload_n E.1 E.2.1 dL_isDelivered_799 rfl (lv_at hl 9 rfl) ?_
                                      refine lv_iload E.1 E.2.1 dL_isDelivered_800 (lv_at hl 15 rfl) ?_
                                      refine lv_iconst (v := nI 3) E.1 E.2.1 dL_isDelivered_802 (by decide) ?_
                                      refine callVIp E (c_X3_who_ok l G b ad vs pd rv Ms 4 3 (by omega) (by decide) hF2 hm2) ES.eb (fun _ _ _ => trivial) mn_6_14 YX3_who ⟨rfl, rfl⟩ ⟨Nat.le_of_ble_eq_true rfl, Nat.le_of_ble_eq_true rfl⟩ ⟨Nat.le_of_ble_eq_true rfl, Nat.le_of_ble_eq_true rfl⟩ hw (rr := []) (big' := cW G b ad vs pd rv Ms) (by rw [List.append_nil]) (by rw [List.append_nil]) 0 rfl rfl rfl hl rfl (Nat.le_of_ble_eq_true rfl) dL_isDelivered_803 (fun H locs hw => ?_)
                                      refine lv_eqi (y := nI (Ms 0 24)) (rfl) ?_
                                      refine lv_iload E.1 E.2.1 dL_isDelivered_806 (lv_at hl 19 rfl) ?_
                                      refine W_join0 (G := G) (A := AA) (H0 := sS.heap) (nL := 24) 818 (True) (cW G b ad vs pd rv Ms) ([(23, .int (nI (1))), (22, .int (nI (Ns 0 6 - 1 + pcn ck 4 - 60))), (21, .int (nI (pcn ck 4))), (20, .int (nI (Ms 0 6))), (17, .int (nI (q))), (18, .int (nI (ck))), (10, .int (nI (vt))), (9, .int (nI (st))), (11, .int (nI (rc))), (0, .ref (b 0)), (1, .int (nI (p))), (2, .int (nI (Ns 0 6))), (3, .int (nI (k))), (4, .int (nI (d))), (5, .int (nI (f))), (6, .int (nI (4))), (7, .int (zb (Ns 0 14 = 1))), (8, .int (nI (Ns 0 (30 + 14 * d + 0)))), (12, .int (nI (Ns 0 8))), (13, .int (nI (Ns 0 24))), (14, .int (nI (Ns 0 29)))]) ([.int (nI (if Ns 0 14 = 1 then 0 else 1)), .int (nI (Ns 0 24)), .int (nI (Ms 0 24))]) (fun jk808 => ?_) ?_
                                      · skip
                                        refine lv_iload E.1 E.2.1 dL_isDelivered_808 (lv_at hl 16 rfl) ?_
                                        refine lv_if_eqB (tgt := 817) E.1 E.2.1 dL_isDelivered_810 (by decide) (fun c810 => ?_) (fun c810 => ?_)
                                        · skip
                                          refine lv_iconst (v := nI 1) E.1 E.2.1 dL_isDelivered_817 (by decide) ?_
                                          refine lv_eqi (y := nI (if Ns 0 14 = 1 then 0 else 1)) (by rw [if_neg c810]) ?_
                                          exact jk808  (trivial) _ _ _ (HB.eq hw (rfl)) (lvh_eq (l := [(23, .int (nI (1))), (22, .int (nI (Ns 0 6 - 1 + pcn ck 4 - 60))), (21, .int (nI (pcn ck 4))), (20, .int (nI (Ms 0 6))), (17, .int (nI (q))), (18, .int (nI (ck))), (10, .int (nI (vt))), (9, .int (nI (st))), (11, .int (nI (rc))), (0, .ref (b 0)), (1, .int (nI (p))), (2, .int (nI (Ns 0 6))), (3, .int (nI (k))), (4, .int (nI (d))), (5, .int (nI (f))), (6, .int (nI (4))), (7, .int (zb (Ns 0 14 = 1))), (8, .int (nI (Ns 0 (30 + 14 * d + 0)))), (12, .int (nI (Ns 0 8))), (13, .int (nI (Ns 0 24))), (14, .int (nI (Ns 0 29)))]) (lv_sub hl [0, 1, 2, 3, 4, 5, 6, 7, 8, 9, 10, 11, 12, 13, 14, 15, 16, 17, 18, 19, 20] rfl) (rfl))
                                        · skip
                                          refine lv_iconst (v := nI 0) E.1 E.2.1 dL_isDelivered_813 (by decide) ?_
                                          refine lv_goto (tgt := 818) E.1 E.2.1 dL_isDelivered_814 (by decide) ?_
                                          refine lv_eqi (y := nI (if Ns 0 14 = 1 then 0 else 1)) (by rw [if_pos c810]) ?_
                                          exact jk808  (trivial) _ _ _ (HB.eq hw (rfl)) (lvh_eq (l := [(23, .int (nI (1))), (22, .int (nI (Ns 0 6 - 1 + pcn ck 4 - 60))), (21, .int (nI (pcn ck 4))), (20, .int (nI (Ms 0 6))), (17, .int (nI (q))), (18, .int (nI (ck))), (10, .int (nI (vt))), (9, .int (nI (st))), (11, .int (nI (rc))), (0, .ref (b 0)), (1, .int (nI (p))), (2, .int (nI (Ns 0 6))), (3, .int (nI (k))), (4, .int (nI (d))), (5, .int (nI (f))), (6, .int (nI (4))), (7, .int (zb (Ns 0 14 = 1))), (8, .int (nI (Ns 0 (30 + 14 * d + 0)))), (12, .int (nI (Ns 0 8))), (13, .int (nI (Ns 0 24))), (14, .int (nI (Ns 0 29)))]) (lv_sub hl [0, 1, 2, 3, 4, 5, 6, 7, 8, 9, 10, 11, 12, 13, 14, 15, 16, 17, 18, 19, 20] rfl) (rfl))
                                      · intro  hP808 H locs ls hw hl
                                        replace hw : HB G AA sS.heap (cW G b ad vs pd rv Ms) H locs := hw
                                        replace hl : lv_has ls 24 [(23, .int (nI (1))), (22, .int (nI (Ns 0 6 - 1 + pcn ck 4 - 60))), (21, .int (nI (pcn ck 4))), (20, .int (nI (Ms 0 6))), (17, .int (nI (q))), (18, .int (nI (ck))), (10, .int (nI (vt))), (9, .int (nI (st))), (11, .int (nI (rc))), (0, .ref (b 0)), (1, .int (nI (p))), (2, .int (nI (Ns 0 6))), (3, .int (nI (k))), (4, .int (nI (d))), (5, .int (nI (f))), (6, .int (nI (4))), (7, .int (zb (Ns 0 14 = 1))), (8, .int (nI (Ns 0 (30 + 14 * d + 0)))), (12, .int (nI (Ns 0 8))), (13, .int (nI (Ns 0 24))), (14, .int (nI (Ns 0 29)))] := hl
                                        show W _ _ _ _ _ _ _ _ _ _ _ _ _ _ _ (F0 mM 818 ls [.int (nI (if Ns 0 14 = 1 then 0 else 1)), .int (nI (Ns 0 24)), .int (nI (Ms 0 24))])
                                        refine lv_addN E.1 E.2.1 dL_isDelivered_818 ?_
                                        refine lv_icmp_ne (tgt := 865) E.1 E.2.1 dL_isDelivered_819 (by decide) (fun c819 => ?_) (fun c819 => ?_)
                                        · exact absurd (congrArg nI (show Ms 0 24 = Ns 0 24 + (if Ns 0 14 = 1 then 0 else 1) by split <;> omega)) c819
                                        · skip
                                          refine lv_aload_n E.1 E.2.1 dL_isDelivered_822 rfl (lv_at hl 9 rfl) ?_
                                          refine lv_iload E.1 E.2.1 dL_isDelivered_823 (lv_at hl 15 rfl) ?_
                                          refine lv_iconst (v := nI 4) E.1 E.2.1 dL_isDelivered_825 (by decide) ?_
                                          refine callVIp E (c_X3_who_ok l G b ad vs pd rv Ms 4 4 (by omega) (by decide) hF2 hm2) ES.eb (fun _ _ _ => trivial) mn_6_14 YX3_who ⟨rfl, rfl⟩ ⟨Nat.le_of_ble_eq_true rfl, Nat.le_of_ble_eq_true rfl⟩ ⟨Nat.le_of_ble_eq_true rfl, Nat.le_of_ble_eq_true rfl⟩ hw (rr := []) (big' := cW G b ad vs pd rv Ms) (by rw [List.append_nil]) (by rw [List.append_nil]) 0 rfl rfl rfl hl rfl (Nat.le_of_ble_eq_true rfl) dL_isDelivered_826 (fun H locs hw => ?_)
                                          refine lv_eqi (y := nI (Ms 0 29)) (rfl) ?_
                                          refine lv_iload E.1 E.2.1 dL_isDelivered_829 (lv_at hl 20 rfl) ?_
                                          refine lv_iload E.1 E.2.1 dL_isDelivered_831 (lv_at hl 2 rfl) ?_
                                          refine lv_addN E.1 E.2.1 dL_isDelivered_833 ?_
                                          refine lv_icmp_ne (tgt := 865) E.1 E.2.1 dL_isDelivered_834 (by decide) (fun c834 => ?_) (fun c834 => ?_)
                                          · exact absurd (congrArg nI (show Ms 0 29 = Ns 0 29 + (pcn ck 4) by omega)) c834
                                          · skip
                                            refine lv_aload_n E.1 E.2.1 dL_isDelivered_837 rfl (lv_at hl 9 rfl) ?_
                                            refine lv_iconst (v := nI 4) E.1 E.2.1 dL_isDelivered_838 (by decide) ?_
                                            refine callVIp E (c_X3_count_ok l G b ad vs pd rv Ms 4 (by decide) (by decide) (by decide) hF2 hDV2) ES.eb (fun _ _ _ => trivial) mn_3_8 YX3_count ⟨rfl, rfl⟩ ⟨Nat.le_of_ble_eq_true rfl, Nat.le_of_ble_eq_true rfl⟩ ⟨Nat.le_of_ble_eq_true rfl, Nat.le_of_ble_eq_true rfl⟩ hw (rr := []) (big' := cW G b ad vs pd rv Ms) (by rw [List.append_nil]) (by rw [List.append_nil]) 0 rfl rfl rfl hl rfl (Nat.le_of_ble_eq_true rfl) dL_isDelivered_839 (fun H locs hw => ?_)
                                            refine lv_eqi (y := nI (Ms 0 8)) (rfl) ?_
                                            refine lv_iload E.1 E.2.1 dL_isDelivered_842 (lv_at hl 18 rfl) ?_
                                            refine W_join0 (G := G) (A := AA) (H0 := sS.heap) (nL := 24) 854 (True) (cW G b ad vs pd rv Ms) ([(23, .int (nI (1))), (22, .int (nI (Ns 0 6 - 1 + pcn ck 4 - 60))), (21, .int (nI (pcn ck 4))), (20, .int (nI (Ms 0 6))), (17, .int (nI (q))), (18, .int (nI (ck))), (10, .int (nI (vt))), (9, .int (nI (st))), (11, .int (nI (rc))), (0, .ref (b 0)), (1, .int (nI (p))), (2, .int (nI (Ns 0 6))), (3, .int (nI (k))), (4, .int (nI (d))), (5, .int (nI (f))), (6, .int (nI (4))), (7, .int (zb (Ns 0 14 = 1))), (8, .int (nI (Ns 0 (30 + 14 * d + 0)))), (12, .int (nI (Ns 0 8))), (13, .int (nI (Ns 0 24))), (14, .int (nI (Ns 0 29)))]) ([.int (nI (if Ns 0 14 = 1 then 1 else 0)), .int (nI (Ns 0 8)), .int (nI (Ms 0 8))]) (fun jk844 => ?_) ?_
                                            · skip
                                              refine lv_iload E.1 E.2.1 dL_isDelivered_844 (lv_at hl 16 rfl) ?_
                                              refine lv_if_eqB (tgt := 853) E.1 E.2.1 dL_isDelivered_846 (by decide) (fun c846 => ?_) (fun c846 => ?_)
                                              · skip
                                                refine lv_iconst (v := nI 0) E.1 E.2.1 dL_isDelivered_853 (by decide) ?_
                                                refine lv_eqi (y := nI (if Ns 0 14 = 1 then 1 else 0)) (by rw [if_neg c846]) ?_
                                                exact jk844  (trivial) _ _ _ (HB.eq hw (rfl)) (lvh_eq (l := [(23, .int (nI (1))), (22, .int (nI (Ns 0 6 - 1 + pcn ck 4 - 60))), (21, .int (nI (pcn ck 4))), (20, .int (nI (Ms 0 6))), (17, .int (nI (q))), (18, .int (nI (ck))), (10, .int (nI (vt))), (9, .int (nI (st))), (11, .int (nI (rc))), (0, .ref (b 0)), (1, .int (nI (p))), (2, .int (nI (Ns 0 6))), (3, .int (nI (k))), (4, .int (nI (d))), (5, .int (nI (f))), (6, .int (nI (4))), (7, .int (zb (Ns 0 14 = 1))), (8, .int (nI (Ns 0 (30 + 14 * d + 0)))), (12, .int (nI (Ns 0 8))), (13, .int (nI (Ns 0 24))), (14, .int (nI (Ns 0 29)))]) (lv_sub hl [0, 1, 2, 3, 4, 5, 6, 7, 8, 9, 10, 11, 12, 13, 14, 15, 16, 17, 18, 19, 20] rfl) (rfl))
                                              · skip
                                                refine lv_iconst (v := nI 1) E.1 E.2.1 dL_isDelivered_849 (by decide) ?_
                                                refine lv_goto (tgt := 854) E.1 E.2.1 dL_isDelivered_850 (by decide) ?_
                                                refine lv_eqi (y := nI (if Ns 0 14 = 1 then 1 else 0)) (by rw [if_pos c846]) ?_
                                                exact jk844  (trivial) _ _ _ (HB.eq hw (rfl)) (lvh_eq (l := [(23, .int (nI (1))), (22, .int (nI (Ns 0 6 - 1 + pcn ck 4 - 60))), (21, .int (nI (pcn ck 4))), (20, .int (nI (Ms 0 6))), (17, .int (nI (q))), (18, .int (nI (ck))), (10, .int (nI (vt))), (9, .int (nI (st))), (11, .int (nI (rc))), (0, .ref (b 0)), (1, .int (nI (p))), (2, .int (nI (Ns 0 6))), (3, .int (nI (k))), (4, .int (nI (d))), (5, .int (nI (f))), (6, .int (nI (4))), (7, .int (zb (Ns 0 14 = 1))), (8, .int (nI (Ns 0 (30 + 14 * d + 0)))), (12, .int (nI (Ns 0 8))), (13, .int (nI (Ns 0 24))), (14, .int (nI (Ns 0 29)))]) (lv_sub hl [0, 1, 2, 3, 4, 5, 6, 7, 8, 9, 10, 11, 12, 13, 14, 15, 16, 17, 18, 19, 20] rfl) (rfl))
                                            · intro  hP844 H locs ls hw hl
                                              replace hw : HB G AA sS.heap (cW G b ad vs pd rv Ms) H locs := hw
                                              replace hl : lv_has ls 24 [(23, .int (nI (1))), (22, .int (nI (Ns 0 6 - 1 + pcn ck 4 - 60))), (21, .int (nI (pcn ck 4))), (20, .int (nI (Ms 0 6))), (17, .int (nI (q))), (18, .int (nI (ck))), (10, .int (nI (vt))), (9, .int (nI (st))), (11, .int (nI (rc))), (0, .ref (b 0)), (1, .int (nI (p))), (2, .int (nI (Ns 0 6))), (3, .int (nI (k))), (4, .int (nI (d))), (5, .int (nI (f))), (6, .int (nI (4))), (7, .int (zb (Ns 0 14 = 1))), (8, .int (nI (Ns 0 (30 + 14 * d + 0)))), (12, .int (nI (Ns 0 8))), (13, .int (nI (Ns 0 24))), (14, .int (nI (Ns 0 29)))] := hl
                                              show W _ _ _ _ _ _ _ _ _ _ _ _ _ _ _ (F0 mM 854 ls [.int (nI (if Ns 0 14 = 1 then 1 else 0)), .int (nI (Ns 0 8)), .int (nI (Ms 0 8))])
                                              refine lv_addN E.1 E.2.1 dL_isDelivered_854 ?_
                                              refine lv_iload E.1 E.2.1 dL_isDelivered_855 (lv_at hl 1 rfl) ?_
                                              refine lv_addN E.1 E.2.1 dL_isDelivered_857 ?_
                                              refine lv_icmp_ne (tgt := 865) E.1 E.2.1 dL_isDelivered_858 (by decide) (fun c858 => ?_) (fun c858 => ?_)
                                              · exact absurd (congrArg nI (show Ms 0 8 = Ns 0 8 + (if Ns 0 14 = 1 then 1 else 0) + (Ns 0 6 - 1 + pcn ck 4 - 60) by split <;> omega)) c858
                                              · skip
                                                refine lv_iconst (v := nI 1) E.1 E.2.1 dL_isDelivered_861 (by decide) ?_
                                                refine lv_goto (tgt := 866) E.1 E.2.1 dL_isDelivered_862 (by decide) ?_
                                                refine W.widen (k := 0) (n := 0) (Nat.le_of_ble_eq_true rfl) (Nat.le_of_ble_eq_true rfl) ?_
                                                exact rU E hr hlk (vs, Ms) (⟨hcv2, by rw [hdel]; exact e0⟩) (HB.eq hw (rfl)) dL_isDelivered_866
                    · omega
      · exact absurd c144 (by decide)
  · omega
theorem c_L_isDelivered (l : Launch) (G : GP) (b : Nat → Nat) (ad : Nat → Nat → Nat) (v pd rv : Nat → Int32) (Ns : Nat → NS) (hcv : CV v) (hI : Inv (Ns 0)) (hDV : dvI (Ns 0) 5 = Ns 0 7) (hV : VI (Ns 0)) (p : Nat) (hp : p < Ns 0 6 ∨ (p = 0 ∧ Ns 0 6 = 0)) : MU l yL_isDelivered (.code yL_isDelivered cL_isDelivered 24 (some .boolean) :: GW) ({ frames := 7, cells := 0, slots := 0, locals := 200 }) [.ref (b 0), .int (nI (p))] G ES (cW G b ad v pd rv Ns) (fun u : (Nat → Int32) × (Nat → NS) => cW G b ad u.1 pd rv u.2) (fun u => CV u.1 ∧ u.2 0 = nDel p (Ns 0)) := by
  rcases hp with hp | ⟨rfl, h0⟩
  · have ht5 : Ns 0 (150 + 4 * p + 3) < 5 := (hI.2.1 p hp).2.2.2.1
    by_cases ht : Ns 0 (150 + 4 * p + 3) < 4
    · exact c_L_isDelivered_c l G b ad v pd rv Ns hcv hI hDV hV p _ _ _ _ hp rfl rfl rfl rfl ht
    · exact c_L_isDelivered_b l G b ad v pd rv Ns hcv hI hDV hV p _ _ _ hp rfl rfl rfl (by omega)
  · exact c_L_isDelivered_no l G b ad v pd rv Ns hcv hI hDV hV h0

theorem YL_isDelivered : YS yL_isDelivered RL cL_isDelivered 24 (some .boolean) 2 := ⟨mn_13_22, mn_3_2, mn_13_23, by decide +kernel⟩
set_option maxHeartbeats 4000000 in
set_option maxRecDepth 100000 in
theorem c_L_isDelivered_no (l : Launch) (G : GP) (b : Nat → Nat) (ad : Nat → Nat → Nat) (v pd rv : Nat → Int32) (Ns : Nat → NS) (hcv : CV v) (hI : Inv (Ns 0)) (hDV : dvI (Ns 0) 5 = Ns 0 7) (hV : VI (Ns 0)) (h0 : Ns 0 6 = 0) : MU l yL_isDelivered (.code yL_isDelivered cL_isDelivered 24 (some .boolean) :: GW) ({ frames := 7, cells := 0, slots := 0, locals := 200 }) [.ref (b 0), .int (nI (0))] G (ES) (cW G b ad v pd rv Ns) (fun u : (Nat → Int32) × (Nat → NS) => cW G b ad u.1 pd rv u.2) (fun u => CV u.1 ∧ u.2 0 = nDel 0 (Ns 0)) := by
  refine MU.of (own := RL) rfl rfl (Nat.le_of_ble_eq_true rfl) ?_
  intro pP eE sS mM below meth cC ls AA E hw hl hr hlk hE
  replace hl : lv_has ls 24 [(0, .ref (b 0)), (1, .int (nI (0)))] := hl
  have hF := hI.1
  have hm := hI.hm
  have h5 := hF.2.1
  have h6 := hF.1
  obtain ⟨nx, u, hx0, hnx, hu0, hu6⟩ := id hcv
  have hb : ¬ (0 ≤ nI 0 ∧ nI 0 < nI (Ns 0 6)) := by rw [h0]; decide
  refine lv_aload_n E.1 E.2.1 dL_isDelivered_0 rfl (lv_at hl 0 rfl) ?_
  refine lv_iconst (v := nI 2) E.1 E.2.1 dL_isDelivered_1 (by decide) ?_
  refine callVIp E (c_X3_count_ok l G b ad v pd rv Ns 2 (by decide) (by decide) (by decide) hF hDV) ES.eb (fun _ _ _ => trivial) mn_3_8 YX3_count ⟨rfl, rfl⟩ ⟨Nat.le_of_ble_eq_true rfl, Nat.le_of_ble_eq_true rfl⟩ ⟨Nat.le_of_ble_eq_true rfl, Nat.le_of_ble_eq_true rfl⟩ hw (rr := []) (big' := cW G b ad v pd rv Ns) (by rw [List.append_nil]) (by rw [List.append_nil]) 0 rfl rfl rfl hl rfl (Nat.le_of_ble_eq_true rfl) dL_isDelivered_2 (fun H locs hw => ?_)
  refine lv_eqi (y := nI (Ns 0 6)) (rfl) ?_
  refine lv_istore_n (lv' := [(2, .int (nI (Ns 0 6))), (0, .ref (b 0)), (1, .int (nI (0)))]) E.1 E.2.1 dL_isDelivered_5 rfl hl (by decide) rfl (fun ls hl => ?_)
  refine lv_aload_n E.1 E.2.1 dL_isDelivered_6 rfl (lv_at hl 1 rfl) ?_
  refine lv_iload_n E.1 E.2.1 dL_isDelivered_7 rfl (lv_at hl 2 rfl) ?_
  refine lv_iconst (v := nI 0) E.1 E.2.1 dL_isDelivered_8 (by decide) ?_
  refine callVIp E (c_X3_message_bad1 l G b ad v pd rv Ns (nI 0) hb (nI 0)) ES.eb (fun _ _ _ => trivial) mn_8_8 YX3_message ⟨rfl, rfl⟩ ⟨Nat.le_of_ble_eq_true rfl, Nat.le_of_ble_eq_true rfl⟩ ⟨Nat.le_of_ble_eq_true rfl, Nat.le_of_ble_eq_true rfl⟩ hw (rr := []) (big' := cW G b ad v pd rv Ns) (by rw [List.append_nil]) (by rw [List.append_nil]) 0 rfl rfl rfl hl rfl (Nat.le_of_ble_eq_true rfl) dL_isDelivered_9 (fun H locs hw => ?_)
  refine lv_istore_n (lv' := [(3, .int (-1)), (2, .int (nI (Ns 0 6))), (0, .ref (b 0)), (1, .int (nI (0)))]) E.1 E.2.1 dL_isDelivered_12 rfl hl (by decide) rfl (fun ls hl => ?_)
  refine lv_aload_n E.1 E.2.1 dL_isDelivered_13 rfl (lv_at hl 2 rfl) ?_
  refine lv_iload_n E.1 E.2.1 dL_isDelivered_14 rfl (lv_at hl 3 rfl) ?_
  refine lv_iconst (v := nI 1) E.1 E.2.1 dL_isDelivered_15 (by decide) ?_
  refine callVIp E (c_X3_message_bad1 l G b ad v pd rv Ns (nI 0) hb (nI 1)) ES.eb (fun _ _ _ => trivial) mn_8_8 YX3_message ⟨rfl, rfl⟩ ⟨Nat.le_of_ble_eq_true rfl, Nat.le_of_ble_eq_true rfl⟩ ⟨Nat.le_of_ble_eq_true rfl, Nat.le_of_ble_eq_true rfl⟩ hw (rr := []) (big' := cW G b ad v pd rv Ns) (by rw [List.append_nil]) (by rw [List.append_nil]) 0 rfl rfl rfl hl rfl (Nat.le_of_ble_eq_true rfl) dL_isDelivered_16 (fun H locs hw => ?_)
  refine lv_istore (lv' := [(4, .int (-1)), (3, .int (-1)), (2, .int (nI (Ns 0 6))), (0, .ref (b 0)), (1, .int (nI (0)))]) E.1 E.2.1 dL_isDelivered_19 hl (by decide) rfl (fun ls hl => ?_)
  refine lv_aload_n E.1 E.2.1 dL_isDelivered_21 rfl (lv_at hl 3 rfl) ?_
  refine lv_iload_n E.1 E.2.1 dL_isDelivered_22 rfl (lv_at hl 4 rfl) ?_
  refine lv_iconst (v := nI 2) E.1 E.2.1 dL_isDelivered_23 (by decide) ?_
  refine callVIp E (c_X3_message_bad1 l G b ad v pd rv Ns (nI 0) hb (nI 2)) ES.eb (fun _ _ _ => trivial) mn_8_8 YX3_message ⟨rfl, rfl⟩ ⟨Nat.le_of_ble_eq_true rfl, Nat.le_of_ble_eq_true rfl⟩ ⟨Nat.le_of_ble_eq_true rfl, Nat.le_of_ble_eq_true rfl⟩ hw (rr := []) (big' := cW G b ad v pd rv Ns) (by rw [List.append_nil]) (by rw [List.append_nil]) 0 rfl rfl rfl hl rfl (Nat.le_of_ble_eq_true rfl) dL_isDelivered_24 (fun H locs hw => ?_)
  refine lv_istore (lv' := [(5, .int (-1)), (4, .int (-1)), (3, .int (-1)), (2, .int (nI (Ns 0 6))), (0, .ref (b 0)), (1, .int (nI (0)))]) E.1 E.2.1 dL_isDelivered_27 hl (by decide) rfl (fun ls hl => ?_)
  refine lv_aload_n E.1 E.2.1 dL_isDelivered_29 rfl (lv_at hl 4 rfl) ?_
  refine lv_iload_n E.1 E.2.1 dL_isDelivered_30 rfl (lv_at hl 5 rfl) ?_
  refine lv_iconst (v := nI 3) E.1 E.2.1 dL_isDelivered_31 (by decide) ?_
  refine callVIp E (c_X3_message_bad1 l G b ad v pd rv Ns (nI 0) hb (nI 3)) ES.eb (fun _ _ _ => trivial) mn_8_8 YX3_message ⟨rfl, rfl⟩ ⟨Nat.le_of_ble_eq_true rfl, Nat.le_of_ble_eq_true rfl⟩ ⟨Nat.le_of_ble_eq_true rfl, Nat.le_of_ble_eq_true rfl⟩ hw (rr := []) (big' := cW G b ad v pd rv Ns) (by rw [List.append_nil]) (by rw [List.append_nil]) 0 rfl rfl rfl hl rfl (Nat.le_of_ble_eq_true rfl) dL_isDelivered_32 (fun H locs hw => ?_)
  refine lv_istore (lv' := [(6, .int (-1)), (5, .int (-1)), (4, .int (-1)), (3, .int (-1)), (2, .int (nI (Ns 0 6))), (0, .ref (b 0)), (1, .int (nI (0)))]) E.1 E.2.1 dL_isDelivered_35 hl (by decide) rfl (fun ls hl => ?_)
  refine lv_iload_n E.1 E.2.1 dL_isDelivered_37 rfl (lv_at hl 6 rfl) ?_
  refine lv_iload_n E.1 E.2.1 dL_isDelivered_38 rfl (lv_at hl 4 rfl) ?_
  refine lv_icmp_ltN (tgt := 62) E.1 E.2.1 (by omega) (by omega) dL_isDelivered_39 (by decide) (fun c39 => ?_) (fun c39 => ?_)
  · omega
  · skip
    refine lv_aload_n E.1 E.2.1 dL_isDelivered_42 rfl (lv_at hl 5 rfl) ?_
    refine lv_iload_n E.1 E.2.1 dL_isDelivered_43 rfl (lv_at hl 6 rfl) ?_
    refine callVIp E (c_X3_deliver_bad l G b ad v pd rv Ns nx u hx0 hnx hu0 hu6 (nI 0) hb) ES.eb (fun _ _ _ => trivial) mn_14_0 YX3_deliver ⟨rfl, rfl⟩ ⟨Nat.le_of_ble_eq_true rfl, Nat.le_of_ble_eq_true rfl⟩ ⟨Nat.le_of_ble_eq_true rfl, Nat.le_of_ble_eq_true rfl⟩ hw (rr := []) (big' := cW G b ad v pd rv (va_up (Ns) (2 + nx) (Ns 0))) (by rw [List.append_nil]) (by rw [List.append_nil]) 0 rfl rfl rfl hl rfl (Nat.le_of_ble_eq_true rfl) dL_isDelivered_44 (fun H locs hw => ?_)
    refine lv_iconst (v := -1) E.1 E.2.1 dL_isDelivered_47 (by decide) ?_
    refine lv_icmp_ne (tgt := 60) E.1 E.2.1 dL_isDelivered_48 (by decide) (fun c48 => ?_) (fun c48 => ?_)
    · exact absurd c48 (by decide)
    · skip
      refine lv_iload_n E.1 E.2.1 dL_isDelivered_51 rfl (lv_at hl 3 rfl) ?_
      refine lv_iconst (v := -1) E.1 E.2.1 dL_isDelivered_52 (by decide) ?_
      refine lv_icmp_ne (tgt := 60) E.1 E.2.1 dL_isDelivered_53 (by decide) (fun c53 => ?_) (fun c53 => ?_)
      · exact absurd c53 (by decide)
      · skip
        refine lv_iconst (v := nI 1) E.1 E.2.1 dL_isDelivered_56 (by decide) ?_
        refine lv_goto (tgt := 61) E.1 E.2.1 dL_isDelivered_57 (by decide) ?_
        refine W.widen (k := 0) (n := 0) (Nat.le_of_ble_eq_true rfl) (Nat.le_of_ble_eq_true rfl) ?_
        exact rU E hr hlk (v, va_up (Ns) (2 + nx) (Ns 0)) (⟨hcv, by rw [nDel, if_neg (by omega)]; exact va_up_ne _ _ (by omega)⟩) (HB.eq hw (rfl)) dL_isDelivered_61
theorem thF_lt {k a w : Nat} (h : a < 4) : thF k a w < 4 := by
  unfold thF
  split
  · split <;> decide
  · split
    · decide
    · split
      · decide
      · exact h
set_option maxHeartbeats 4000000 in
set_option maxRecDepth 100000 in
theorem c_L_isDelivered_c (l : Launch) (G : GP) (b : Nat → Nat) (ad : Nat → Nat → Nat) (v pd rv : Nat → Int32) (Ns : Nat → NS) (hcv : CV v) (hI : Inv (Ns 0)) (hDV : dvI (Ns 0) 5 = Ns 0 7) (hV : VI (Ns 0)) (p k d f t : Nat) (hp : p < Ns 0 6) (m0 : Ns 0 (150 + 4 * p + 0) = k) (m1 : Ns 0 (150 + 4 * p + 1) = d) (m2 : Ns 0 (150 + 4 * p + 2) = f) (m3 : Ns 0 (150 + 4 * p + 3) = t) (ht4 : t < 4) : MU l yL_isDelivered (.code yL_isDelivered cL_isDelivered 24 (some .boolean) :: GW) ({ frames := 7, cells := 0, slots := 0, locals := 200 }) [.ref (b 0), .int (nI (p))] G (ES) (cW G b ad v pd rv Ns) (fun u : (Nat → Int32) × (Nat → NS) => cW G b ad u.1 pd rv u.2) (fun u => CV u.1 ∧ u.2 0 = nDel p (Ns 0)) := by
  refine MU.of (own := RL) rfl rfl (Nat.le_of_ble_eq_true rfl) ?_
  intro pP eE sS mM below meth cC ls AA E hw hl hr hlk hE
  replace hl : lv_has ls 24 [(0, .ref (b 0)), (1, .int (nI (p)))] := hl
  have hF := hI.1
  have hm := hI.hm
  have h5 := hF.2.1
  have h6 := hF.1
  obtain ⟨nx, u, hx0, hnx, hu0, hu6⟩ := id hcv
  have hmok : mok (Ns 0 (30 + 14 * d + 0)) (Ns 0 5) k d f t := by rw [← m0, ← m1, ← m2, ← m3]; exact hI.2.1 p hp
  obtain ⟨hk7, hd5, hf5, ht5, htS, hfS, hk4, hk3, hk6⟩ := hmok
  have hd8 : d < 8 := by omega
  have qS := hF.f0 hd8
  have qT := hF.f1 hd8
  have q4 := hF.f4 hd8
  have q5 := hF.f5 hd8
  have it := hF.il (w := t) ht5
  have hdel : nDel p (Ns 0) = mDlv p (Ns 0) := if_pos hp
  have qa := hF.f6 hd8 ht4
  have hkk : k = 0 ∨ k = 3 ∨ k = 4 ∨ k = 6 := by omega
  refine lv_aload_n E.1 E.2.1 dL_isDelivered_0 rfl (lv_at hl 0 rfl) ?_
  refine lv_iconst (v := nI 2) E.1 E.2.1 dL_isDelivered_1 (by decide) ?_
  refine callVIp E (c_X3_count_ok l G b ad v pd rv Ns 2 (by decide) (by decide) (by decide) hF hDV) ES.eb (fun _ _ _ => trivial) mn_3_8 YX3_count ⟨rfl, rfl⟩ ⟨Nat.le_of_ble_eq_true rfl, Nat.le_of_ble_eq_true rfl⟩ ⟨Nat.le_of_ble_eq_true rfl, Nat.le_of_ble_eq_true rfl⟩ hw (rr := []) (big' := cW G b ad v pd rv Ns) (by rw [List.append_nil]) (by rw [List.append_nil]) 0 rfl rfl rfl hl rfl (Nat.le_of_ble_eq_true rfl) dL_isDelivered_2 (fun H locs hw => ?_)
  refine lv_eqi (y := nI (Ns 0 6)) (rfl) ?_
  refine lv_istore_n (lv' := [(2, .int (nI (Ns 0 6))), (0, .ref (b 0)), (1, .int (nI (p)))]) E.1 E.2.1 dL_isDelivered_5 rfl hl (by decide) rfl (fun ls hl => ?_)
  refine lv_aload_n E.1 E.2.1 dL_isDelivered_6 rfl (lv_at hl 1 rfl) ?_
  refine lv_iload_n E.1 E.2.1 dL_isDelivered_7 rfl (lv_at hl 2 rfl) ?_
  refine lv_iconst (v := nI 0) E.1 E.2.1 dL_isDelivered_8 (by decide) ?_
  refine callVIp E (c_X3_message_ok l G b ad v pd rv Ns p (by omega) hF 0 (by decide)) ES.eb (fun _ _ _ => trivial) mn_8_8 YX3_message ⟨rfl, rfl⟩ ⟨Nat.le_of_ble_eq_true rfl, Nat.le_of_ble_eq_true rfl⟩ ⟨Nat.le_of_ble_eq_true rfl, Nat.le_of_ble_eq_true rfl⟩ hw (rr := []) (big' := cW G b ad v pd rv Ns) (by rw [List.append_nil]) (by rw [List.append_nil]) 0 rfl rfl rfl hl rfl (Nat.le_of_ble_eq_true rfl) dL_isDelivered_9 (fun H locs hw => ?_)
  refine lv_eqi (y := nI (k)) (congrArg nI m0) ?_
  refine lv_istore_n (lv' := [(3, .int (nI (k))), (2, .int (nI (Ns 0 6))), (0, .ref (b 0)), (1, .int (nI (p)))]) E.1 E.2.1 dL_isDelivered_12 rfl hl (by decide) rfl (fun ls hl => ?_)
  refine lv_aload_n E.1 E.2.1 dL_isDelivered_13 rfl (lv_at hl 2 rfl) ?_
  refine lv_iload_n E.1 E.2.1 dL_isDelivered_14 rfl (lv_at hl 3 rfl) ?_
  refine lv_iconst (v := nI 1) E.1 E.2.1 dL_isDelivered_15 (by decide) ?_
  refine callVIp E (c_X3_message_ok l G b ad v pd rv Ns p (by omega) hF 1 (by decide)) ES.eb (fun _ _ _ => trivial) mn_8_8 YX3_message ⟨rfl, rfl⟩ ⟨Nat.le_of_ble_eq_true rfl, Nat.le_of_ble_eq_true rfl⟩ ⟨Nat.le_of_ble_eq_true rfl, Nat.le_of_ble_eq_true rfl⟩ hw (rr := []) (big' := cW G b ad v pd rv Ns) (by rw [List.append_nil]) (by rw [List.append_nil]) 0 rfl rfl rfl hl rfl (Nat.le_of_ble_eq_true rfl) dL_isDelivered_16 (fun H locs hw => ?_)
  refine lv_eqi (y := nI (d)) (congrArg nI m1) ?_
  refine lv_istore (lv' := [(4, .int (nI (d))), (3, .int (nI (k))), (2, .int (nI (Ns 0 6))), (0, .ref (b 0)), (1, .int (nI (p)))]) E.1 E.2.1 dL_isDelivered_19 hl (by decide) rfl (fun ls hl => ?_)
  refine lv_aload_n E.1 E.2.1 dL_isDelivered_21 rfl (lv_at hl 3 rfl) ?_
  refine lv_iload_n E.1 E.2.1 dL_isDelivered_22 rfl (lv_at hl 4 rfl) ?_
  refine lv_iconst (v := nI 2) E.1 E.2.1 dL_isDelivered_23 (by decide) ?_
  refine callVIp E (c_X3_message_ok l G b ad v pd rv Ns p (by omega) hF 2 (by decide)) ES.eb (fun _ _ _ => trivial) mn_8_8 YX3_message ⟨rfl, rfl⟩ ⟨Nat.le_of_ble_eq_true rfl, Nat.le_of_ble_eq_true rfl⟩ ⟨Nat.le_of_ble_eq_true rfl, Nat.le_of_ble_eq_true rfl⟩ hw (rr := []) (big' := cW G b ad v pd rv Ns) (by rw [List.append_nil]) (by rw [List.append_nil]) 0 rfl rfl rfl hl rfl (Nat.le_of_ble_eq_true rfl) dL_isDelivered_24 (fun H locs hw => ?_)
  refine lv_eqi (y := nI (f)) (congrArg nI m2) ?_
  refine lv_istore (lv' := [(5, .int (nI (f))), (4, .int (nI (d))), (3, .int (nI (k))), (2, .int (nI (Ns 0 6))), (0, .ref (b 0)), (1, .int (nI (p)))]) E.1 E.2.1 dL_isDelivered_27 hl (by decide) rfl (fun ls hl => ?_)
  refine lv_aload_n E.1 E.2.1 dL_isDelivered_29 rfl (lv_at hl 4 rfl) ?_
  refine lv_iload_n E.1 E.2.1 dL_isDelivered_30 rfl (lv_at hl 5 rfl) ?_
  refine lv_iconst (v := nI 3) E.1 E.2.1 dL_isDelivered_31 (by decide) ?_
  refine callVIp E (c_X3_message_ok l G b ad v pd rv Ns p (by omega) hF 3 (by decide)) ES.eb (fun _ _ _ => trivial) mn_8_8 YX3_message ⟨rfl, rfl⟩ ⟨Nat.le_of_ble_eq_true rfl, Nat.le_of_ble_eq_true rfl⟩ ⟨Nat.le_of_ble_eq_true rfl, Nat.le_of_ble_eq_true rfl⟩ hw (rr := []) (big' := cW G b ad v pd rv Ns) (by rw [List.append_nil]) (by rw [List.append_nil]) 0 rfl rfl rfl hl rfl (Nat.le_of_ble_eq_true rfl) dL_isDelivered_32 (fun H locs hw => ?_)
  refine lv_eqi (y := nI (t)) (congrArg nI m3) ?_
  refine lv_istore (lv' := [(6, .int (nI (t))), (5, .int (nI (f))), (4, .int (nI (d))), (3, .int (nI (k))), (2, .int (nI (Ns 0 6))), (0, .ref (b 0)), (1, .int (nI (p)))]) E.1 E.2.1 dL_isDelivered_35 hl (by decide) rfl (fun ls hl => ?_)
  refine lv_iload_n E.1 E.2.1 dL_isDelivered_37 rfl (lv_at hl 6 rfl) ?_
  refine lv_iload_n E.1 E.2.1 dL_isDelivered_38 rfl (lv_at hl 4 rfl) ?_
  refine lv_icmp_ltN (tgt := 62) E.1 E.2.1 (by omega) (by omega) dL_isDelivered_39 (by decide) (fun c39 => ?_) (fun c39 => ?_)
  · skip
    refine W_join0 (G := G) (A := AA) (H0 := sS.heap) (nL := 24) 78 (True) (cW G b ad v pd rv Ns) ([(6, .int (nI (t))), (5, .int (nI (f))), (4, .int (nI (d))), (3, .int (nI (k))), (2, .int (nI (Ns 0 6))), (0, .ref (b 0)), (1, .int (nI (p)))]) ([.int (zb (Ns 0 (10 + t) = 1))]) (fun jk62 => ?_) ?_
    · skip
      refine lv_aload_n E.1 E.2.1 dL_isDelivered_62 rfl (lv_at hl 5 rfl) ?_
      refine lv_iload E.1 E.2.1 dL_isDelivered_63 (lv_at hl 0 rfl) ?_
      refine lv_iconst (v := nI 0) E.1 E.2.1 dL_isDelivered_65 (by decide) ?_
      refine callVIp E (c_X3_who_ok l G b ad v pd rv Ns t 0 (by omega) (by decide) hF hm) ES.eb (fun _ _ _ => trivial) mn_6_14 YX3_who ⟨rfl, rfl⟩ ⟨Nat.le_of_ble_eq_true rfl, Nat.le_of_ble_eq_true rfl⟩ ⟨Nat.le_of_ble_eq_true rfl, Nat.le_of_ble_eq_true rfl⟩ hw (rr := []) (big' := cW G b ad v pd rv Ns) (by rw [List.append_nil]) (by rw [List.append_nil]) 0 rfl rfl rfl hl rfl (Nat.le_of_ble_eq_true rfl) dL_isDelivered_66 (fun H locs hw => ?_)
      refine lv_eqi (y := nI (Ns 0 (10 + t))) (rfl) ?_
      refine lv_iconst (v := nI 1) E.1 E.2.1 dL_isDelivered_69 (by decide) ?_
      refine lv_icmp_neN (tgt := 77) E.1 E.2.1 (by omega) (by omega) dL_isDelivered_70 (by decide) (fun c70 => ?_) (fun c70 => ?_)
      · skip
        refine lv_iconst (v := nI 0) E.1 E.2.1 dL_isDelivered_77 (by decide) ?_
        refine lv_eqi (y := zb (Ns 0 (10 + t) = 1)) ((zb_f (c70)).symm) ?_
        exact jk62  (trivial) _ _ _ (HB.eq hw (rfl)) (lvh_eq (l := [(6, .int (nI (t))), (5, .int (nI (f))), (4, .int (nI (d))), (3, .int (nI (k))), (2, .int (nI (Ns 0 6))), (0, .ref (b 0)), (1, .int (nI (p)))]) (lv_sub hl [0, 1, 2, 3, 4, 5, 6] rfl) (rfl))
      · skip
        refine lv_iconst (v := nI 1) E.1 E.2.1 dL_isDelivered_73 (by decide) ?_
        refine lv_goto (tgt := 78) E.1 E.2.1 dL_isDelivered_74 (by decide) ?_
        refine lv_eqi (y := zb (Ns 0 (10 + t) = 1)) ((zb_t (c70)).symm) ?_
        exact jk62  (trivial) _ _ _ (HB.eq hw (rfl)) (lvh_eq (l := [(6, .int (nI (t))), (5, .int (nI (f))), (4, .int (nI (d))), (3, .int (nI (k))), (2, .int (nI (Ns 0 6))), (0, .ref (b 0)), (1, .int (nI (p)))]) (lv_sub hl [0, 1, 2, 3, 4, 5, 6] rfl) (rfl))
    · intro  hP62 H locs ls hw hl
      replace hw : HB G AA sS.heap (cW G b ad v pd rv Ns) H locs := hw
      replace hl : lv_has ls 24 [(6, .int (nI (t))), (5, .int (nI (f))), (4, .int (nI (d))), (3, .int (nI (k))), (2, .int (nI (Ns 0 6))), (0, .ref (b 0)), (1, .int (nI (p)))] := hl
      show W _ _ _ _ _ _ _ _ _ _ _ _ _ _ _ (F0 mM 78 ls [.int (zb (Ns 0 (10 + t) = 1))])
      refine lv_istore (lv' := [(7, .int (zb (Ns 0 (10 + t) = 1))), (6, .int (nI (t))), (5, .int (nI (f))), (4, .int (nI (d))), (3, .int (nI (k))), (2, .int (nI (Ns 0 6))), (0, .ref (b 0)), (1, .int (nI (p)))]) E.1 E.2.1 dL_isDelivered_78 hl (by decide) rfl (fun ls hl => ?_)
      refine lv_aload_n E.1 E.2.1 dL_isDelivered_80 rfl (lv_at hl 6 rfl) ?_
      refine lv_iload E.1 E.2.1 dL_isDelivered_81 (lv_at hl 3 rfl) ?_
      refine lv_iconst (v := nI 0) E.1 E.2.1 dL_isDelivered_83 (by decide) ?_
      refine callVIp E (c_X3_ofDeal_ok l G b ad v pd rv Ns d (by omega) hF 0 (by decide)) ES.eb (fun _ _ _ => trivial) mn_7_11 YX3_ofDeal ⟨rfl, rfl⟩ ⟨Nat.le_of_ble_eq_true rfl, Nat.le_of_ble_eq_true rfl⟩ ⟨Nat.le_of_ble_eq_true rfl, Nat.le_of_ble_eq_true rfl⟩ hw (rr := []) (big' := cW G b ad v pd rv Ns) (by rw [List.append_nil]) (by rw [List.append_nil]) 0 rfl rfl rfl hl rfl (Nat.le_of_ble_eq_true rfl) dL_isDelivered_84 (fun H locs hw => ?_)
      refine lv_eqi (y := nI (Ns 0 (30 + 14 * d + 0))) (rfl) ?_
      refine lv_istore (lv' := [(8, .int (nI (Ns 0 (30 + 14 * d + 0)))), (7, .int (zb (Ns 0 (10 + t) = 1))), (6, .int (nI (t))), (5, .int (nI (f))), (4, .int (nI (d))), (3, .int (nI (k))), (2, .int (nI (Ns 0 6))), (0, .ref (b 0)), (1, .int (nI (p)))]) E.1 E.2.1 dL_isDelivered_87 hl (by decide) rfl (fun ls hl => ?_)
      refine lv_aload_n E.1 E.2.1 dL_isDelivered_89 rfl (lv_at hl 7 rfl) ?_
      refine lv_iload E.1 E.2.1 dL_isDelivered_90 (lv_at hl 4 rfl) ?_
      refine lv_iconst (v := nI 1) E.1 E.2.1 dL_isDelivered_92 (by decide) ?_
      refine callVIp E (c_X3_ofDeal_ok l G b ad v pd rv Ns d (by omega) hF 1 (by decide)) ES.eb (fun _ _ _ => trivial) mn_7_11 YX3_ofDeal ⟨rfl, rfl⟩ ⟨Nat.le_of_ble_eq_true rfl, Nat.le_of_ble_eq_true rfl⟩ ⟨Nat.le_of_ble_eq_true rfl, Nat.le_of_ble_eq_true rfl⟩ hw (rr := []) (big' := cW G b ad v pd rv Ns) (by rw [List.append_nil]) (by rw [List.append_nil]) 0 rfl rfl rfl hl rfl (Nat.le_of_ble_eq_true rfl) dL_isDelivered_93 (fun H locs hw => ?_)
      refine lv_eqi (y := nI (Ns 0 (30 + 14 * d + 1))) (rfl) ?_
      refine lv_istore (lv' := [(9, .int (nI (Ns 0 (30 + 14 * d + 1)))), (8, .int (nI (Ns 0 (30 + 14 * d + 0)))), (7, .int (zb (Ns 0 (10 + t) = 1))), (6, .int (nI (t))), (5, .int (nI (f))), (4, .int (nI (d))), (3, .int (nI (k))), (2, .int (nI (Ns 0 6))), (0, .ref (b 0)), (1, .int (nI (p)))]) E.1 E.2.1 dL_isDelivered_96 hl (by decide) rfl (fun ls hl => ?_)
      refine lv_aload_n E.1 E.2.1 dL_isDelivered_98 rfl (lv_at hl 8 rfl) ?_
      refine lv_iload E.1 E.2.1 dL_isDelivered_99 (lv_at hl 5 rfl) ?_
      refine lv_iconst (v := nI 3) E.1 E.2.1 dL_isDelivered_101 (by decide) ?_
      refine callVIp E (c_X3_ofDeal_ok l G b ad v pd rv Ns d (by omega) hF 3 (by decide)) ES.eb (fun _ _ _ => trivial) mn_7_11 YX3_ofDeal ⟨rfl, rfl⟩ ⟨Nat.le_of_ble_eq_true rfl, Nat.le_of_ble_eq_true rfl⟩ ⟨Nat.le_of_ble_eq_true rfl, Nat.le_of_ble_eq_true rfl⟩ hw (rr := []) (big' := cW G b ad v pd rv Ns) (by rw [List.append_nil]) (by rw [List.append_nil]) 0 rfl rfl rfl hl rfl (Nat.le_of_ble_eq_true rfl) dL_isDelivered_102 (fun H locs hw => ?_)
      refine lv_eqi (y := nI (Ns 0 (30 + 14 * d + 4))) (rfl) ?_
      refine lv_istore (lv' := [(10, .int (nI (Ns 0 (30 + 14 * d + 4)))), (9, .int (nI (Ns 0 (30 + 14 * d + 1)))), (8, .int (nI (Ns 0 (30 + 14 * d + 0)))), (7, .int (zb (Ns 0 (10 + t) = 1))), (6, .int (nI (t))), (5, .int (nI (f))), (4, .int (nI (d))), (3, .int (nI (k))), (2, .int (nI (Ns 0 6))), (0, .ref (b 0)), (1, .int (nI (p)))]) E.1 E.2.1 dL_isDelivered_105 hl (by decide) rfl (fun ls hl => ?_)
      refine lv_aload_n E.1 E.2.1 dL_isDelivered_107 rfl (lv_at hl 9 rfl) ?_
      refine lv_iload E.1 E.2.1 dL_isDelivered_108 (lv_at hl 6 rfl) ?_
      refine lv_iconst (v := nI 4) E.1 E.2.1 dL_isDelivered_110 (by decide) ?_
      refine callVIp E (c_X3_ofDeal_ok l G b ad v pd rv Ns d (by omega) hF 4 (by decide)) ES.eb (fun _ _ _ => trivial) mn_7_11 YX3_ofDeal ⟨rfl, rfl⟩ ⟨Nat.le_of_ble_eq_true rfl, Nat.le_of_ble_eq_true rfl⟩ ⟨Nat.le_of_ble_eq_true rfl, Nat.le_of_ble_eq_true rfl⟩ hw (rr := []) (big' := cW G b ad v pd rv Ns) (by rw [List.append_nil]) (by rw [List.append_nil]) 0 rfl rfl rfl hl rfl (Nat.le_of_ble_eq_true rfl) dL_isDelivered_111 (fun H locs hw => ?_)
      refine lv_eqi (y := nI (Ns 0 (30 + 14 * d + 5))) (rfl) ?_
      refine lv_istore (lv' := [(11, .int (nI (Ns 0 (30 + 14 * d + 5)))), (10, .int (nI (Ns 0 (30 + 14 * d + 4)))), (9, .int (nI (Ns 0 (30 + 14 * d + 1)))), (8, .int (nI (Ns 0 (30 + 14 * d + 0)))), (7, .int (zb (Ns 0 (10 + t) = 1))), (6, .int (nI (t))), (5, .int (nI (f))), (4, .int (nI (d))), (3, .int (nI (k))), (2, .int (nI (Ns 0 6))), (0, .ref (b 0)), (1, .int (nI (p)))]) E.1 E.2.1 dL_isDelivered_114 hl (by decide) rfl (fun ls hl => ?_)
      refine lv_aload_n E.1 E.2.1 dL_isDelivered_116 rfl (lv_at hl 10 rfl) ?_
      refine lv_iconst (v := nI 4) E.1 E.2.1 dL_isDelivered_117 (by decide) ?_
      refine callVIp E (c_X3_count_ok l G b ad v pd rv Ns 4 (by decide) (by decide) (by decide) hF hDV) ES.eb (fun _ _ _ => trivial) mn_3_8 YX3_count ⟨rfl, rfl⟩ ⟨Nat.le_of_ble_eq_true rfl, Nat.le_of_ble_eq_true rfl⟩ ⟨Nat.le_of_ble_eq_true rfl, Nat.le_of_ble_eq_true rfl⟩ hw (rr := []) (big' := cW G b ad v pd rv Ns) (by rw [List.append_nil]) (by rw [List.append_nil]) 0 rfl rfl rfl hl rfl (Nat.le_of_ble_eq_true rfl) dL_isDelivered_118 (fun H locs hw => ?_)
      refine lv_eqi (y := nI (Ns 0 8)) (rfl) ?_
      refine lv_istore (lv' := [(12, .int (nI (Ns 0 8))), (11, .int (nI (Ns 0 (30 + 14 * d + 5)))), (10, .int (nI (Ns 0 (30 + 14 * d + 4)))), (9, .int (nI (Ns 0 (30 + 14 * d + 1)))), (8, .int (nI (Ns 0 (30 + 14 * d + 0)))), (7, .int (zb (Ns 0 (10 + t) = 1))), (6, .int (nI (t))), (5, .int (nI (f))), (4, .int (nI (d))), (3, .int (nI (k))), (2, .int (nI (Ns 0 6))), (0, .ref (b 0)), (1, .int (nI (p)))]) E.1 E.2.1 dL_isDelivered_121 hl (by decide) rfl (fun ls hl => ?_)
      refine lv_aload_n E.1 E.2.1 dL_isDelivered_123 rfl (lv_at hl 11 rfl) ?_
      refine lv_iload E.1 E.2.1 dL_isDelivered_124 (lv_at hl 6 rfl) ?_
      refine lv_iconst (v := nI 3) E.1 E.2.1 dL_isDelivered_126 (by decide) ?_
      refine callVIp E (c_X3_who_ok l G b ad v pd rv Ns t 3 (by omega) (by decide) hF hm) ES.eb (fun _ _ _ => trivial) mn_6_14 YX3_who ⟨rfl, rfl⟩ ⟨Nat.le_of_ble_eq_true rfl, Nat.le_of_ble_eq_true rfl⟩ ⟨Nat.le_of_ble_eq_true rfl, Nat.le_of_ble_eq_true rfl⟩ hw (rr := []) (big' := cW G b ad v pd rv Ns) (by rw [List.append_nil]) (by rw [List.append_nil]) 0 rfl rfl rfl hl rfl (Nat.le_of_ble_eq_true rfl) dL_isDelivered_127 (fun H locs hw => ?_)
      refine lv_eqi (y := nI (Ns 0 (20 + t))) (rfl) ?_
      refine lv_istore (lv' := [(13, .int (nI (Ns 0 (20 + t)))), (12, .int (nI (Ns 0 8))), (11, .int (nI (Ns 0 (30 + 14 * d + 5)))), (10, .int (nI (Ns 0 (30 + 14 * d + 4)))), (9, .int (nI (Ns 0 (30 + 14 * d + 1)))), (8, .int (nI (Ns 0 (30 + 14 * d + 0)))), (7, .int (zb (Ns 0 (10 + t) = 1))), (6, .int (nI (t))), (5, .int (nI (f))), (4, .int (nI (d))), (3, .int (nI (k))), (2, .int (nI (Ns 0 6))), (0, .ref (b 0)), (1, .int (nI (p)))]) E.1 E.2.1 dL_isDelivered_130 hl (by decide) rfl (fun ls hl => ?_)
      refine lv_aload_n E.1 E.2.1 dL_isDelivered_132 rfl (lv_at hl 12 rfl) ?_
      refine lv_iload E.1 E.2.1 dL_isDelivered_133 (lv_at hl 7 rfl) ?_
      refine lv_iconst (v := nI 4) E.1 E.2.1 dL_isDelivered_135 (by decide) ?_
      refine callVIp E (c_X3_who_ok l G b ad v pd rv Ns t 4 (by omega) (by decide) hF hm) ES.eb (fun _ _ _ => trivial) mn_6_14 YX3_who ⟨rfl, rfl⟩ ⟨Nat.le_of_ble_eq_true rfl, Nat.le_of_ble_eq_true rfl⟩ ⟨Nat.le_of_ble_eq_true rfl, Nat.le_of_ble_eq_true rfl⟩ hw (rr := []) (big' := cW G b ad v pd rv Ns) (by rw [List.append_nil]) (by rw [List.append_nil]) 0 rfl rfl rfl hl rfl (Nat.le_of_ble_eq_true rfl) dL_isDelivered_136 (fun H locs hw => ?_)
      refine lv_eqi (y := nI (Ns 0 (25 + t))) (rfl) ?_
      refine lv_istore (lv' := [(14, .int (nI (Ns 0 (25 + t)))), (13, .int (nI (Ns 0 (20 + t)))), (12, .int (nI (Ns 0 8))), (11, .int (nI (Ns 0 (30 + 14 * d + 5)))), (10, .int (nI (Ns 0 (30 + 14 * d + 4)))), (9, .int (nI (Ns 0 (30 + 14 * d + 1)))), (8, .int (nI (Ns 0 (30 + 14 * d + 0)))), (7, .int (zb (Ns 0 (10 + t) = 1))), (6, .int (nI (t))), (5, .int (nI (f))), (4, .int (nI (d))), (3, .int (nI (k))), (2, .int (nI (Ns 0 6))), (0, .ref (b 0)), (1, .int (nI (p)))]) E.1 E.2.1 dL_isDelivered_139 hl (by decide) rfl (fun ls hl => ?_)
      refine lv_iload E.1 E.2.1 dL_isDelivered_141 (lv_at hl 8 rfl) ?_
      refine lv_iconst (v := nI 4) E.1 E.2.1 dL_isDelivered_143 (by decide) ?_
      refine lv_icmp_geN (tgt := 158) E.1 E.2.1 (by omega) (by omega) dL_isDelivered_144 (by decide) (fun c144 => ?_) (fun c144 => ?_)
      · omega
      · skip
        refine lv_aload_n E.1 E.2.1 dL_isDelivered_147 rfl (lv_at hl 13 rfl) ?_
        refine lv_iload E.1 E.2.1 dL_isDelivered_148 (lv_at hl 10 rfl) ?_
        refine lv_iload E.1 E.2.1 dL_isDelivered_150 (lv_at hl 8 rfl) ?_
        refine callVIp E (c_X3_at_ok l G b ad v pd rv Ns d (by omega) hF t (by omega)) ES.eb (fun _ _ _ => trivial) mn_10_7 YX3_at ⟨rfl, rfl⟩ ⟨Nat.le_of_ble_eq_true rfl, Nat.le_of_ble_eq_true rfl⟩ ⟨Nat.le_of_ble_eq_true rfl, Nat.le_of_ble_eq_true rfl⟩ hw (rr := []) (big' := cW G b ad v pd rv Ns) (by rw [List.append_nil]) (by rw [List.append_nil]) 0 rfl rfl rfl hl rfl (Nat.le_of_ble_eq_true rfl) dL_isDelivered_152 (fun H locs hw => ?_)
        refine lv_eqi (y := nI (Ns 0 (30 + 14 * d + (6 + t)))) (by rw [if_pos (htS ht4)]) ?_
        refine lv_goto (tgt := 159) E.1 E.2.1 dL_isDelivered_155 (by decide) ?_
        refine lv_istore (lv' := [(15, .int (nI (Ns 0 (30 + 14 * d + (6 + t))))), (14, .int (nI (Ns 0 (25 + t)))), (13, .int (nI (Ns 0 (20 + t)))), (12, .int (nI (Ns 0 8))), (11, .int (nI (Ns 0 (30 + 14 * d + 5)))), (10, .int (nI (Ns 0 (30 + 14 * d + 4)))), (9, .int (nI (Ns 0 (30 + 14 * d + 1)))), (8, .int (nI (Ns 0 (30 + 14 * d + 0)))), (7, .int (zb (Ns 0 (10 + t) = 1))), (6, .int (nI (t))), (5, .int (nI (f))), (4, .int (nI (d))), (3, .int (nI (k))), (2, .int (nI (Ns 0 6))), (0, .ref (b 0)), (1, .int (nI (p)))]) E.1 E.2.1 dL_isDelivered_159 hl (by decide) rfl (fun ls hl => ?_)
        refine lv_iload E.1 E.2.1 dL_isDelivered_161 (lv_at hl 0 rfl) ?_
        refine lv_istore (lv' := [(16, .int (nI (Ns 0 (30 + 14 * d + (6 + t))))), (15, .int (nI (Ns 0 (30 + 14 * d + (6 + t))))), (14, .int (nI (Ns 0 (25 + t)))), (13, .int (nI (Ns 0 (20 + t)))), (12, .int (nI (Ns 0 8))), (11, .int (nI (Ns 0 (30 + 14 * d + 5)))), (10, .int (nI (Ns 0 (30 + 14 * d + 4)))), (9, .int (nI (Ns 0 (30 + 14 * d + 1)))), (8, .int (nI (Ns 0 (30 + 14 * d + 0)))), (7, .int (zb (Ns 0 (10 + t) = 1))), (6, .int (nI (t))), (5, .int (nI (f))), (4, .int (nI (d))), (3, .int (nI (k))), (2, .int (nI (Ns 0 6))), (0, .ref (b 0)), (1, .int (nI (p)))]) E.1 E.2.1 dL_isDelivered_163 hl (by decide) rfl (fun ls hl => ?_)
        refine lv_iconst (v := -1) E.1 E.2.1 dL_isDelivered_165 (by decide) ?_
        refine lv_istore (lv' := [(17, .int (-1)), (16, .int (nI (Ns 0 (30 + 14 * d + (6 + t))))), (15, .int (nI (Ns 0 (30 + 14 * d + (6 + t))))), (14, .int (nI (Ns 0 (25 + t)))), (13, .int (nI (Ns 0 (20 + t)))), (12, .int (nI (Ns 0 8))), (11, .int (nI (Ns 0 (30 + 14 * d + 5)))), (10, .int (nI (Ns 0 (30 + 14 * d + 4)))), (9, .int (nI (Ns 0 (30 + 14 * d + 1)))), (8, .int (nI (Ns 0 (30 + 14 * d + 0)))), (7, .int (zb (Ns 0 (10 + t) = 1))), (6, .int (nI (t))), (5, .int (nI (f))), (4, .int (nI (d))), (3, .int (nI (k))), (2, .int (nI (Ns 0 6))), (0, .ref (b 0)), (1, .int (nI (p)))]) E.1 E.2.1 dL_isDelivered_166 hl (by decide) rfl (fun ls hl => ?_)
        refine lv_iload E.1 E.2.1 dL_isDelivered_168 (lv_at hl 11 rfl) ?_
        refine lv_iconst (v := nI 4) E.1 E.2.1 dL_isDelivered_170 (by decide) ?_
        refine lv_icmp_neN (tgt := 181) E.1 E.2.1 (by omega) (by omega) dL_isDelivered_171 (by decide) (fun c171 => ?_) (fun c171 => ?_)
        · skip
          refine lv_iconst (v := nI 0) E.1 E.2.1 dL_isDelivered_181 (by decide) ?_
          refine lv_istore (lv' := [(18, .int (nI (0))), (17, .int (-1)), (16, .int (nI (Ns 0 (30 + 14 * d + (6 + t))))), (15, .int (nI (Ns 0 (30 + 14 * d + (6 + t))))), (14, .int (nI (Ns 0 (25 + t)))), (13, .int (nI (Ns 0 (20 + t)))), (12, .int (nI (Ns 0 8))), (11, .int (nI (Ns 0 (30 + 14 * d + 5)))), (10, .int (nI (Ns 0 (30 + 14 * d + 4)))), (9, .int (nI (Ns 0 (30 + 14 * d + 1)))), (8, .int (nI (Ns 0 (30 + 14 * d + 0)))), (7, .int (zb (Ns 0 (10 + t) = 1))), (6, .int (nI (t))), (5, .int (nI (f))), (4, .int (nI (d))), (3, .int (nI (k))), (2, .int (nI (Ns 0 6))), (0, .ref (b 0)), (1, .int (nI (p)))]) E.1 E.2.1 dL_isDelivered_182 hl (by decide) rfl (fun ls hl => ?_)
          refine W_join0 (G := G) (A := AA) (H0 := sS.heap) (nL := 24) 211 (True) (cW G b ad v pd rv Ns) ([(18, .int (nI (0))), (17, .int (-1)), (16, .int (nI (Ns 0 (30 + 14 * d + (6 + t))))), (15, .int (nI (Ns 0 (30 + 14 * d + (6 + t))))), (14, .int (nI (Ns 0 (25 + t)))), (13, .int (nI (Ns 0 (20 + t)))), (12, .int (nI (Ns 0 8))), (11, .int (nI (Ns 0 (30 + 14 * d + 5)))), (10, .int (nI (Ns 0 (30 + 14 * d + 4)))), (9, .int (nI (Ns 0 (30 + 14 * d + 1)))), (8, .int (nI (Ns 0 (30 + 14 * d + 0)))), (7, .int (zb (Ns 0 (10 + t) = 1))), (6, .int (nI (t))), (5, .int (nI (f))), (4, .int (nI (d))), (3, .int (nI (k))), (2, .int (nI (Ns 0 6))), (0, .ref (b 0)), (1, .int (nI (p)))]) ([.int (ansF (Ns 0 (30 + 14 * d + 1)))]) (fun jk184 => ?_) ?_
          · skip
            refine lv_iload E.1 E.2.1 dL_isDelivered_184 (lv_at hl 9 rfl) ?_
            refine lv_iconst (v := nI 1) E.1 E.2.1 dL_isDelivered_186 (by decide) ?_
            refine lv_icmp_eqN (tgt := 196) E.1 E.2.1 (by omega) (by omega) dL_isDelivered_187 (by decide) (fun c187 => ?_) (fun c187 => ?_)
            · skip
              refine lv_iconst (v := nI 3) E.1 E.2.1 dL_isDelivered_196 (by decide) ?_
              refine lv_goto (tgt := 211) E.1 E.2.1 dL_isDelivered_197 (by decide) ?_
              refine lv_eqi (y := ansF (Ns 0 (30 + 14 * d + 1))) (by rw [ansF, if_pos (Or.inl c187)]) ?_
              exact jk184  (trivial) _ _ _ (HB.eq hw (rfl)) (lvh_eq (l := [(18, .int (nI (0))), (17, .int (-1)), (16, .int (nI (Ns 0 (30 + 14 * d + (6 + t))))), (15, .int (nI (Ns 0 (30 + 14 * d + (6 + t))))), (14, .int (nI (Ns 0 (25 + t)))), (13, .int (nI (Ns 0 (20 + t)))), (12, .int (nI (Ns 0 8))), (11, .int (nI (Ns 0 (30 + 14 * d + 5)))), (10, .int (nI (Ns 0 (30 + 14 * d + 4)))), (9, .int (nI (Ns 0 (30 + 14 * d + 1)))), (8, .int (nI (Ns 0 (30 + 14 * d + 0)))), (7, .int (zb (Ns 0 (10 + t) = 1))), (6, .int (nI (t))), (5, .int (nI (f))), (4, .int (nI (d))), (3, .int (nI (k))), (2, .int (nI (Ns 0 6))), (0, .ref (b 0)), (1, .int (nI (p)))]) (lv_sub hl [0, 1, 2, 3, 4, 5, 6, 7, 8, 9, 10, 11, 12, 13, 14, 15, 16, 17, 18] rfl) (rfl))
            · skip
              refine lv_iload E.1 E.2.1 dL_isDelivered_190 (lv_at hl 9 rfl) ?_
              refine lv_iconst (v := nI 3) E.1 E.2.1 dL_isDelivered_192 (by decide) ?_
              refine lv_icmp_neN (tgt := 200) E.1 E.2.1 (by omega) (by omega) dL_isDelivered_193 (by decide) (fun c193 => ?_) (fun c193 => ?_)
              · skip
                refine lv_iload E.1 E.2.1 dL_isDelivered_200 (lv_at hl 9 rfl) ?_
                refine lv_iconst (v := nI 2) E.1 E.2.1 dL_isDelivered_202 (by decide) ?_
                refine lv_icmp_neN (tgt := 210) E.1 E.2.1 (by omega) (by omega) dL_isDelivered_203 (by decide) (fun c203 => ?_) (fun c203 => ?_)
                · skip
                  refine lv_iconst (v := -1) E.1 E.2.1 dL_isDelivered_210 (by decide) ?_
                  refine lv_eqi (y := ansF (Ns 0 (30 + 14 * d + 1))) (by rw [ansF, if_neg (fun z => z.elim c187 c193), if_neg c203]) ?_
                  exact jk184  (trivial) _ _ _ (HB.eq hw (rfl)) (lvh_eq (l := [(18, .int (nI (0))), (17, .int (-1)), (16, .int (nI (Ns 0 (30 + 14 * d + (6 + t))))), (15, .int (nI (Ns 0 (30 + 14 * d + (6 + t))))), (14, .int (nI (Ns 0 (25 + t)))), (13, .int (nI (Ns 0 (20 + t)))), (12, .int (nI (Ns 0 8))), (11, .int (nI (Ns 0 (30 + 14 * d + 5)))), (10, .int (nI (Ns 0 (30 + 14 * d + 4)))), (9, .int (nI (Ns 0 (30 + 14 * d + 1)))), (8, .int (nI (Ns 0 (30 + 14 * d + 0)))), (7, .int (zb (Ns 0 (10 + t) = 1))), (6, .int (nI (t))), (5, .int (nI (f))), (4, .int (nI (d))), (3, .int (nI (k))), (2, .int (nI (Ns 0 6))), (0, .ref (b 0)), (1, .int (nI (p)))]) (lv_sub hl [0, 1, 2, 3, 4, 5, 6, 7, 8, 9, 10, 11, 12, 13, 14, 15, 16, 17, 18] rfl) (rfl))
                · skip
                  refine lv_iconst (v := nI 4) E.1 E.2.1 dL_isDelivered_206 (by decide) ?_
                  refine lv_goto (tgt := 211) E.1 E.2.1 dL_isDelivered_207 (by decide) ?_
                  refine lv_eqi (y := ansF (Ns 0 (30 + 14 * d + 1))) (by rw [ansF, if_neg (fun z => z.elim c187 c193), if_pos c203]) ?_
                  exact jk184  (trivial) _ _ _ (HB.eq hw (rfl)) (lvh_eq (l := [(18, .int (nI (0))), (17, .int (-1)), (16, .int (nI (Ns 0 (30 + 14 * d + (6 + t))))), (15, .int (nI (Ns 0 (30 + 14 * d + (6 + t))))), (14, .int (nI (Ns 0 (25 + t)))), (13, .int (nI (Ns 0 (20 + t)))), (12, .int (nI (Ns 0 8))), (11, .int (nI (Ns 0 (30 + 14 * d + 5)))), (10, .int (nI (Ns 0 (30 + 14 * d + 4)))), (9, .int (nI (Ns 0 (30 + 14 * d + 1)))), (8, .int (nI (Ns 0 (30 + 14 * d + 0)))), (7, .int (zb (Ns 0 (10 + t) = 1))), (6, .int (nI (t))), (5, .int (nI (f))), (4, .int (nI (d))), (3, .int (nI (k))), (2, .int (nI (Ns 0 6))), (0, .ref (b 0)), (1, .int (nI (p)))]) (lv_sub hl [0, 1, 2, 3, 4, 5, 6, 7, 8, 9, 10, 11, 12, 13, 14, 15, 16, 17, 18] rfl) (rfl))
              · skip
                refine lv_iconst (v := nI 3) E.1 E.2.1 dL_isDelivered_196 (by decide) ?_
                refine lv_goto (tgt := 211) E.1 E.2.1 dL_isDelivered_197 (by decide) ?_
                refine lv_eqi (y := ansF (Ns 0 (30 + 14 * d + 1))) (by rw [ansF, if_pos (Or.inr c193)]) ?_
                exact jk184  (trivial) _ _ _ (HB.eq hw (rfl)) (lvh_eq (l := [(18, .int (nI (0))), (17, .int (-1)), (16, .int (nI (Ns 0 (30 + 14 * d + (6 + t))))), (15, .int (nI (Ns 0 (30 + 14 * d + (6 + t))))), (14, .int (nI (Ns 0 (25 + t)))), (13, .int (nI (Ns 0 (20 + t)))), (12, .int (nI (Ns 0 8))), (11, .int (nI (Ns 0 (30 + 14 * d + 5)))), (10, .int (nI (Ns 0 (30 + 14 * d + 4)))), (9, .int (nI (Ns 0 (30 + 14 * d + 1)))), (8, .int (nI (Ns 0 (30 + 14 * d + 0)))), (7, .int (zb (Ns 0 (10 + t) = 1))), (6, .int (nI (t))), (5, .int (nI (f))), (4, .int (nI (d))), (3, .int (nI (k))), (2, .int (nI (Ns 0 6))), (0, .ref (b 0)), (1, .int (nI (p)))]) (lv_sub hl [0, 1, 2, 3, 4, 5, 6, 7, 8, 9, 10, 11, 12, 13, 14, 15, 16, 17, 18] rfl) (rfl))
          · intro  hP184 H locs ls hw hl
            replace hw : HB G AA sS.heap (cW G b ad v pd rv Ns) H locs := hw
            replace hl : lv_has ls 24 [(18, .int (nI (0))), (17, .int (-1)), (16, .int (nI (Ns 0 (30 + 14 * d + (6 + t))))), (15, .int (nI (Ns 0 (30 + 14 * d + (6 + t))))), (14, .int (nI (Ns 0 (25 + t)))), (13, .int (nI (Ns 0 (20 + t)))), (12, .int (nI (Ns 0 8))), (11, .int (nI (Ns 0 (30 + 14 * d + 5)))), (10, .int (nI (Ns 0 (30 + 14 * d + 4)))), (9, .int (nI (Ns 0 (30 + 14 * d + 1)))), (8, .int (nI (Ns 0 (30 + 14 * d + 0)))), (7, .int (zb (Ns 0 (10 + t) = 1))), (6, .int (nI (t))), (5, .int (nI (f))), (4, .int (nI (d))), (3, .int (nI (k))), (2, .int (nI (Ns 0 6))), (0, .ref (b 0)), (1, .int (nI (p)))] := hl
            show W _ _ _ _ _ _ _ _ _ _ _ _ _ _ _ (F0 mM 211 ls [.int (ansF (Ns 0 (30 + 14 * d + 1)))])
            refine lv_istore (lv' := [(19, .int (ansF (Ns 0 (30 + 14 * d + 1)))), (18, .int (nI (0))), (17, .int (-1)), (16, .int (nI (Ns 0 (30 + 14 * d + (6 + t))))), (15, .int (nI (Ns 0 (30 + 14 * d + (6 + t))))), (14, .int (nI (Ns 0 (25 + t)))), (13, .int (nI (Ns 0 (20 + t)))), (12, .int (nI (Ns 0 8))), (11, .int (nI (Ns 0 (30 + 14 * d + 5)))), (10, .int (nI (Ns 0 (30 + 14 * d + 4)))), (9, .int (nI (Ns 0 (30 + 14 * d + 1)))), (8, .int (nI (Ns 0 (30 + 14 * d + 0)))), (7, .int (zb (Ns 0 (10 + t) = 1))), (6, .int (nI (t))), (5, .int (nI (f))), (4, .int (nI (d))), (3, .int (nI (k))), (2, .int (nI (Ns 0 6))), (0, .ref (b 0)), (1, .int (nI (p)))]) E.1 E.2.1 dL_isDelivered_211 hl (by decide) rfl (fun ls hl => ?_)
            refine W_join2 (G := G) (A := AA) (H0 := sS.heap) (nL := 24) 571 (fun (th : Nat) (sd : Int32) => DSa (Ns 0) p k d f t th sd ∧ th < 4) (fun (th : Nat) (sd : Int32) => cW G b ad v pd rv Ns) (fun (th : Nat) (sd : Int32) => [(16, .int (nI (th))), (17, .int (sd)), (0, .ref (b 0)), (1, .int (nI (p))), (2, .int (nI (Ns 0 6))), (3, .int (nI (k))), (4, .int (nI (d))), (5, .int (nI (f))), (6, .int (nI (t))), (7, .int (zb (Ns 0 (10 + t) = 1))), (9, .int (nI (Ns 0 (30 + 14 * d + 1)))), (12, .int (nI (Ns 0 8))), (13, .int (nI (Ns 0 (20 + t)))), (14, .int (nI (Ns 0 (25 + t))))]) (fun (th : Nat) (sd : Int32) => []) (fun jk213 => ?_) ?_
            · skip
              refine lv_iload E.1 E.2.1 dL_isDelivered_213 (lv_at hl 12 rfl) ?_
              refine lv_if_neB (tgt := 361) E.1 E.2.1 dL_isDelivered_215 (by decide) (fun c215 => ?_) (fun c215 => ?_)
              · skip
                refine lv_iload E.1 E.2.1 dL_isDelivered_361 (lv_at hl 12 rfl) ?_
                refine lv_if_neB (tgt := 460) E.1 E.2.1 dL_isDelivered_363 (by decide) (fun c363 => ?_) (fun c363 => ?_)
                · skip
                  refine lv_iload E.1 E.2.1 dL_isDelivered_460 (lv_at hl 12 rfl) ?_
                  refine lv_if_neB (tgt := 509) E.1 E.2.1 dL_isDelivered_462 (by decide) (fun c462 => ?_) (fun c462 => ?_)
                  · skip
                    refine lv_iload E.1 E.2.1 dL_isDelivered_509 (lv_at hl 12 rfl) ?_
                    refine lv_if_neB (tgt := 562) E.1 E.2.1 dL_isDelivered_511 (by decide) (fun c511 => ?_) (fun c511 => ?_)
                    · skip
                      refine lv_iload E.1 E.2.1 dL_isDelivered_562 (lv_at hl 12 rfl) ?_
                      refine lv_if_neB (tgt := 571) E.1 E.2.1 dL_isDelivered_564 (by decide) (fun c564 => ?_) (fun c564 => ?_)
                      · skip
                        exact jk213 (Ns 0 (30 + 14 * d + (6 + t))) (-1) (⟨dsa_ill m3 c215 ht4 hd8 rfl, qa⟩) _ _ _ (HB.eq hw (rfl)) (lvh_eq (l := [(16, .int (nI (Ns 0 (30 + 14 * d + (6 + t))))), (17, .int (-1)), (0, .ref (b 0)), (1, .int (nI (p))), (2, .int (nI (Ns 0 6))), (3, .int (nI (k))), (4, .int (nI (d))), (5, .int (nI (f))), (6, .int (nI (t))), (7, .int (zb (Ns 0 (10 + t) = 1))), (9, .int (nI (Ns 0 (30 + 14 * d + 1)))), (12, .int (nI (Ns 0 8))), (13, .int (nI (Ns 0 (20 + t)))), (14, .int (nI (Ns 0 (25 + t))))]) (lv_sub hl [3, 2, 18, 19, 17, 16, 15, 14, 13, 12, 10, 7, 6, 5] rfl) (rfl))
                      · exact absurd c215 c564
                    · exact absurd c215 c511
                  · exact absurd c215 c462
                · exact absurd c215 c363
              · skip
                refine lv_iload E.1 E.2.1 dL_isDelivered_218 (lv_at hl 13 rfl) ?_
                refine lv_iconst (v := nI 4) E.1 E.2.1 dL_isDelivered_220 (by decide) ?_
                refine lv_icmp_geN (tgt := 361) E.1 E.2.1 (by omega) (by omega) dL_isDelivered_221 (by decide) (fun c221 => ?_) (fun c221 => ?_)
                · omega
                · skip
                  refine W_join0 (G := G) (A := AA) (H0 := sS.heap) (nL := 24) 295 (True) (cW G b ad v pd rv Ns) ([(19, .int (ansF (Ns 0 (30 + 14 * d + 1)))), (18, .int (nI (0))), (17, .int (-1)), (16, .int (nI (Ns 0 (30 + 14 * d + (6 + t))))), (15, .int (nI (Ns 0 (30 + 14 * d + (6 + t))))), (14, .int (nI (Ns 0 (25 + t)))), (13, .int (nI (Ns 0 (20 + t)))), (12, .int (nI (Ns 0 8))), (11, .int (nI (Ns 0 (30 + 14 * d + 5)))), (10, .int (nI (Ns 0 (30 + 14 * d + 4)))), (9, .int (nI (Ns 0 (30 + 14 * d + 1)))), (8, .int (nI (Ns 0 (30 + 14 * d + 0)))), (7, .int (zb (Ns 0 (10 + t) = 1))), (6, .int (nI (t))), (5, .int (nI (f))), (4, .int (nI (d))), (3, .int (nI (k))), (2, .int (nI (Ns 0 6))), (0, .ref (b 0)), (1, .int (nI (p)))]) ([.int (nI (thF k (Ns 0 (30 + 14 * d + (6 + t))) (Ns 0 (15 + t))))]) (fun jk224 => ?_) ?_
                  · skip
                    refine lv_iload_n E.1 E.2.1 dL_isDelivered_224 rfl (lv_at hl 16 rfl) ?_
                    refine lv_if_neN (tgt := 252) E.1 E.2.1 (by omega) dL_isDelivered_225 (by decide) (fun c225 => ?_) (fun c225 => ?_)
                    · skip
                      refine lv_iload_n E.1 E.2.1 dL_isDelivered_252 rfl (lv_at hl 16 rfl) ?_
                      refine lv_iconst (v := nI 3) E.1 E.2.1 dL_isDelivered_253 (by decide) ?_
                      refine lv_icmp_neN (tgt := 267) E.1 E.2.1 (by omega) (by omega) dL_isDelivered_254 (by decide) (fun c254 => ?_) (fun c254 => ?_)
                      · skip
                        refine lv_iload_n E.1 E.2.1 dL_isDelivered_267 rfl (lv_at hl 16 rfl) ?_
                        refine lv_iconst (v := nI 4) E.1 E.2.1 dL_isDelivered_268 (by decide) ?_
                        refine lv_icmp_neN (tgt := 278) E.1 E.2.1 (by omega) (by omega) dL_isDelivered_269 (by decide) (fun c269 => ?_) (fun c269 => ?_)
                        · skip
                          refine lv_iload_n E.1 E.2.1 dL_isDelivered_278 rfl (lv_at hl 16 rfl) ?_
                          refine lv_bipush (v := nI 6) E.1 E.2.1 dL_isDelivered_279 (by decide) ?_
                          refine lv_icmp_neN (tgt := 293) E.1 E.2.1 (by omega) (by omega) dL_isDelivered_281 (by decide) (fun c281 => ?_) (fun c281 => ?_)
                          · skip
                            refine lv_iload E.1 E.2.1 dL_isDelivered_293 (lv_at hl 4 rfl) ?_
                            refine lv_eqi (y := nI (thF k (Ns 0 (30 + 14 * d + (6 + t))) (Ns 0 (15 + t)))) (by rw [thF, if_neg (show ¬ (k = 0 ∧ Ns 0 (30 + 14 * d + (6 + t)) = 0) by omega), if_neg (show ¬ (k = 3 ∧ Ns 0 (30 + 14 * d + (6 + t)) = 1) by omega), if_neg (by omega)]) ?_
                            exact jk224  (trivial) _ _ _ (HB.eq hw (rfl)) (lvh_eq (l := [(19, .int (ansF (Ns 0 (30 + 14 * d + 1)))), (18, .int (nI (0))), (17, .int (-1)), (16, .int (nI (Ns 0 (30 + 14 * d + (6 + t))))), (15, .int (nI (Ns 0 (30 + 14 * d + (6 + t))))), (14, .int (nI (Ns 0 (25 + t)))), (13, .int (nI (Ns 0 (20 + t)))), (12, .int (nI (Ns 0 8))), (11, .int (nI (Ns 0 (30 + 14 * d + 5)))), (10, .int (nI (Ns 0 (30 + 14 * d + 4)))), (9, .int (nI (Ns 0 (30 + 14 * d + 1)))), (8, .int (nI (Ns 0 (30 + 14 * d + 0)))), (7, .int (zb (Ns 0 (10 + t) = 1))), (6, .int (nI (t))), (5, .int (nI (f))), (4, .int (nI (d))), (3, .int (nI (k))), (2, .int (nI (Ns 0 6))), (0, .ref (b 0)), (1, .int (nI (p)))]) (lv_sub hl [0, 1, 2, 3, 4, 5, 6, 7, 8, 9, 10, 11, 12, 13, 14, 15, 16, 17, 18, 19] rfl) (rfl))
                          · skip
                            refine lv_iload E.1 E.2.1 dL_isDelivered_284 (lv_at hl 4 rfl) ?_
                            refine lv_if_neN (tgt := 293) E.1 E.2.1 (by omega) dL_isDelivered_286 (by decide) (fun c286 => ?_) (fun c286 => ?_)
                            · skip
                              refine lv_iload E.1 E.2.1 dL_isDelivered_293 (lv_at hl 4 rfl) ?_
                              refine lv_eqi (y := nI (thF k (Ns 0 (30 + 14 * d + (6 + t))) (Ns 0 (15 + t)))) (by rw [thF, if_neg (show ¬ (k = 0 ∧ Ns 0 (30 + 14 * d + (6 + t)) = 0) by omega), if_neg (show ¬ (k = 3 ∧ Ns 0 (30 + 14 * d + (6 + t)) = 1) by omega), if_neg (by omega)]) ?_
                              exact jk224  (trivial) _ _ _ (HB.eq hw (rfl)) (lvh_eq (l := [(19, .int (ansF (Ns 0 (30 + 14 * d + 1)))), (18, .int (nI (0))), (17, .int (-1)), (16, .int (nI (Ns 0 (30 + 14 * d + (6 + t))))), (15, .int (nI (Ns 0 (30 + 14 * d + (6 + t))))), (14, .int (nI (Ns 0 (25 + t)))), (13, .int (nI (Ns 0 (20 + t)))), (12, .int (nI (Ns 0 8))), (11, .int (nI (Ns 0 (30 + 14 * d + 5)))), (10, .int (nI (Ns 0 (30 + 14 * d + 4)))), (9, .int (nI (Ns 0 (30 + 14 * d + 1)))), (8, .int (nI (Ns 0 (30 + 14 * d + 0)))), (7, .int (zb (Ns 0 (10 + t) = 1))), (6, .int (nI (t))), (5, .int (nI (f))), (4, .int (nI (d))), (3, .int (nI (k))), (2, .int (nI (Ns 0 6))), (0, .ref (b 0)), (1, .int (nI (p)))]) (lv_sub hl [0, 1, 2, 3, 4, 5, 6, 7, 8, 9, 10, 11, 12, 13, 14, 15, 16, 17, 18, 19] rfl) (rfl))
                            · skip
                              refine lv_iconst (v := nI 3) E.1 E.2.1 dL_isDelivered_289 (by decide) ?_
                              refine lv_goto (tgt := 295) E.1 E.2.1 dL_isDelivered_290 (by decide) ?_
                              refine lv_eqi (y := nI (thF k (Ns 0 (30 + 14 * d + (6 + t))) (Ns 0 (15 + t)))) (by rw [thF, if_neg (show ¬ (k = 0 ∧ Ns 0 (30 + 14 * d + (6 + t)) = 0) by omega), if_neg (show ¬ (k = 3 ∧ Ns 0 (30 + 14 * d + (6 + t)) = 1) by omega), if_pos (by omega)]) ?_
                              exact jk224  (trivial) _ _ _ (HB.eq hw (rfl)) (lvh_eq (l := [(19, .int (ansF (Ns 0 (30 + 14 * d + 1)))), (18, .int (nI (0))), (17, .int (-1)), (16, .int (nI (Ns 0 (30 + 14 * d + (6 + t))))), (15, .int (nI (Ns 0 (30 + 14 * d + (6 + t))))), (14, .int (nI (Ns 0 (25 + t)))), (13, .int (nI (Ns 0 (20 + t)))), (12, .int (nI (Ns 0 8))), (11, .int (nI (Ns 0 (30 + 14 * d + 5)))), (10, .int (nI (Ns 0 (30 + 14 * d + 4)))), (9, .int (nI (Ns 0 (30 + 14 * d + 1)))), (8, .int (nI (Ns 0 (30 + 14 * d + 0)))), (7, .int (zb (Ns 0 (10 + t) = 1))), (6, .int (nI (t))), (5, .int (nI (f))), (4, .int (nI (d))), (3, .int (nI (k))), (2, .int (nI (Ns 0 6))), (0, .ref (b 0)), (1, .int (nI (p)))]) (lv_sub hl [0, 1, 2, 3, 4, 5, 6, 7, 8, 9, 10, 11, 12, 13, 14, 15, 16, 17, 18, 19] rfl) (rfl))
                        · skip
                          refine lv_iload E.1 E.2.1 dL_isDelivered_272 (lv_at hl 4 rfl) ?_
                          refine lv_iconst (v := nI 2) E.1 E.2.1 dL_isDelivered_274 (by decide) ?_
                          refine lv_icmp_ltN (tgt := 289) E.1 E.2.1 (by omega) (by omega) dL_isDelivered_275 (by decide) (fun c275 => ?_) (fun c275 => ?_)
                          · skip
                            refine lv_iconst (v := nI 3) E.1 E.2.1 dL_isDelivered_289 (by decide) ?_
                            refine lv_goto (tgt := 295) E.1 E.2.1 dL_isDelivered_290 (by decide) ?_
                            refine lv_eqi (y := nI (thF k (Ns 0 (30 + 14 * d + (6 + t))) (Ns 0 (15 + t)))) (by rw [thF, if_neg (show ¬ (k = 0 ∧ Ns 0 (30 + 14 * d + (6 + t)) = 0) by omega), if_neg (show ¬ (k = 3 ∧ Ns 0 (30 + 14 * d + (6 + t)) = 1) by omega), if_pos (by omega)]) ?_
                            exact jk224  (trivial) _ _ _ (HB.eq hw (rfl)) (lvh_eq (l := [(19, .int (ansF (Ns 0 (30 + 14 * d + 1)))), (18, .int (nI (0))), (17, .int (-1)), (16, .int (nI (Ns 0 (30 + 14 * d + (6 + t))))), (15, .int (nI (Ns 0 (30 + 14 * d + (6 + t))))), (14, .int (nI (Ns 0 (25 + t)))), (13, .int (nI (Ns 0 (20 + t)))), (12, .int (nI (Ns 0 8))), (11, .int (nI (Ns 0 (30 + 14 * d + 5)))), (10, .int (nI (Ns 0 (30 + 14 * d + 4)))), (9, .int (nI (Ns 0 (30 + 14 * d + 1)))), (8, .int (nI (Ns 0 (30 + 14 * d + 0)))), (7, .int (zb (Ns 0 (10 + t) = 1))), (6, .int (nI (t))), (5, .int (nI (f))), (4, .int (nI (d))), (3, .int (nI (k))), (2, .int (nI (Ns 0 6))), (0, .ref (b 0)), (1, .int (nI (p)))]) (lv_sub hl [0, 1, 2, 3, 4, 5, 6, 7, 8, 9, 10, 11, 12, 13, 14, 15, 16, 17, 18, 19] rfl) (rfl))
                          · skip
                            refine lv_iload_n E.1 E.2.1 dL_isDelivered_278 rfl (lv_at hl 16 rfl) ?_
                            refine lv_bipush (v := nI 6) E.1 E.2.1 dL_isDelivered_279 (by decide) ?_
                            refine lv_icmp_neN (tgt := 293) E.1 E.2.1 (by omega) (by omega) dL_isDelivered_281 (by decide) (fun c281 => ?_) (fun c281 => ?_)
                            · skip
                              refine lv_iload E.1 E.2.1 dL_isDelivered_293 (lv_at hl 4 rfl) ?_
                              refine lv_eqi (y := nI (thF k (Ns 0 (30 + 14 * d + (6 + t))) (Ns 0 (15 + t)))) (by rw [thF, if_neg (show ¬ (k = 0 ∧ Ns 0 (30 + 14 * d + (6 + t)) = 0) by omega), if_neg (show ¬ (k = 3 ∧ Ns 0 (30 + 14 * d + (6 + t)) = 1) by omega), if_neg (by omega)]) ?_
                              exact jk224  (trivial) _ _ _ (HB.eq hw (rfl)) (lvh_eq (l := [(19, .int (ansF (Ns 0 (30 + 14 * d + 1)))), (18, .int (nI (0))), (17, .int (-1)), (16, .int (nI (Ns 0 (30 + 14 * d + (6 + t))))), (15, .int (nI (Ns 0 (30 + 14 * d + (6 + t))))), (14, .int (nI (Ns 0 (25 + t)))), (13, .int (nI (Ns 0 (20 + t)))), (12, .int (nI (Ns 0 8))), (11, .int (nI (Ns 0 (30 + 14 * d + 5)))), (10, .int (nI (Ns 0 (30 + 14 * d + 4)))), (9, .int (nI (Ns 0 (30 + 14 * d + 1)))), (8, .int (nI (Ns 0 (30 + 14 * d + 0)))), (7, .int (zb (Ns 0 (10 + t) = 1))), (6, .int (nI (t))), (5, .int (nI (f))), (4, .int (nI (d))), (3, .int (nI (k))), (2, .int (nI (Ns 0 6))), (0, .ref (b 0)), (1, .int (nI (p)))]) (lv_sub hl [0, 1, 2, 3, 4, 5, 6, 7, 8, 9, 10, 11, 12, 13, 14, 15, 16, 17, 18, 19] rfl) (rfl))
                            · skip
                              refine lv_iload E.1 E.2.1 dL_isDelivered_284 (lv_at hl 4 rfl) ?_
                              refine lv_if_neN (tgt := 293) E.1 E.2.1 (by omega) dL_isDelivered_286 (by decide) (fun c286 => ?_) (fun c286 => ?_)
                              · skip
                                refine lv_iload E.1 E.2.1 dL_isDelivered_293 (lv_at hl 4 rfl) ?_
                                refine lv_eqi (y := nI (thF k (Ns 0 (30 + 14 * d + (6 + t))) (Ns 0 (15 + t)))) (by rw [thF, if_neg (show ¬ (k = 0 ∧ Ns 0 (30 + 14 * d + (6 + t)) = 0) by omega), if_neg (show ¬ (k = 3 ∧ Ns 0 (30 + 14 * d + (6 + t)) = 1) by omega), if_neg (by omega)]) ?_
                                exact jk224  (trivial) _ _ _ (HB.eq hw (rfl)) (lvh_eq (l := [(19, .int (ansF (Ns 0 (30 + 14 * d + 1)))), (18, .int (nI (0))), (17, .int (-1)), (16, .int (nI (Ns 0 (30 + 14 * d + (6 + t))))), (15, .int (nI (Ns 0 (30 + 14 * d + (6 + t))))), (14, .int (nI (Ns 0 (25 + t)))), (13, .int (nI (Ns 0 (20 + t)))), (12, .int (nI (Ns 0 8))), (11, .int (nI (Ns 0 (30 + 14 * d + 5)))), (10, .int (nI (Ns 0 (30 + 14 * d + 4)))), (9, .int (nI (Ns 0 (30 + 14 * d + 1)))), (8, .int (nI (Ns 0 (30 + 14 * d + 0)))), (7, .int (zb (Ns 0 (10 + t) = 1))), (6, .int (nI (t))), (5, .int (nI (f))), (4, .int (nI (d))), (3, .int (nI (k))), (2, .int (nI (Ns 0 6))), (0, .ref (b 0)), (1, .int (nI (p)))]) (lv_sub hl [0, 1, 2, 3, 4, 5, 6, 7, 8, 9, 10, 11, 12, 13, 14, 15, 16, 17, 18, 19] rfl) (rfl))
                              · skip
                                refine lv_iconst (v := nI 3) E.1 E.2.1 dL_isDelivered_289 (by decide) ?_
                                refine lv_goto (tgt := 295) E.1 E.2.1 dL_isDelivered_290 (by decide) ?_
                                refine lv_eqi (y := nI (thF k (Ns 0 (30 + 14 * d + (6 + t))) (Ns 0 (15 + t)))) (by rw [thF, if_neg (show ¬ (k = 0 ∧ Ns 0 (30 + 14 * d + (6 + t)) = 0) by omega), if_neg (show ¬ (k = 3 ∧ Ns 0 (30 + 14 * d + (6 + t)) = 1) by omega), if_pos (by omega)]) ?_
                                exact jk224  (trivial) _ _ _ (HB.eq hw (rfl)) (lvh_eq (l := [(19, .int (ansF (Ns 0 (30 + 14 * d + 1)))), (18, .int (nI (0))), (17, .int (-1)), (16, .int (nI (Ns 0 (30 + 14 * d + (6 + t))))), (15, .int (nI (Ns 0 (30 + 14 * d + (6 + t))))), (14, .int (nI (Ns 0 (25 + t)))), (13, .int (nI (Ns 0 (20 + t)))), (12, .int (nI (Ns 0 8))), (11, .int (nI (Ns 0 (30 + 14 * d + 5)))), (10, .int (nI (Ns 0 (30 + 14 * d + 4)))), (9, .int (nI (Ns 0 (30 + 14 * d + 1)))), (8, .int (nI (Ns 0 (30 + 14 * d + 0)))), (7, .int (zb (Ns 0 (10 + t) = 1))), (6, .int (nI (t))), (5, .int (nI (f))), (4, .int (nI (d))), (3, .int (nI (k))), (2, .int (nI (Ns 0 6))), (0, .ref (b 0)), (1, .int (nI (p)))]) (lv_sub hl [0, 1, 2, 3, 4, 5, 6, 7, 8, 9, 10, 11, 12, 13, 14, 15, 16, 17, 18, 19] rfl) (rfl))
                      · skip
                        refine lv_iload E.1 E.2.1 dL_isDelivered_257 (lv_at hl 4 rfl) ?_
                        refine lv_iconst (v := nI 1) E.1 E.2.1 dL_isDelivered_259 (by decide) ?_
                        refine lv_icmp_neN (tgt := 267) E.1 E.2.1 (by omega) (by omega) dL_isDelivered_260 (by decide) (fun c260 => ?_) (fun c260 => ?_)
                        · skip
                          refine lv_iload_n E.1 E.2.1 dL_isDelivered_267 rfl (lv_at hl 16 rfl) ?_
                          refine lv_iconst (v := nI 4) E.1 E.2.1 dL_isDelivered_268 (by decide) ?_
                          refine lv_icmp_neN (tgt := 278) E.1 E.2.1 (by omega) (by omega) dL_isDelivered_269 (by decide) (fun c269 => ?_) (fun c269 => ?_)
                          · skip
                            refine lv_iload_n E.1 E.2.1 dL_isDelivered_278 rfl (lv_at hl 16 rfl) ?_
                            refine lv_bipush (v := nI 6) E.1 E.2.1 dL_isDelivered_279 (by decide) ?_
                            refine lv_icmp_neN (tgt := 293) E.1 E.2.1 (by omega) (by omega) dL_isDelivered_281 (by decide) (fun c281 => ?_) (fun c281 => ?_)
                            · skip
                              refine lv_iload E.1 E.2.1 dL_isDelivered_293 (lv_at hl 4 rfl) ?_
                              refine lv_eqi (y := nI (thF k (Ns 0 (30 + 14 * d + (6 + t))) (Ns 0 (15 + t)))) (by rw [thF, if_neg (show ¬ (k = 0 ∧ Ns 0 (30 + 14 * d + (6 + t)) = 0) by omega), if_neg (show ¬ (k = 3 ∧ Ns 0 (30 + 14 * d + (6 + t)) = 1) by omega), if_neg (by omega)]) ?_
                              exact jk224  (trivial) _ _ _ (HB.eq hw (rfl)) (lvh_eq (l := [(19, .int (ansF (Ns 0 (30 + 14 * d + 1)))), (18, .int (nI (0))), (17, .int (-1)), (16, .int (nI (Ns 0 (30 + 14 * d + (6 + t))))), (15, .int (nI (Ns 0 (30 + 14 * d + (6 + t))))), (14, .int (nI (Ns 0 (25 + t)))), (13, .int (nI (Ns 0 (20 + t)))), (12, .int (nI (Ns 0 8))), (11, .int (nI (Ns 0 (30 + 14 * d + 5)))), (10, .int (nI (Ns 0 (30 + 14 * d + 4)))), (9, .int (nI (Ns 0 (30 + 14 * d + 1)))), (8, .int (nI (Ns 0 (30 + 14 * d + 0)))), (7, .int (zb (Ns 0 (10 + t) = 1))), (6, .int (nI (t))), (5, .int (nI (f))), (4, .int (nI (d))), (3, .int (nI (k))), (2, .int (nI (Ns 0 6))), (0, .ref (b 0)), (1, .int (nI (p)))]) (lv_sub hl [0, 1, 2, 3, 4, 5, 6, 7, 8, 9, 10, 11, 12, 13, 14, 15, 16, 17, 18, 19] rfl) (rfl))
                            · skip
                              refine lv_iload E.1 E.2.1 dL_isDelivered_284 (lv_at hl 4 rfl) ?_
                              refine lv_if_neN (tgt := 293) E.1 E.2.1 (by omega) dL_isDelivered_286 (by decide) (fun c286 => ?_) (fun c286 => ?_)
                              · skip
                                refine lv_iload E.1 E.2.1 dL_isDelivered_293 (lv_at hl 4 rfl) ?_
                                refine lv_eqi (y := nI (thF k (Ns 0 (30 + 14 * d + (6 + t))) (Ns 0 (15 + t)))) (by rw [thF, if_neg (show ¬ (k = 0 ∧ Ns 0 (30 + 14 * d + (6 + t)) = 0) by omega), if_neg (show ¬ (k = 3 ∧ Ns 0 (30 + 14 * d + (6 + t)) = 1) by omega), if_neg (by omega)]) ?_
                                exact jk224  (trivial) _ _ _ (HB.eq hw (rfl)) (lvh_eq (l := [(19, .int (ansF (Ns 0 (30 + 14 * d + 1)))), (18, .int (nI (0))), (17, .int (-1)), (16, .int (nI (Ns 0 (30 + 14 * d + (6 + t))))), (15, .int (nI (Ns 0 (30 + 14 * d + (6 + t))))), (14, .int (nI (Ns 0 (25 + t)))), (13, .int (nI (Ns 0 (20 + t)))), (12, .int (nI (Ns 0 8))), (11, .int (nI (Ns 0 (30 + 14 * d + 5)))), (10, .int (nI (Ns 0 (30 + 14 * d + 4)))), (9, .int (nI (Ns 0 (30 + 14 * d + 1)))), (8, .int (nI (Ns 0 (30 + 14 * d + 0)))), (7, .int (zb (Ns 0 (10 + t) = 1))), (6, .int (nI (t))), (5, .int (nI (f))), (4, .int (nI (d))), (3, .int (nI (k))), (2, .int (nI (Ns 0 6))), (0, .ref (b 0)), (1, .int (nI (p)))]) (lv_sub hl [0, 1, 2, 3, 4, 5, 6, 7, 8, 9, 10, 11, 12, 13, 14, 15, 16, 17, 18, 19] rfl) (rfl))
                              · skip
                                refine lv_iconst (v := nI 3) E.1 E.2.1 dL_isDelivered_289 (by decide) ?_
                                refine lv_goto (tgt := 295) E.1 E.2.1 dL_isDelivered_290 (by decide) ?_
                                refine lv_eqi (y := nI (thF k (Ns 0 (30 + 14 * d + (6 + t))) (Ns 0 (15 + t)))) (by rw [thF, if_neg (show ¬ (k = 0 ∧ Ns 0 (30 + 14 * d + (6 + t)) = 0) by omega), if_neg (show ¬ (k = 3 ∧ Ns 0 (30 + 14 * d + (6 + t)) = 1) by omega), if_pos (by omega)]) ?_
                                exact jk224  (trivial) _ _ _ (HB.eq hw (rfl)) (lvh_eq (l := [(19, .int (ansF (Ns 0 (30 + 14 * d + 1)))), (18, .int (nI (0))), (17, .int (-1)), (16, .int (nI (Ns 0 (30 + 14 * d + (6 + t))))), (15, .int (nI (Ns 0 (30 + 14 * d + (6 + t))))), (14, .int (nI (Ns 0 (25 + t)))), (13, .int (nI (Ns 0 (20 + t)))), (12, .int (nI (Ns 0 8))), (11, .int (nI (Ns 0 (30 + 14 * d + 5)))), (10, .int (nI (Ns 0 (30 + 14 * d + 4)))), (9, .int (nI (Ns 0 (30 + 14 * d + 1)))), (8, .int (nI (Ns 0 (30 + 14 * d + 0)))), (7, .int (zb (Ns 0 (10 + t) = 1))), (6, .int (nI (t))), (5, .int (nI (f))), (4, .int (nI (d))), (3, .int (nI (k))), (2, .int (nI (Ns 0 6))), (0, .ref (b 0)), (1, .int (nI (p)))]) (lv_sub hl [0, 1, 2, 3, 4, 5, 6, 7, 8, 9, 10, 11, 12, 13, 14, 15, 16, 17, 18, 19] rfl) (rfl))
                          · skip
                            refine lv_iload E.1 E.2.1 dL_isDelivered_272 (lv_at hl 4 rfl) ?_
                            refine lv_iconst (v := nI 2) E.1 E.2.1 dL_isDelivered_274 (by decide) ?_
                            refine lv_icmp_ltN (tgt := 289) E.1 E.2.1 (by omega) (by omega) dL_isDelivered_275 (by decide) (fun c275 => ?_) (fun c275 => ?_)
                            · skip
                              refine lv_iconst (v := nI 3) E.1 E.2.1 dL_isDelivered_289 (by decide) ?_
                              refine lv_goto (tgt := 295) E.1 E.2.1 dL_isDelivered_290 (by decide) ?_
                              refine lv_eqi (y := nI (thF k (Ns 0 (30 + 14 * d + (6 + t))) (Ns 0 (15 + t)))) (by rw [thF, if_neg (show ¬ (k = 0 ∧ Ns 0 (30 + 14 * d + (6 + t)) = 0) by omega), if_neg (show ¬ (k = 3 ∧ Ns 0 (30 + 14 * d + (6 + t)) = 1) by omega), if_pos (by omega)]) ?_
                              exact jk224  (trivial) _ _ _ (HB.eq hw (rfl)) (lvh_eq (l := [(19, .int (ansF (Ns 0 (30 + 14 * d + 1)))), (18, .int (nI (0))), (17, .int (-1)), (16, .int (nI (Ns 0 (30 + 14 * d + (6 + t))))), (15, .int (nI (Ns 0 (30 + 14 * d + (6 + t))))), (14, .int (nI (Ns 0 (25 + t)))), (13, .int (nI (Ns 0 (20 + t)))), (12, .int (nI (Ns 0 8))), (11, .int (nI (Ns 0 (30 + 14 * d + 5)))), (10, .int (nI (Ns 0 (30 + 14 * d + 4)))), (9, .int (nI (Ns 0 (30 + 14 * d + 1)))), (8, .int (nI (Ns 0 (30 + 14 * d + 0)))), (7, .int (zb (Ns 0 (10 + t) = 1))), (6, .int (nI (t))), (5, .int (nI (f))), (4, .int (nI (d))), (3, .int (nI (k))), (2, .int (nI (Ns 0 6))), (0, .ref (b 0)), (1, .int (nI (p)))]) (lv_sub hl [0, 1, 2, 3, 4, 5, 6, 7, 8, 9, 10, 11, 12, 13, 14, 15, 16, 17, 18, 19] rfl) (rfl))
                            · skip
                              refine lv_iload_n E.1 E.2.1 dL_isDelivered_278 rfl (lv_at hl 16 rfl) ?_
                              refine lv_bipush (v := nI 6) E.1 E.2.1 dL_isDelivered_279 (by decide) ?_
                              refine lv_icmp_neN (tgt := 293) E.1 E.2.1 (by omega) (by omega) dL_isDelivered_281 (by decide) (fun c281 => ?_) (fun c281 => ?_)
                              · skip
                                refine lv_iload E.1 E.2.1 dL_isDelivered_293 (lv_at hl 4 rfl) ?_
                                refine lv_eqi (y := nI (thF k (Ns 0 (30 + 14 * d + (6 + t))) (Ns 0 (15 + t)))) (by rw [thF, if_neg (show ¬ (k = 0 ∧ Ns 0 (30 + 14 * d + (6 + t)) = 0) by omega), if_neg (show ¬ (k = 3 ∧ Ns 0 (30 + 14 * d + (6 + t)) = 1) by omega), if_neg (by omega)]) ?_
                                exact jk224  (trivial) _ _ _ (HB.eq hw (rfl)) (lvh_eq (l := [(19, .int (ansF (Ns 0 (30 + 14 * d + 1)))), (18, .int (nI (0))), (17, .int (-1)), (16, .int (nI (Ns 0 (30 + 14 * d + (6 + t))))), (15, .int (nI (Ns 0 (30 + 14 * d + (6 + t))))), (14, .int (nI (Ns 0 (25 + t)))), (13, .int (nI (Ns 0 (20 + t)))), (12, .int (nI (Ns 0 8))), (11, .int (nI (Ns 0 (30 + 14 * d + 5)))), (10, .int (nI (Ns 0 (30 + 14 * d + 4)))), (9, .int (nI (Ns 0 (30 + 14 * d + 1)))), (8, .int (nI (Ns 0 (30 + 14 * d + 0)))), (7, .int (zb (Ns 0 (10 + t) = 1))), (6, .int (nI (t))), (5, .int (nI (f))), (4, .int (nI (d))), (3, .int (nI (k))), (2, .int (nI (Ns 0 6))), (0, .ref (b 0)), (1, .int (nI (p)))]) (lv_sub hl [0, 1, 2, 3, 4, 5, 6, 7, 8, 9, 10, 11, 12, 13, 14, 15, 16, 17, 18, 19] rfl) (rfl))
                              · skip
                                refine lv_iload E.1 E.2.1 dL_isDelivered_284 (lv_at hl 4 rfl) ?_
                                refine lv_if_neN (tgt := 293) E.1 E.2.1 (by omega) dL_isDelivered_286 (by decide) (fun c286 => ?_) (fun c286 => ?_)
                                · skip
                                  refine lv_iload E.1 E.2.1 dL_isDelivered_293 (lv_at hl 4 rfl) ?_
                                  refine lv_eqi (y := nI (thF k (Ns 0 (30 + 14 * d + (6 + t))) (Ns 0 (15 + t)))) (by rw [thF, if_neg (show ¬ (k = 0 ∧ Ns 0 (30 + 14 * d + (6 + t)) = 0) by omega), if_neg (show ¬ (k = 3 ∧ Ns 0 (30 + 14 * d + (6 + t)) = 1) by omega), if_neg (by omega)]) ?_
                                  exact jk224  (trivial) _ _ _ (HB.eq hw (rfl)) (lvh_eq (l := [(19, .int (ansF (Ns 0 (30 + 14 * d + 1)))), (18, .int (nI (0))), (17, .int (-1)), (16, .int (nI (Ns 0 (30 + 14 * d + (6 + t))))), (15, .int (nI (Ns 0 (30 + 14 * d + (6 + t))))), (14, .int (nI (Ns 0 (25 + t)))), (13, .int (nI (Ns 0 (20 + t)))), (12, .int (nI (Ns 0 8))), (11, .int (nI (Ns 0 (30 + 14 * d + 5)))), (10, .int (nI (Ns 0 (30 + 14 * d + 4)))), (9, .int (nI (Ns 0 (30 + 14 * d + 1)))), (8, .int (nI (Ns 0 (30 + 14 * d + 0)))), (7, .int (zb (Ns 0 (10 + t) = 1))), (6, .int (nI (t))), (5, .int (nI (f))), (4, .int (nI (d))), (3, .int (nI (k))), (2, .int (nI (Ns 0 6))), (0, .ref (b 0)), (1, .int (nI (p)))]) (lv_sub hl [0, 1, 2, 3, 4, 5, 6, 7, 8, 9, 10, 11, 12, 13, 14, 15, 16, 17, 18, 19] rfl) (rfl))
                                · skip
                                  refine lv_iconst (v := nI 3) E.1 E.2.1 dL_isDelivered_289 (by decide) ?_
                                  refine lv_goto (tgt := 295) E.1 E.2.1 dL_isDelivered_290 (by decide) ?_
                                  refine lv_eqi (y := nI (thF k (Ns 0 (30 + 14 * d + (6 + t))) (Ns 0 (15 + t)))) (by rw [thF, if_neg (show ¬ (k = 0 ∧ Ns 0 (30 + 14 * d + (6 + t)) = 0) by omega), if_neg (show ¬ (k = 3 ∧ Ns 0 (30 + 14 * d + (6 + t)) = 1) by omega), if_pos (by omega)]) ?_
                                  exact jk224  (trivial) _ _ _ (HB.eq hw (rfl)) (lvh_eq (l := [(19, .int (ansF (Ns 0 (30 + 14 * d + 1)))), (18, .int (nI (0))), (17, .int (-1)), (16, .int (nI (Ns 0 (30 + 14 * d + (6 + t))))), (15, .int (nI (Ns 0 (30 + 14 * d + (6 + t))))), (14, .int (nI (Ns 0 (25 + t)))), (13, .int (nI (Ns 0 (20 + t)))), (12, .int (nI (Ns 0 8))), (11, .int (nI (Ns 0 (30 + 14 * d + 5)))), (10, .int (nI (Ns 0 (30 + 14 * d + 4)))), (9, .int (nI (Ns 0 (30 + 14 * d + 1)))), (8, .int (nI (Ns 0 (30 + 14 * d + 0)))), (7, .int (zb (Ns 0 (10 + t) = 1))), (6, .int (nI (t))), (5, .int (nI (f))), (4, .int (nI (d))), (3, .int (nI (k))), (2, .int (nI (Ns 0 6))), (0, .ref (b 0)), (1, .int (nI (p)))]) (lv_sub hl [0, 1, 2, 3, 4, 5, 6, 7, 8, 9, 10, 11, 12, 13, 14, 15, 16, 17, 18, 19] rfl) (rfl))
                        · skip
                          refine lv_iconst (v := nI 2) E.1 E.2.1 dL_isDelivered_263 (by decide) ?_
                          refine lv_goto (tgt := 295) E.1 E.2.1 dL_isDelivered_264 (by decide) ?_
                          refine lv_eqi (y := nI (thF k (Ns 0 (30 + 14 * d + (6 + t))) (Ns 0 (15 + t)))) (by rw [thF, if_neg (show ¬ (k = 0 ∧ Ns 0 (30 + 14 * d + (6 + t)) = 0) by omega), if_pos ⟨c254, c260⟩]) ?_
                          exact jk224  (trivial) _ _ _ (HB.eq hw (rfl)) (lvh_eq (l := [(19, .int (ansF (Ns 0 (30 + 14 * d + 1)))), (18, .int (nI (0))), (17, .int (-1)), (16, .int (nI (Ns 0 (30 + 14 * d + (6 + t))))), (15, .int (nI (Ns 0 (30 + 14 * d + (6 + t))))), (14, .int (nI (Ns 0 (25 + t)))), (13, .int (nI (Ns 0 (20 + t)))), (12, .int (nI (Ns 0 8))), (11, .int (nI (Ns 0 (30 + 14 * d + 5)))), (10, .int (nI (Ns 0 (30 + 14 * d + 4)))), (9, .int (nI (Ns 0 (30 + 14 * d + 1)))), (8, .int (nI (Ns 0 (30 + 14 * d + 0)))), (7, .int (zb (Ns 0 (10 + t) = 1))), (6, .int (nI (t))), (5, .int (nI (f))), (4, .int (nI (d))), (3, .int (nI (k))), (2, .int (nI (Ns 0 6))), (0, .ref (b 0)), (1, .int (nI (p)))]) (lv_sub hl [0, 1, 2, 3, 4, 5, 6, 7, 8, 9, 10, 11, 12, 13, 14, 15, 16, 17, 18, 19] rfl) (rfl))
                    · skip
                      refine lv_iload E.1 E.2.1 dL_isDelivered_228 (lv_at hl 4 rfl) ?_
                      refine lv_if_neN (tgt := 252) E.1 E.2.1 (by omega) dL_isDelivered_230 (by decide) (fun c230 => ?_) (fun c230 => ?_)
                      · skip
                        refine lv_iload_n E.1 E.2.1 dL_isDelivered_252 rfl (lv_at hl 16 rfl) ?_
                        refine lv_iconst (v := nI 3) E.1 E.2.1 dL_isDelivered_253 (by decide) ?_
                        refine lv_icmp_neN (tgt := 267) E.1 E.2.1 (by omega) (by omega) dL_isDelivered_254 (by decide) (fun c254 => ?_) (fun c254 => ?_)
                        · skip
                          refine lv_iload_n E.1 E.2.1 dL_isDelivered_267 rfl (lv_at hl 16 rfl) ?_
                          refine lv_iconst (v := nI 4) E.1 E.2.1 dL_isDelivered_268 (by decide) ?_
                          refine lv_icmp_neN (tgt := 278) E.1 E.2.1 (by omega) (by omega) dL_isDelivered_269 (by decide) (fun c269 => ?_) (fun c269 => ?_)
                          · skip
                            refine lv_iload_n E.1 E.2.1 dL_isDelivered_278 rfl (lv_at hl 16 rfl) ?_
                            refine lv_bipush (v := nI 6) E.1 E.2.1 dL_isDelivered_279 (by decide) ?_
                            refine lv_icmp_neN (tgt := 293) E.1 E.2.1 (by omega) (by omega) dL_isDelivered_281 (by decide) (fun c281 => ?_) (fun c281 => ?_)
                            · skip
                              refine lv_iload E.1 E.2.1 dL_isDelivered_293 (lv_at hl 4 rfl) ?_
                              refine lv_eqi (y := nI (thF k (Ns 0 (30 + 14 * d + (6 + t))) (Ns 0 (15 + t)))) (by rw [thF, if_neg (show ¬ (k = 0 ∧ Ns 0 (30 + 14 * d + (6 + t)) = 0) by omega), if_neg (show ¬ (k = 3 ∧ Ns 0 (30 + 14 * d + (6 + t)) = 1) by omega), if_neg (by omega)]) ?_
                              exact jk224  (trivial) _ _ _ (HB.eq hw (rfl)) (lvh_eq (l := [(19, .int (ansF (Ns 0 (30 + 14 * d + 1)))), (18, .int (nI (0))), (17, .int (-1)), (16, .int (nI (Ns 0 (30 + 14 * d + (6 + t))))), (15, .int (nI (Ns 0 (30 + 14 * d + (6 + t))))), (14, .int (nI (Ns 0 (25 + t)))), (13, .int (nI (Ns 0 (20 + t)))), (12, .int (nI (Ns 0 8))), (11, .int (nI (Ns 0 (30 + 14 * d + 5)))), (10, .int (nI (Ns 0 (30 + 14 * d + 4)))), (9, .int (nI (Ns 0 (30 + 14 * d + 1)))), (8, .int (nI (Ns 0 (30 + 14 * d + 0)))), (7, .int (zb (Ns 0 (10 + t) = 1))), (6, .int (nI (t))), (5, .int (nI (f))), (4, .int (nI (d))), (3, .int (nI (k))), (2, .int (nI (Ns 0 6))), (0, .ref (b 0)), (1, .int (nI (p)))]) (lv_sub hl [0, 1, 2, 3, 4, 5, 6, 7, 8, 9, 10, 11, 12, 13, 14, 15, 16, 17, 18, 19] rfl) (rfl))
                            · skip
                              refine lv_iload E.1 E.2.1 dL_isDelivered_284 (lv_at hl 4 rfl) ?_
                              refine lv_if_neN (tgt := 293) E.1 E.2.1 (by omega) dL_isDelivered_286 (by decide) (fun c286 => ?_) (fun c286 => ?_)
                              · skip
                                refine lv_iload E.1 E.2.1 dL_isDelivered_293 (lv_at hl 4 rfl) ?_
                                refine lv_eqi (y := nI (thF k (Ns 0 (30 + 14 * d + (6 + t))) (Ns 0 (15 + t)))) (by rw [thF, if_neg (show ¬ (k = 0 ∧ Ns 0 (30 + 14 * d + (6 + t)) = 0) by omega), if_neg (show ¬ (k = 3 ∧ Ns 0 (30 + 14 * d + (6 + t)) = 1) by omega), if_neg (by omega)]) ?_
                                exact jk224  (trivial) _ _ _ (HB.eq hw (rfl)) (lvh_eq (l := [(19, .int (ansF (Ns 0 (30 + 14 * d + 1)))), (18, .int (nI (0))), (17, .int (-1)), (16, .int (nI (Ns 0 (30 + 14 * d + (6 + t))))), (15, .int (nI (Ns 0 (30 + 14 * d + (6 + t))))), (14, .int (nI (Ns 0 (25 + t)))), (13, .int (nI (Ns 0 (20 + t)))), (12, .int (nI (Ns 0 8))), (11, .int (nI (Ns 0 (30 + 14 * d + 5)))), (10, .int (nI (Ns 0 (30 + 14 * d + 4)))), (9, .int (nI (Ns 0 (30 + 14 * d + 1)))), (8, .int (nI (Ns 0 (30 + 14 * d + 0)))), (7, .int (zb (Ns 0 (10 + t) = 1))), (6, .int (nI (t))), (5, .int (nI (f))), (4, .int (nI (d))), (3, .int (nI (k))), (2, .int (nI (Ns 0 6))), (0, .ref (b 0)), (1, .int (nI (p)))]) (lv_sub hl [0, 1, 2, 3, 4, 5, 6, 7, 8, 9, 10, 11, 12, 13, 14, 15, 16, 17, 18, 19] rfl) (rfl))
                              · skip
                                refine lv_iconst (v := nI 3) E.1 E.2.1 dL_isDelivered_289 (by decide) ?_
                                refine lv_goto (tgt := 295) E.1 E.2.1 dL_isDelivered_290 (by decide) ?_
                                refine lv_eqi (y := nI (thF k (Ns 0 (30 + 14 * d + (6 + t))) (Ns 0 (15 + t)))) (by rw [thF, if_neg (show ¬ (k = 0 ∧ Ns 0 (30 + 14 * d + (6 + t)) = 0) by omega), if_neg (show ¬ (k = 3 ∧ Ns 0 (30 + 14 * d + (6 + t)) = 1) by omega), if_pos (by omega)]) ?_
                                exact jk224  (trivial) _ _ _ (HB.eq hw (rfl)) (lvh_eq (l := [(19, .int (ansF (Ns 0 (30 + 14 * d + 1)))), (18, .int (nI (0))), (17, .int (-1)), (16, .int (nI (Ns 0 (30 + 14 * d + (6 + t))))), (15, .int (nI (Ns 0 (30 + 14 * d + (6 + t))))), (14, .int (nI (Ns 0 (25 + t)))), (13, .int (nI (Ns 0 (20 + t)))), (12, .int (nI (Ns 0 8))), (11, .int (nI (Ns 0 (30 + 14 * d + 5)))), (10, .int (nI (Ns 0 (30 + 14 * d + 4)))), (9, .int (nI (Ns 0 (30 + 14 * d + 1)))), (8, .int (nI (Ns 0 (30 + 14 * d + 0)))), (7, .int (zb (Ns 0 (10 + t) = 1))), (6, .int (nI (t))), (5, .int (nI (f))), (4, .int (nI (d))), (3, .int (nI (k))), (2, .int (nI (Ns 0 6))), (0, .ref (b 0)), (1, .int (nI (p)))]) (lv_sub hl [0, 1, 2, 3, 4, 5, 6, 7, 8, 9, 10, 11, 12, 13, 14, 15, 16, 17, 18, 19] rfl) (rfl))
                          · skip
                            refine lv_iload E.1 E.2.1 dL_isDelivered_272 (lv_at hl 4 rfl) ?_
                            refine lv_iconst (v := nI 2) E.1 E.2.1 dL_isDelivered_274 (by decide) ?_
                            refine lv_icmp_ltN (tgt := 289) E.1 E.2.1 (by omega) (by omega) dL_isDelivered_275 (by decide) (fun c275 => ?_) (fun c275 => ?_)
                            · skip
                              refine lv_iconst (v := nI 3) E.1 E.2.1 dL_isDelivered_289 (by decide) ?_
                              refine lv_goto (tgt := 295) E.1 E.2.1 dL_isDelivered_290 (by decide) ?_
                              refine lv_eqi (y := nI (thF k (Ns 0 (30 + 14 * d + (6 + t))) (Ns 0 (15 + t)))) (by rw [thF, if_neg (show ¬ (k = 0 ∧ Ns 0 (30 + 14 * d + (6 + t)) = 0) by omega), if_neg (show ¬ (k = 3 ∧ Ns 0 (30 + 14 * d + (6 + t)) = 1) by omega), if_pos (by omega)]) ?_
                              exact jk224  (trivial) _ _ _ (HB.eq hw (rfl)) (lvh_eq (l := [(19, .int (ansF (Ns 0 (30 + 14 * d + 1)))), (18, .int (nI (0))), (17, .int (-1)), (16, .int (nI (Ns 0 (30 + 14 * d + (6 + t))))), (15, .int (nI (Ns 0 (30 + 14 * d + (6 + t))))), (14, .int (nI (Ns 0 (25 + t)))), (13, .int (nI (Ns 0 (20 + t)))), (12, .int (nI (Ns 0 8))), (11, .int (nI (Ns 0 (30 + 14 * d + 5)))), (10, .int (nI (Ns 0 (30 + 14 * d + 4)))), (9, .int (nI (Ns 0 (30 + 14 * d + 1)))), (8, .int (nI (Ns 0 (30 + 14 * d + 0)))), (7, .int (zb (Ns 0 (10 + t) = 1))), (6, .int (nI (t))), (5, .int (nI (f))), (4, .int (nI (d))), (3, .int (nI (k))), (2, .int (nI (Ns 0 6))), (0, .ref (b 0)), (1, .int (nI (p)))]) (lv_sub hl [0, 1, 2, 3, 4, 5, 6, 7, 8, 9, 10, 11, 12, 13, 14, 15, 16, 17, 18, 19] rfl) (rfl))
                            · skip
                              refine lv_iload_n E.1 E.2.1 dL_isDelivered_278 rfl (lv_at hl 16 rfl) ?_
                              refine lv_bipush (v := nI 6) E.1 E.2.1 dL_isDelivered_279 (by decide) ?_
                              refine lv_icmp_neN (tgt := 293) E.1 E.2.1 (by omega) (by omega) dL_isDelivered_281 (by decide) (fun c281 => ?_) (fun c281 => ?_)
                              · skip
                                refine lv_iload E.1 E.2.1 dL_isDelivered_293 (lv_at hl 4 rfl) ?_
                                refine lv_eqi (y := nI (thF k (Ns 0 (30 + 14 * d + (6 + t))) (Ns 0 (15 + t)))) (by rw [thF, if_neg (show ¬ (k = 0 ∧ Ns 0 (30 + 14 * d + (6 + t)) = 0) by omega), if_neg (show ¬ (k = 3 ∧ Ns 0 (30 + 14 * d + (6 + t)) = 1) by omega), if_neg (by omega)]) ?_
                                exact jk224  (trivial) _ _ _ (HB.eq hw (rfl)) (lvh_eq (l := [(19, .int (ansF (Ns 0 (30 + 14 * d + 1)))), (18, .int (nI (0))), (17, .int (-1)), (16, .int (nI (Ns 0 (30 + 14 * d + (6 + t))))), (15, .int (nI (Ns 0 (30 + 14 * d + (6 + t))))), (14, .int (nI (Ns 0 (25 + t)))), (13, .int (nI (Ns 0 (20 + t)))), (12, .int (nI (Ns 0 8))), (11, .int (nI (Ns 0 (30 + 14 * d + 5)))), (10, .int (nI (Ns 0 (30 + 14 * d + 4)))), (9, .int (nI (Ns 0 (30 + 14 * d + 1)))), (8, .int (nI (Ns 0 (30 + 14 * d + 0)))), (7, .int (zb (Ns 0 (10 + t) = 1))), (6, .int (nI (t))), (5, .int (nI (f))), (4, .int (nI (d))), (3, .int (nI (k))), (2, .int (nI (Ns 0 6))), (0, .ref (b 0)), (1, .int (nI (p)))]) (lv_sub hl [0, 1, 2, 3, 4, 5, 6, 7, 8, 9, 10, 11, 12, 13, 14, 15, 16, 17, 18, 19] rfl) (rfl))
                              · skip
                                refine lv_iload E.1 E.2.1 dL_isDelivered_284 (lv_at hl 4 rfl) ?_
                                refine lv_if_neN (tgt := 293) E.1 E.2.1 (by omega) dL_isDelivered_286 (by decide) (fun c286 => ?_) (fun c286 => ?_)
                                · skip
                                  refine lv_iload E.1 E.2.1 dL_isDelivered_293 (lv_at hl 4 rfl) ?_
                                  refine lv_eqi (y := nI (thF k (Ns 0 (30 + 14 * d + (6 + t))) (Ns 0 (15 + t)))) (by rw [thF, if_neg (show ¬ (k = 0 ∧ Ns 0 (30 + 14 * d + (6 + t)) = 0) by omega), if_neg (show ¬ (k = 3 ∧ Ns 0 (30 + 14 * d + (6 + t)) = 1) by omega), if_neg (by omega)]) ?_
                                  exact jk224  (trivial) _ _ _ (HB.eq hw (rfl)) (lvh_eq (l := [(19, .int (ansF (Ns 0 (30 + 14 * d + 1)))), (18, .int (nI (0))), (17, .int (-1)), (16, .int (nI (Ns 0 (30 + 14 * d + (6 + t))))), (15, .int (nI (Ns 0 (30 + 14 * d + (6 + t))))), (14, .int (nI (Ns 0 (25 + t)))), (13, .int (nI (Ns 0 (20 + t)))), (12, .int (nI (Ns 0 8))), (11, .int (nI (Ns 0 (30 + 14 * d + 5)))), (10, .int (nI (Ns 0 (30 + 14 * d + 4)))), (9, .int (nI (Ns 0 (30 + 14 * d + 1)))), (8, .int (nI (Ns 0 (30 + 14 * d + 0)))), (7, .int (zb (Ns 0 (10 + t) = 1))), (6, .int (nI (t))), (5, .int (nI (f))), (4, .int (nI (d))), (3, .int (nI (k))), (2, .int (nI (Ns 0 6))), (0, .ref (b 0)), (1, .int (nI (p)))]) (lv_sub hl [0, 1, 2, 3, 4, 5, 6, 7, 8, 9, 10, 11, 12, 13, 14, 15, 16, 17, 18, 19] rfl) (rfl))
                                · skip
                                  refine lv_iconst (v := nI 3) E.1 E.2.1 dL_isDelivered_289 (by decide) ?_
                                  refine lv_goto (tgt := 295) E.1 E.2.1 dL_isDelivered_290 (by decide) ?_
                                  refine lv_eqi (y := nI (thF k (Ns 0 (30 + 14 * d + (6 + t))) (Ns 0 (15 + t)))) (by rw [thF, if_neg (show ¬ (k = 0 ∧ Ns 0 (30 + 14 * d + (6 + t)) = 0) by omega), if_neg (show ¬ (k = 3 ∧ Ns 0 (30 + 14 * d + (6 + t)) = 1) by omega), if_pos (by omega)]) ?_
                                  exact jk224  (trivial) _ _ _ (HB.eq hw (rfl)) (lvh_eq (l := [(19, .int (ansF (Ns 0 (30 + 14 * d + 1)))), (18, .int (nI (0))), (17, .int (-1)), (16, .int (nI (Ns 0 (30 + 14 * d + (6 + t))))), (15, .int (nI (Ns 0 (30 + 14 * d + (6 + t))))), (14, .int (nI (Ns 0 (25 + t)))), (13, .int (nI (Ns 0 (20 + t)))), (12, .int (nI (Ns 0 8))), (11, .int (nI (Ns 0 (30 + 14 * d + 5)))), (10, .int (nI (Ns 0 (30 + 14 * d + 4)))), (9, .int (nI (Ns 0 (30 + 14 * d + 1)))), (8, .int (nI (Ns 0 (30 + 14 * d + 0)))), (7, .int (zb (Ns 0 (10 + t) = 1))), (6, .int (nI (t))), (5, .int (nI (f))), (4, .int (nI (d))), (3, .int (nI (k))), (2, .int (nI (Ns 0 6))), (0, .ref (b 0)), (1, .int (nI (p)))]) (lv_sub hl [0, 1, 2, 3, 4, 5, 6, 7, 8, 9, 10, 11, 12, 13, 14, 15, 16, 17, 18, 19] rfl) (rfl))
                        · skip
                          refine lv_iload E.1 E.2.1 dL_isDelivered_257 (lv_at hl 4 rfl) ?_
                          refine lv_iconst (v := nI 1) E.1 E.2.1 dL_isDelivered_259 (by decide) ?_
                          refine lv_icmp_neN (tgt := 267) E.1 E.2.1 (by omega) (by omega) dL_isDelivered_260 (by decide) (fun c260 => ?_) (fun c260 => ?_)
                          · skip
                            refine lv_iload_n E.1 E.2.1 dL_isDelivered_267 rfl (lv_at hl 16 rfl) ?_
                            refine lv_iconst (v := nI 4) E.1 E.2.1 dL_isDelivered_268 (by decide) ?_
                            refine lv_icmp_neN (tgt := 278) E.1 E.2.1 (by omega) (by omega) dL_isDelivered_269 (by decide) (fun c269 => ?_) (fun c269 => ?_)
                            · skip
                              refine lv_iload_n E.1 E.2.1 dL_isDelivered_278 rfl (lv_at hl 16 rfl) ?_
                              refine lv_bipush (v := nI 6) E.1 E.2.1 dL_isDelivered_279 (by decide) ?_
                              refine lv_icmp_neN (tgt := 293) E.1 E.2.1 (by omega) (by omega) dL_isDelivered_281 (by decide) (fun c281 => ?_) (fun c281 => ?_)
                              · skip
                                refine lv_iload E.1 E.2.1 dL_isDelivered_293 (lv_at hl 4 rfl) ?_
                                refine lv_eqi (y := nI (thF k (Ns 0 (30 + 14 * d + (6 + t))) (Ns 0 (15 + t)))) (by rw [thF, if_neg (show ¬ (k = 0 ∧ Ns 0 (30 + 14 * d + (6 + t)) = 0) by omega), if_neg (show ¬ (k = 3 ∧ Ns 0 (30 + 14 * d + (6 + t)) = 1) by omega), if_neg (by omega)]) ?_
                                exact jk224  (trivial) _ _ _ (HB.eq hw (rfl)) (lvh_eq (l := [(19, .int (ansF (Ns 0 (30 + 14 * d + 1)))), (18, .int (nI (0))), (17, .int (-1)), (16, .int (nI (Ns 0 (30 + 14 * d + (6 + t))))), (15, .int (nI (Ns 0 (30 + 14 * d + (6 + t))))), (14, .int (nI (Ns 0 (25 + t)))), (13, .int (nI (Ns 0 (20 + t)))), (12, .int (nI (Ns 0 8))), (11, .int (nI (Ns 0 (30 + 14 * d + 5)))), (10, .int (nI (Ns 0 (30 + 14 * d + 4)))), (9, .int (nI (Ns 0 (30 + 14 * d + 1)))), (8, .int (nI (Ns 0 (30 + 14 * d + 0)))), (7, .int (zb (Ns 0 (10 + t) = 1))), (6, .int (nI (t))), (5, .int (nI (f))), (4, .int (nI (d))), (3, .int (nI (k))), (2, .int (nI (Ns 0 6))), (0, .ref (b 0)), (1, .int (nI (p)))]) (lv_sub hl [0, 1, 2, 3, 4, 5, 6, 7, 8, 9, 10, 11, 12, 13, 14, 15, 16, 17, 18, 19] rfl) (rfl))
                              · skip
                                refine lv_iload E.1 E.2.1 dL_isDelivered_284 (lv_at hl 4 rfl) ?_
                                refine lv_if_neN (tgt := 293) E.1 E.2.1 (by omega) dL_isDelivered_286 (by decide) (fun c286 => ?_) (fun c286 => ?_)
                                · skip
                                  refine lv_iload E.1 E.2.1 dL_isDelivered_293 (lv_at hl 4 rfl) ?_
                                  refine lv_eqi (y := nI (thF k (Ns 0 (30 + 14 * d + (6 + t))) (Ns 0 (15 + t)))) (by rw [thF, if_neg (show ¬ (k = 0 ∧ Ns 0 (30 + 14 * d + (6 + t)) = 0) by omega), if_neg (show ¬ (k = 3 ∧ Ns 0 (30 + 14 * d + (6 + t)) = 1) by omega), if_neg (by omega)]) ?_
                                  exact jk224  (trivial) _ _ _ (HB.eq hw (rfl)) (lvh_eq (l := [(19, .int (ansF (Ns 0 (30 + 14 * d + 1)))), (18, .int (nI (0))), (17, .int (-1)), (16, .int (nI (Ns 0 (30 + 14 * d + (6 + t))))), (15, .int (nI (Ns 0 (30 + 14 * d + (6 + t))))), (14, .int (nI (Ns 0 (25 + t)))), (13, .int (nI (Ns 0 (20 + t)))), (12, .int (nI (Ns 0 8))), (11, .int (nI (Ns 0 (30 + 14 * d + 5)))), (10, .int (nI (Ns 0 (30 + 14 * d + 4)))), (9, .int (nI (Ns 0 (30 + 14 * d + 1)))), (8, .int (nI (Ns 0 (30 + 14 * d + 0)))), (7, .int (zb (Ns 0 (10 + t) = 1))), (6, .int (nI (t))), (5, .int (nI (f))), (4, .int (nI (d))), (3, .int (nI (k))), (2, .int (nI (Ns 0 6))), (0, .ref (b 0)), (1, .int (nI (p)))]) (lv_sub hl [0, 1, 2, 3, 4, 5, 6, 7, 8, 9, 10, 11, 12, 13, 14, 15, 16, 17, 18, 19] rfl) (rfl))
                                · skip
                                  refine lv_iconst (v := nI 3) E.1 E.2.1 dL_isDelivered_289 (by decide) ?_
                                  refine lv_goto (tgt := 295) E.1 E.2.1 dL_isDelivered_290 (by decide) ?_
                                  refine lv_eqi (y := nI (thF k (Ns 0 (30 + 14 * d + (6 + t))) (Ns 0 (15 + t)))) (by rw [thF, if_neg (show ¬ (k = 0 ∧ Ns 0 (30 + 14 * d + (6 + t)) = 0) by omega), if_neg (show ¬ (k = 3 ∧ Ns 0 (30 + 14 * d + (6 + t)) = 1) by omega), if_pos (by omega)]) ?_
                                  exact jk224  (trivial) _ _ _ (HB.eq hw (rfl)) (lvh_eq (l := [(19, .int (ansF (Ns 0 (30 + 14 * d + 1)))), (18, .int (nI (0))), (17, .int (-1)), (16, .int (nI (Ns 0 (30 + 14 * d + (6 + t))))), (15, .int (nI (Ns 0 (30 + 14 * d + (6 + t))))), (14, .int (nI (Ns 0 (25 + t)))), (13, .int (nI (Ns 0 (20 + t)))), (12, .int (nI (Ns 0 8))), (11, .int (nI (Ns 0 (30 + 14 * d + 5)))), (10, .int (nI (Ns 0 (30 + 14 * d + 4)))), (9, .int (nI (Ns 0 (30 + 14 * d + 1)))), (8, .int (nI (Ns 0 (30 + 14 * d + 0)))), (7, .int (zb (Ns 0 (10 + t) = 1))), (6, .int (nI (t))), (5, .int (nI (f))), (4, .int (nI (d))), (3, .int (nI (k))), (2, .int (nI (Ns 0 6))), (0, .ref (b 0)), (1, .int (nI (p)))]) (lv_sub hl [0, 1, 2, 3, 4, 5, 6, 7, 8, 9, 10, 11, 12, 13, 14, 15, 16, 17, 18, 19] rfl) (rfl))
                            · skip
                              refine lv_iload E.1 E.2.1 dL_isDelivered_272 (lv_at hl 4 rfl) ?_
                              refine lv_iconst (v := nI 2) E.1 E.2.1 dL_isDelivered_274 (by decide) ?_
                              refine lv_icmp_ltN (tgt := 289) E.1 E.2.1 (by omega) (by omega) dL_isDelivered_275 (by decide) (fun c275 => ?_) (fun c275 => ?_)
                              · skip
                                refine lv_iconst (v := nI 3) E.1 E.2.1 dL_isDelivered_289 (by decide) ?_
                                refine lv_goto (tgt := 295) E.1 E.2.1 dL_isDelivered_290 (by decide) ?_
                                refine lv_eqi (y := nI (thF k (Ns 0 (30 + 14 * d + (6 + t))) (Ns 0 (15 + t)))) (by rw [thF, if_neg (show ¬ (k = 0 ∧ Ns 0 (30 + 14 * d + (6 + t)) = 0) by omega), if_neg (show ¬ (k = 3 ∧ Ns 0 (30 + 14 * d + (6 + t)) = 1) by omega), if_pos (by omega)]) ?_
                                exact jk224  (trivial) _ _ _ (HB.eq hw (rfl)) (lvh_eq (l := [(19, .int (ansF (Ns 0 (30 + 14 * d + 1)))), (18, .int (nI (0))), (17, .int (-1)), (16, .int (nI (Ns 0 (30 + 14 * d + (6 + t))))), (15, .int (nI (Ns 0 (30 + 14 * d + (6 + t))))), (14, .int (nI (Ns 0 (25 + t)))), (13, .int (nI (Ns 0 (20 + t)))), (12, .int (nI (Ns 0 8))), (11, .int (nI (Ns 0 (30 + 14 * d + 5)))), (10, .int (nI (Ns 0 (30 + 14 * d + 4)))), (9, .int (nI (Ns 0 (30 + 14 * d + 1)))), (8, .int (nI (Ns 0 (30 + 14 * d + 0)))), (7, .int (zb (Ns 0 (10 + t) = 1))), (6, .int (nI (t))), (5, .int (nI (f))), (4, .int (nI (d))), (3, .int (nI (k))), (2, .int (nI (Ns 0 6))), (0, .ref (b 0)), (1, .int (nI (p)))]) (lv_sub hl [0, 1, 2, 3, 4, 5, 6, 7, 8, 9, 10, 11, 12, 13, 14, 15, 16, 17, 18, 19] rfl) (rfl))
                              · skip
                                refine lv_iload_n E.1 E.2.1 dL_isDelivered_278 rfl (lv_at hl 16 rfl) ?_
                                refine lv_bipush (v := nI 6) E.1 E.2.1 dL_isDelivered_279 (by decide) ?_
                                refine lv_icmp_neN (tgt := 293) E.1 E.2.1 (by omega) (by omega) dL_isDelivered_281 (by decide) (fun c281 => ?_) (fun c281 => ?_)
                                · skip
                                  refine lv_iload E.1 E.2.1 dL_isDelivered_293 (lv_at hl 4 rfl) ?_
                                  refine lv_eqi (y := nI (thF k (Ns 0 (30 + 14 * d + (6 + t))) (Ns 0 (15 + t)))) (by rw [thF, if_neg (show ¬ (k = 0 ∧ Ns 0 (30 + 14 * d + (6 + t)) = 0) by omega), if_neg (show ¬ (k = 3 ∧ Ns 0 (30 + 14 * d + (6 + t)) = 1) by omega), if_neg (by omega)]) ?_
                                  exact jk224  (trivial) _ _ _ (HB.eq hw (rfl)) (lvh_eq (l := [(19, .int (ansF (Ns 0 (30 + 14 * d + 1)))), (18, .int (nI (0))), (17, .int (-1)), (16, .int (nI (Ns 0 (30 + 14 * d + (6 + t))))), (15, .int (nI (Ns 0 (30 + 14 * d + (6 + t))))), (14, .int (nI (Ns 0 (25 + t)))), (13, .int (nI (Ns 0 (20 + t)))), (12, .int (nI (Ns 0 8))), (11, .int (nI (Ns 0 (30 + 14 * d + 5)))), (10, .int (nI (Ns 0 (30 + 14 * d + 4)))), (9, .int (nI (Ns 0 (30 + 14 * d + 1)))), (8, .int (nI (Ns 0 (30 + 14 * d + 0)))), (7, .int (zb (Ns 0 (10 + t) = 1))), (6, .int (nI (t))), (5, .int (nI (f))), (4, .int (nI (d))), (3, .int (nI (k))), (2, .int (nI (Ns 0 6))), (0, .ref (b 0)), (1, .int (nI (p)))]) (lv_sub hl [0, 1, 2, 3, 4, 5, 6, 7, 8, 9, 10, 11, 12, 13, 14, 15, 16, 17, 18, 19] rfl) (rfl))
                                · skip
                                  refine lv_iload E.1 E.2.1 dL_isDelivered_284 (lv_at hl 4 rfl) ?_
                                  refine lv_if_neN (tgt := 293) E.1 E.2.1 (by omega) dL_isDelivered_286 (by decide) (fun c286 => ?_) (fun c286 => ?_)
                                  · skip
                                    refine lv_iload E.1 E.2.1 dL_isDelivered_293 (lv_at hl 4 rfl) ?_
                                    refine lv_eqi (y := nI (thF k (Ns 0 (30 + 14 * d + (6 + t))) (Ns 0 (15 + t)))) (by rw [thF, if_neg (show ¬ (k = 0 ∧ Ns 0 (30 + 14 * d + (6 + t)) = 0) by omega), if_neg (show ¬ (k = 3 ∧ Ns 0 (30 + 14 * d + (6 + t)) = 1) by omega), if_neg (by omega)]) ?_
                                    exact jk224  (trivial) _ _ _ (HB.eq hw (rfl)) (lvh_eq (l := [(19, .int (ansF (Ns 0 (30 + 14 * d + 1)))), (18, .int (nI (0))), (17, .int (-1)), (16, .int (nI (Ns 0 (30 + 14 * d + (6 + t))))), (15, .int (nI (Ns 0 (30 + 14 * d + (6 + t))))), (14, .int (nI (Ns 0 (25 + t)))), (13, .int (nI (Ns 0 (20 + t)))), (12, .int (nI (Ns 0 8))), (11, .int (nI (Ns 0 (30 + 14 * d + 5)))), (10, .int (nI (Ns 0 (30 + 14 * d + 4)))), (9, .int (nI (Ns 0 (30 + 14 * d + 1)))), (8, .int (nI (Ns 0 (30 + 14 * d + 0)))), (7, .int (zb (Ns 0 (10 + t) = 1))), (6, .int (nI (t))), (5, .int (nI (f))), (4, .int (nI (d))), (3, .int (nI (k))), (2, .int (nI (Ns 0 6))), (0, .ref (b 0)), (1, .int (nI (p)))]) (lv_sub hl [0, 1, 2, 3, 4, 5, 6, 7, 8, 9, 10, 11, 12, 13, 14, 15, 16, 17, 18, 19] rfl) (rfl))
                                  · skip
                                    refine lv_iconst (v := nI 3) E.1 E.2.1 dL_isDelivered_289 (by decide) ?_
                                    refine lv_goto (tgt := 295) E.1 E.2.1 dL_isDelivered_290 (by decide) ?_
                                    refine lv_eqi (y := nI (thF k (Ns 0 (30 + 14 * d + (6 + t))) (Ns 0 (15 + t)))) (by rw [thF, if_neg (show ¬ (k = 0 ∧ Ns 0 (30 + 14 * d + (6 + t)) = 0) by omega), if_neg (show ¬ (k = 3 ∧ Ns 0 (30 + 14 * d + (6 + t)) = 1) by omega), if_pos (by omega)]) ?_
                                    exact jk224  (trivial) _ _ _ (HB.eq hw (rfl)) (lvh_eq (l := [(19, .int (ansF (Ns 0 (30 + 14 * d + 1)))), (18, .int (nI (0))), (17, .int (-1)), (16, .int (nI (Ns 0 (30 + 14 * d + (6 + t))))), (15, .int (nI (Ns 0 (30 + 14 * d + (6 + t))))), (14, .int (nI (Ns 0 (25 + t)))), (13, .int (nI (Ns 0 (20 + t)))), (12, .int (nI (Ns 0 8))), (11, .int (nI (Ns 0 (30 + 14 * d + 5)))), (10, .int (nI (Ns 0 (30 + 14 * d + 4)))), (9, .int (nI (Ns 0 (30 + 14 * d + 1)))), (8, .int (nI (Ns 0 (30 + 14 * d + 0)))), (7, .int (zb (Ns 0 (10 + t) = 1))), (6, .int (nI (t))), (5, .int (nI (f))), (4, .int (nI (d))), (3, .int (nI (k))), (2, .int (nI (Ns 0 6))), (0, .ref (b 0)), (1, .int (nI (p)))]) (lv_sub hl [0, 1, 2, 3, 4, 5, 6, 7, 8, 9, 10, 11, 12, 13, 14, 15, 16, 17, 18, 19] rfl) (rfl))
                          · skip
                            refine lv_iconst (v := nI 2) E.1 E.2.1 dL_isDelivered_263 (by decide) ?_
                            refine lv_goto (tgt := 295) E.1 E.2.1 dL_isDelivered_264 (by decide) ?_
                            refine lv_eqi (y := nI (thF k (Ns 0 (30 + 14 * d + (6 + t))) (Ns 0 (15 + t)))) (by rw [thF, if_neg (show ¬ (k = 0 ∧ Ns 0 (30 + 14 * d + (6 + t)) = 0) by omega), if_pos ⟨c254, c260⟩]) ?_
                            exact jk224  (trivial) _ _ _ (HB.eq hw (rfl)) (lvh_eq (l := [(19, .int (ansF (Ns 0 (30 + 14 * d + 1)))), (18, .int (nI (0))), (17, .int (-1)), (16, .int (nI (Ns 0 (30 + 14 * d + (6 + t))))), (15, .int (nI (Ns 0 (30 + 14 * d + (6 + t))))), (14, .int (nI (Ns 0 (25 + t)))), (13, .int (nI (Ns 0 (20 + t)))), (12, .int (nI (Ns 0 8))), (11, .int (nI (Ns 0 (30 + 14 * d + 5)))), (10, .int (nI (Ns 0 (30 + 14 * d + 4)))), (9, .int (nI (Ns 0 (30 + 14 * d + 1)))), (8, .int (nI (Ns 0 (30 + 14 * d + 0)))), (7, .int (zb (Ns 0 (10 + t) = 1))), (6, .int (nI (t))), (5, .int (nI (f))), (4, .int (nI (d))), (3, .int (nI (k))), (2, .int (nI (Ns 0 6))), (0, .ref (b 0)), (1, .int (nI (p)))]) (lv_sub hl [0, 1, 2, 3, 4, 5, 6, 7, 8, 9, 10, 11, 12, 13, 14, 15, 16, 17, 18, 19] rfl) (rfl))
                      · skip
                        refine lv_aload_n E.1 E.2.1 dL_isDelivered_233 rfl (lv_at hl 18 rfl) ?_
                        refine lv_iload E.1 E.2.1 dL_isDelivered_234 (lv_at hl 13 rfl) ?_
                        refine lv_iconst (v := nI 1) E.1 E.2.1 dL_isDelivered_236 (by decide) ?_
                        have wt := hF.wl (w := t) ht4
                        refine callVIp E (c_X3_who_ok l G b ad v pd rv Ns t 1 (by omega) (by decide) hF hm) ES.eb (fun _ _ _ => trivial) mn_6_14 YX3_who ⟨rfl, rfl⟩ ⟨Nat.le_of_ble_eq_true rfl, Nat.le_of_ble_eq_true rfl⟩ ⟨Nat.le_of_ble_eq_true rfl, Nat.le_of_ble_eq_true rfl⟩ hw (rr := []) (big' := cW G b ad v pd rv Ns) (by rw [List.append_nil]) (by rw [List.append_nil]) 0 rfl rfl rfl hl rfl (Nat.le_of_ble_eq_true rfl) dL_isDelivered_237 (fun H locs hw => ?_)
                        refine lv_eqi (y := nI (Ns 0 (15 + t))) (by show nI (if t = 4 then 1 else Ns 0 (15 + t)) = _; rw [if_neg (by omega)]) ?_
                        refine lv_iconst (v := nI 1) E.1 E.2.1 dL_isDelivered_240 (by decide) ?_
                        refine lv_icmp_neN (tgt := 248) E.1 E.2.1 (by omega) (by omega) dL_isDelivered_241 (by decide) (fun c241 => ?_) (fun c241 => ?_)
                        · skip
                          refine lv_iconst (v := nI 3) E.1 E.2.1 dL_isDelivered_248 (by decide) ?_
                          refine lv_goto (tgt := 295) E.1 E.2.1 dL_isDelivered_249 (by decide) ?_
                          refine lv_eqi (y := nI (thF k (Ns 0 (30 + 14 * d + (6 + t))) (Ns 0 (15 + t)))) (by rw [thF, if_pos ⟨c225, c230⟩, if_neg c241]) ?_
                          exact jk224  (trivial) _ _ _ (HB.eq hw (rfl)) (lvh_eq (l := [(19, .int (ansF (Ns 0 (30 + 14 * d + 1)))), (18, .int (nI (0))), (17, .int (-1)), (16, .int (nI (Ns 0 (30 + 14 * d + (6 + t))))), (15, .int (nI (Ns 0 (30 + 14 * d + (6 + t))))), (14, .int (nI (Ns 0 (25 + t)))), (13, .int (nI (Ns 0 (20 + t)))), (12, .int (nI (Ns 0 8))), (11, .int (nI (Ns 0 (30 + 14 * d + 5)))), (10, .int (nI (Ns 0 (30 + 14 * d + 4)))), (9, .int (nI (Ns 0 (30 + 14 * d + 1)))), (8, .int (nI (Ns 0 (30 + 14 * d + 0)))), (7, .int (zb (Ns 0 (10 + t) = 1))), (6, .int (nI (t))), (5, .int (nI (f))), (4, .int (nI (d))), (3, .int (nI (k))), (2, .int (nI (Ns 0 6))), (0, .ref (b 0)), (1, .int (nI (p)))]) (lv_sub hl [0, 1, 2, 3, 4, 5, 6, 7, 8, 9, 10, 11, 12, 13, 14, 15, 16, 17, 18, 19] rfl) (rfl))
                        · skip
                          refine lv_iconst (v := nI 1) E.1 E.2.1 dL_isDelivered_244 (by decide) ?_
                          refine lv_goto (tgt := 295) E.1 E.2.1 dL_isDelivered_245 (by decide) ?_
                          refine lv_eqi (y := nI (thF k (Ns 0 (30 + 14 * d + (6 + t))) (Ns 0 (15 + t)))) (by rw [thF, if_pos ⟨c225, c230⟩, if_pos c241]) ?_
                          exact jk224  (trivial) _ _ _ (HB.eq hw (rfl)) (lvh_eq (l := [(19, .int (ansF (Ns 0 (30 + 14 * d + 1)))), (18, .int (nI (0))), (17, .int (-1)), (16, .int (nI (Ns 0 (30 + 14 * d + (6 + t))))), (15, .int (nI (Ns 0 (30 + 14 * d + (6 + t))))), (14, .int (nI (Ns 0 (25 + t)))), (13, .int (nI (Ns 0 (20 + t)))), (12, .int (nI (Ns 0 8))), (11, .int (nI (Ns 0 (30 + 14 * d + 5)))), (10, .int (nI (Ns 0 (30 + 14 * d + 4)))), (9, .int (nI (Ns 0 (30 + 14 * d + 1)))), (8, .int (nI (Ns 0 (30 + 14 * d + 0)))), (7, .int (zb (Ns 0 (10 + t) = 1))), (6, .int (nI (t))), (5, .int (nI (f))), (4, .int (nI (d))), (3, .int (nI (k))), (2, .int (nI (Ns 0 6))), (0, .ref (b 0)), (1, .int (nI (p)))]) (lv_sub hl [0, 1, 2, 3, 4, 5, 6, 7, 8, 9, 10, 11, 12, 13, 14, 15, 16, 17, 18, 19] rfl) (rfl))
                  · intro  hP224 H locs ls hw hl
                    replace hw : HB G AA sS.heap (cW G b ad v pd rv Ns) H locs := hw
                    replace hl : lv_has ls 24 [(19, .int (ansF (Ns 0 (30 + 14 * d + 1)))), (18, .int (nI (0))), (17, .int (-1)), (16, .int (nI (Ns 0 (30 + 14 * d + (6 + t))))), (15, .int (nI (Ns 0 (30 + 14 * d + (6 + t))))), (14, .int (nI (Ns 0 (25 + t)))), (13, .int (nI (Ns 0 (20 + t)))), (12, .int (nI (Ns 0 8))), (11, .int (nI (Ns 0 (30 + 14 * d + 5)))), (10, .int (nI (Ns 0 (30 + 14 * d + 4)))), (9, .int (nI (Ns 0 (30 + 14 * d + 1)))), (8, .int (nI (Ns 0 (30 + 14 * d + 0)))), (7, .int (zb (Ns 0 (10 + t) = 1))), (6, .int (nI (t))), (5, .int (nI (f))), (4, .int (nI (d))), (3, .int (nI (k))), (2, .int (nI (Ns 0 6))), (0, .ref (b 0)), (1, .int (nI (p)))] := hl
                    show W _ _ _ _ _ _ _ _ _ _ _ _ _ _ _ (F0 mM 295 ls [.int (nI (thF k (Ns 0 (30 + 14 * d + (6 + t))) (Ns 0 (15 + t))))])
                    refine lv_istore (lv' := [(16, .int (nI (thF k (Ns 0 (30 + 14 * d + (6 + t))) (Ns 0 (15 + t))))), (19, .int (ansF (Ns 0 (30 + 14 * d + 1)))), (18, .int (nI (0))), (17, .int (-1)), (15, .int (nI (Ns 0 (30 + 14 * d + (6 + t))))), (14, .int (nI (Ns 0 (25 + t)))), (13, .int (nI (Ns 0 (20 + t)))), (12, .int (nI (Ns 0 8))), (11, .int (nI (Ns 0 (30 + 14 * d + 5)))), (10, .int (nI (Ns 0 (30 + 14 * d + 4)))), (9, .int (nI (Ns 0 (30 + 14 * d + 1)))), (8, .int (nI (Ns 0 (30 + 14 * d + 0)))), (7, .int (zb (Ns 0 (10 + t) = 1))), (6, .int (nI (t))), (5, .int (nI (f))), (4, .int (nI (d))), (3, .int (nI (k))), (2, .int (nI (Ns 0 6))), (0, .ref (b 0)), (1, .int (nI (p)))]) E.1 E.2.1 dL_isDelivered_295 hl (by decide) rfl (fun ls hl => ?_)
                    refine W_join0 (G := G) (A := AA) (H0 := sS.heap) (nL := 24) 356 (True) (cW G b ad v pd rv Ns) ([(16, .int (nI (thF k (Ns 0 (30 + 14 * d + (6 + t))) (Ns 0 (15 + t))))), (19, .int (ansF (Ns 0 (30 + 14 * d + 1)))), (18, .int (nI (0))), (17, .int (-1)), (15, .int (nI (Ns 0 (30 + 14 * d + (6 + t))))), (14, .int (nI (Ns 0 (25 + t)))), (13, .int (nI (Ns 0 (20 + t)))), (12, .int (nI (Ns 0 8))), (11, .int (nI (Ns 0 (30 + 14 * d + 5)))), (10, .int (nI (Ns 0 (30 + 14 * d + 4)))), (9, .int (nI (Ns 0 (30 + 14 * d + 1)))), (8, .int (nI (Ns 0 (30 + 14 * d + 0)))), (7, .int (zb (Ns 0 (10 + t) = 1))), (6, .int (nI (t))), (5, .int (nI (f))), (4, .int (nI (d))), (3, .int (nI (k))), (2, .int (nI (Ns 0 6))), (0, .ref (b 0)), (1, .int (nI (p)))]) ([.int (sdF k (thF k (Ns 0 (30 + 14 * d + (6 + t))) (Ns 0 (15 + t))))]) (fun jk297 => ?_) ?_
                    · skip
                      have htF : thF k (Ns 0 (30 + 14 * d + (6 + t))) (Ns 0 (15 + t)) < 4 := thF_lt qa
                      refine lv_iload_n E.1 E.2.1 dL_isDelivered_297 rfl (lv_at hl 16 rfl) ?_
                      refine lv_if_neN (tgt := 321) E.1 E.2.1 (by omega) dL_isDelivered_298 (by decide) (fun c298 => ?_) (fun c298 => ?_)
                      · skip
                        refine lv_iload_n E.1 E.2.1 dL_isDelivered_321 rfl (lv_at hl 16 rfl) ?_
                        refine lv_iconst (v := nI 3) E.1 E.2.1 dL_isDelivered_322 (by decide) ?_
                        refine lv_icmp_neN (tgt := 336) E.1 E.2.1 (by omega) (by omega) dL_isDelivered_323 (by decide) (fun c323 => ?_) (fun c323 => ?_)
                        · skip
                          refine lv_iload_n E.1 E.2.1 dL_isDelivered_336 rfl (lv_at hl 16 rfl) ?_
                          refine lv_bipush (v := nI 6) E.1 E.2.1 dL_isDelivered_337 (by decide) ?_
                          refine lv_icmp_neN (tgt := 355) E.1 E.2.1 (by omega) (by omega) dL_isDelivered_339 (by decide) (fun c339 => ?_) (fun c339 => ?_)
                          · skip
                            refine lv_iconst (v := -1) E.1 E.2.1 dL_isDelivered_355 (by decide) ?_
                            refine lv_eqi (y := sdF k (thF k (Ns 0 (30 + 14 * d + (6 + t))) (Ns 0 (15 + t)))) (by rw [sdF, if_neg (show ¬ (k = 0 ∧ ¬ thF k (Ns 0 (30 + 14 * d + (6 + t))) (Ns 0 (15 + t)) = 2) by omega), if_neg (show ¬ (k = 3 ∧ thF k (Ns 0 (30 + 14 * d + (6 + t))) (Ns 0 (15 + t)) = 2) by omega), if_neg (by omega)]) ?_
                            exact jk297  (trivial) _ _ _ (HB.eq hw (rfl)) (lvh_eq (l := [(16, .int (nI (thF k (Ns 0 (30 + 14 * d + (6 + t))) (Ns 0 (15 + t))))), (19, .int (ansF (Ns 0 (30 + 14 * d + 1)))), (18, .int (nI (0))), (17, .int (-1)), (15, .int (nI (Ns 0 (30 + 14 * d + (6 + t))))), (14, .int (nI (Ns 0 (25 + t)))), (13, .int (nI (Ns 0 (20 + t)))), (12, .int (nI (Ns 0 8))), (11, .int (nI (Ns 0 (30 + 14 * d + 5)))), (10, .int (nI (Ns 0 (30 + 14 * d + 4)))), (9, .int (nI (Ns 0 (30 + 14 * d + 1)))), (8, .int (nI (Ns 0 (30 + 14 * d + 0)))), (7, .int (zb (Ns 0 (10 + t) = 1))), (6, .int (nI (t))), (5, .int (nI (f))), (4, .int (nI (d))), (3, .int (nI (k))), (2, .int (nI (Ns 0 6))), (0, .ref (b 0)), (1, .int (nI (p)))]) (lv_sub hl [0, 1, 2, 3, 4, 5, 6, 7, 8, 9, 10, 11, 12, 13, 14, 15, 16, 17, 18, 19] rfl) (rfl))
                          · skip
                            refine lv_iload E.1 E.2.1 dL_isDelivered_342 (lv_at hl 0 rfl) ?_
                            refine lv_iconst (v := nI 1) E.1 E.2.1 dL_isDelivered_344 (by decide) ?_
                            refine lv_icmp_leN (tgt := 355) E.1 E.2.1 (by omega) (by omega) dL_isDelivered_345 (by decide) (fun c345 => ?_) (fun c345 => ?_)
                            · skip
                              refine lv_iconst (v := -1) E.1 E.2.1 dL_isDelivered_355 (by decide) ?_
                              refine lv_eqi (y := sdF k (thF k (Ns 0 (30 + 14 * d + (6 + t))) (Ns 0 (15 + t)))) (by rw [sdF, if_neg (show ¬ (k = 0 ∧ ¬ thF k (Ns 0 (30 + 14 * d + (6 + t))) (Ns 0 (15 + t)) = 2) by omega), if_neg (show ¬ (k = 3 ∧ thF k (Ns 0 (30 + 14 * d + (6 + t))) (Ns 0 (15 + t)) = 2) by omega), if_neg (by omega)]) ?_
                              exact jk297  (trivial) _ _ _ (HB.eq hw (rfl)) (lvh_eq (l := [(16, .int (nI (thF k (Ns 0 (30 + 14 * d + (6 + t))) (Ns 0 (15 + t))))), (19, .int (ansF (Ns 0 (30 + 14 * d + 1)))), (18, .int (nI (0))), (17, .int (-1)), (15, .int (nI (Ns 0 (30 + 14 * d + (6 + t))))), (14, .int (nI (Ns 0 (25 + t)))), (13, .int (nI (Ns 0 (20 + t)))), (12, .int (nI (Ns 0 8))), (11, .int (nI (Ns 0 (30 + 14 * d + 5)))), (10, .int (nI (Ns 0 (30 + 14 * d + 4)))), (9, .int (nI (Ns 0 (30 + 14 * d + 1)))), (8, .int (nI (Ns 0 (30 + 14 * d + 0)))), (7, .int (zb (Ns 0 (10 + t) = 1))), (6, .int (nI (t))), (5, .int (nI (f))), (4, .int (nI (d))), (3, .int (nI (k))), (2, .int (nI (Ns 0 6))), (0, .ref (b 0)), (1, .int (nI (p)))]) (lv_sub hl [0, 1, 2, 3, 4, 5, 6, 7, 8, 9, 10, 11, 12, 13, 14, 15, 16, 17, 18, 19] rfl) (rfl))
                            · skip
                              refine lv_iload E.1 E.2.1 dL_isDelivered_348 (lv_at hl 0 rfl) ?_
                              refine lv_iconst (v := nI 1) E.1 E.2.1 dL_isDelivered_350 (by decide) ?_
                              refine lv_addN E.1 E.2.1 dL_isDelivered_351 ?_
                              refine lv_goto (tgt := 356) E.1 E.2.1 dL_isDelivered_352 (by decide) ?_
                              refine lv_eqi (y := sdF k (thF k (Ns 0 (30 + 14 * d + (6 + t))) (Ns 0 (15 + t)))) (by rw [sdF, if_neg (show ¬ (k = 0 ∧ ¬ thF k (Ns 0 (30 + 14 * d + (6 + t))) (Ns 0 (15 + t)) = 2) by omega), if_neg (show ¬ (k = 3 ∧ thF k (Ns 0 (30 + 14 * d + (6 + t))) (Ns 0 (15 + t)) = 2) by omega), if_pos ⟨c339, by omega⟩]) ?_
                              exact jk297  (trivial) _ _ _ (HB.eq hw (rfl)) (lvh_eq (l := [(16, .int (nI (thF k (Ns 0 (30 + 14 * d + (6 + t))) (Ns 0 (15 + t))))), (19, .int (ansF (Ns 0 (30 + 14 * d + 1)))), (18, .int (nI (0))), (17, .int (-1)), (15, .int (nI (Ns 0 (30 + 14 * d + (6 + t))))), (14, .int (nI (Ns 0 (25 + t)))), (13, .int (nI (Ns 0 (20 + t)))), (12, .int (nI (Ns 0 8))), (11, .int (nI (Ns 0 (30 + 14 * d + 5)))), (10, .int (nI (Ns 0 (30 + 14 * d + 4)))), (9, .int (nI (Ns 0 (30 + 14 * d + 1)))), (8, .int (nI (Ns 0 (30 + 14 * d + 0)))), (7, .int (zb (Ns 0 (10 + t) = 1))), (6, .int (nI (t))), (5, .int (nI (f))), (4, .int (nI (d))), (3, .int (nI (k))), (2, .int (nI (Ns 0 6))), (0, .ref (b 0)), (1, .int (nI (p)))]) (lv_sub hl [0, 1, 2, 3, 4, 5, 6, 7, 8, 9, 10, 11, 12, 13, 14, 15, 16, 17, 18, 19] rfl) (rfl))
                        · skip
                          refine lv_iload E.1 E.2.1 dL_isDelivered_326 (lv_at hl 0 rfl) ?_
                          refine lv_iconst (v := nI 2) E.1 E.2.1 dL_isDelivered_328 (by decide) ?_
                          refine lv_icmp_neN (tgt := 336) E.1 E.2.1 (by omega) (by omega) dL_isDelivered_329 (by decide) (fun c329 => ?_) (fun c329 => ?_)
                          · skip
                            refine lv_iload_n E.1 E.2.1 dL_isDelivered_336 rfl (lv_at hl 16 rfl) ?_
                            refine lv_bipush (v := nI 6) E.1 E.2.1 dL_isDelivered_337 (by decide) ?_
                            refine lv_icmp_neN (tgt := 355) E.1 E.2.1 (by omega) (by omega) dL_isDelivered_339 (by decide) (fun c339 => ?_) (fun c339 => ?_)
                            · skip
                              refine lv_iconst (v := -1) E.1 E.2.1 dL_isDelivered_355 (by decide) ?_
                              refine lv_eqi (y := sdF k (thF k (Ns 0 (30 + 14 * d + (6 + t))) (Ns 0 (15 + t)))) (by rw [sdF, if_neg (show ¬ (k = 0 ∧ ¬ thF k (Ns 0 (30 + 14 * d + (6 + t))) (Ns 0 (15 + t)) = 2) by omega), if_neg (show ¬ (k = 3 ∧ thF k (Ns 0 (30 + 14 * d + (6 + t))) (Ns 0 (15 + t)) = 2) by omega), if_neg (by omega)]) ?_
                              exact jk297  (trivial) _ _ _ (HB.eq hw (rfl)) (lvh_eq (l := [(16, .int (nI (thF k (Ns 0 (30 + 14 * d + (6 + t))) (Ns 0 (15 + t))))), (19, .int (ansF (Ns 0 (30 + 14 * d + 1)))), (18, .int (nI (0))), (17, .int (-1)), (15, .int (nI (Ns 0 (30 + 14 * d + (6 + t))))), (14, .int (nI (Ns 0 (25 + t)))), (13, .int (nI (Ns 0 (20 + t)))), (12, .int (nI (Ns 0 8))), (11, .int (nI (Ns 0 (30 + 14 * d + 5)))), (10, .int (nI (Ns 0 (30 + 14 * d + 4)))), (9, .int (nI (Ns 0 (30 + 14 * d + 1)))), (8, .int (nI (Ns 0 (30 + 14 * d + 0)))), (7, .int (zb (Ns 0 (10 + t) = 1))), (6, .int (nI (t))), (5, .int (nI (f))), (4, .int (nI (d))), (3, .int (nI (k))), (2, .int (nI (Ns 0 6))), (0, .ref (b 0)), (1, .int (nI (p)))]) (lv_sub hl [0, 1, 2, 3, 4, 5, 6, 7, 8, 9, 10, 11, 12, 13, 14, 15, 16, 17, 18, 19] rfl) (rfl))
                            · skip
                              refine lv_iload E.1 E.2.1 dL_isDelivered_342 (lv_at hl 0 rfl) ?_
                              refine lv_iconst (v := nI 1) E.1 E.2.1 dL_isDelivered_344 (by decide) ?_
                              refine lv_icmp_leN (tgt := 355) E.1 E.2.1 (by omega) (by omega) dL_isDelivered_345 (by decide) (fun c345 => ?_) (fun c345 => ?_)
                              · skip
                                refine lv_iconst (v := -1) E.1 E.2.1 dL_isDelivered_355 (by decide) ?_
                                refine lv_eqi (y := sdF k (thF k (Ns 0 (30 + 14 * d + (6 + t))) (Ns 0 (15 + t)))) (by rw [sdF, if_neg (show ¬ (k = 0 ∧ ¬ thF k (Ns 0 (30 + 14 * d + (6 + t))) (Ns 0 (15 + t)) = 2) by omega), if_neg (show ¬ (k = 3 ∧ thF k (Ns 0 (30 + 14 * d + (6 + t))) (Ns 0 (15 + t)) = 2) by omega), if_neg (by omega)]) ?_
                                exact jk297  (trivial) _ _ _ (HB.eq hw (rfl)) (lvh_eq (l := [(16, .int (nI (thF k (Ns 0 (30 + 14 * d + (6 + t))) (Ns 0 (15 + t))))), (19, .int (ansF (Ns 0 (30 + 14 * d + 1)))), (18, .int (nI (0))), (17, .int (-1)), (15, .int (nI (Ns 0 (30 + 14 * d + (6 + t))))), (14, .int (nI (Ns 0 (25 + t)))), (13, .int (nI (Ns 0 (20 + t)))), (12, .int (nI (Ns 0 8))), (11, .int (nI (Ns 0 (30 + 14 * d + 5)))), (10, .int (nI (Ns 0 (30 + 14 * d + 4)))), (9, .int (nI (Ns 0 (30 + 14 * d + 1)))), (8, .int (nI (Ns 0 (30 + 14 * d + 0)))), (7, .int (zb (Ns 0 (10 + t) = 1))), (6, .int (nI (t))), (5, .int (nI (f))), (4, .int (nI (d))), (3, .int (nI (k))), (2, .int (nI (Ns 0 6))), (0, .ref (b 0)), (1, .int (nI (p)))]) (lv_sub hl [0, 1, 2, 3, 4, 5, 6, 7, 8, 9, 10, 11, 12, 13, 14, 15, 16, 17, 18, 19] rfl) (rfl))
                              · skip
                                refine lv_iload E.1 E.2.1 dL_isDelivered_348 (lv_at hl 0 rfl) ?_
                                refine lv_iconst (v := nI 1) E.1 E.2.1 dL_isDelivered_350 (by decide) ?_
                                refine lv_addN E.1 E.2.1 dL_isDelivered_351 ?_
                                refine lv_goto (tgt := 356) E.1 E.2.1 dL_isDelivered_352 (by decide) ?_
                                refine lv_eqi (y := sdF k (thF k (Ns 0 (30 + 14 * d + (6 + t))) (Ns 0 (15 + t)))) (by rw [sdF, if_neg (show ¬ (k = 0 ∧ ¬ thF k (Ns 0 (30 + 14 * d + (6 + t))) (Ns 0 (15 + t)) = 2) by omega), if_neg (show ¬ (k = 3 ∧ thF k (Ns 0 (30 + 14 * d + (6 + t))) (Ns 0 (15 + t)) = 2) by omega), if_pos ⟨c339, by omega⟩]) ?_
                                exact jk297  (trivial) _ _ _ (HB.eq hw (rfl)) (lvh_eq (l := [(16, .int (nI (thF k (Ns 0 (30 + 14 * d + (6 + t))) (Ns 0 (15 + t))))), (19, .int (ansF (Ns 0 (30 + 14 * d + 1)))), (18, .int (nI (0))), (17, .int (-1)), (15, .int (nI (Ns 0 (30 + 14 * d + (6 + t))))), (14, .int (nI (Ns 0 (25 + t)))), (13, .int (nI (Ns 0 (20 + t)))), (12, .int (nI (Ns 0 8))), (11, .int (nI (Ns 0 (30 + 14 * d + 5)))), (10, .int (nI (Ns 0 (30 + 14 * d + 4)))), (9, .int (nI (Ns 0 (30 + 14 * d + 1)))), (8, .int (nI (Ns 0 (30 + 14 * d + 0)))), (7, .int (zb (Ns 0 (10 + t) = 1))), (6, .int (nI (t))), (5, .int (nI (f))), (4, .int (nI (d))), (3, .int (nI (k))), (2, .int (nI (Ns 0 6))), (0, .ref (b 0)), (1, .int (nI (p)))]) (lv_sub hl [0, 1, 2, 3, 4, 5, 6, 7, 8, 9, 10, 11, 12, 13, 14, 15, 16, 17, 18, 19] rfl) (rfl))
                          · skip
                            refine lv_iconst (v := nI 5) E.1 E.2.1 dL_isDelivered_332 (by decide) ?_
                            refine lv_goto (tgt := 356) E.1 E.2.1 dL_isDelivered_333 (by decide) ?_
                            refine lv_eqi (y := sdF k (thF k (Ns 0 (30 + 14 * d + (6 + t))) (Ns 0 (15 + t)))) (by rw [sdF, if_neg (show ¬ (k = 0 ∧ ¬ thF k (Ns 0 (30 + 14 * d + (6 + t))) (Ns 0 (15 + t)) = 2) by omega), if_pos ⟨c323, c329⟩]) ?_
                            exact jk297  (trivial) _ _ _ (HB.eq hw (rfl)) (lvh_eq (l := [(16, .int (nI (thF k (Ns 0 (30 + 14 * d + (6 + t))) (Ns 0 (15 + t))))), (19, .int (ansF (Ns 0 (30 + 14 * d + 1)))), (18, .int (nI (0))), (17, .int (-1)), (15, .int (nI (Ns 0 (30 + 14 * d + (6 + t))))), (14, .int (nI (Ns 0 (25 + t)))), (13, .int (nI (Ns 0 (20 + t)))), (12, .int (nI (Ns 0 8))), (11, .int (nI (Ns 0 (30 + 14 * d + 5)))), (10, .int (nI (Ns 0 (30 + 14 * d + 4)))), (9, .int (nI (Ns 0 (30 + 14 * d + 1)))), (8, .int (nI (Ns 0 (30 + 14 * d + 0)))), (7, .int (zb (Ns 0 (10 + t) = 1))), (6, .int (nI (t))), (5, .int (nI (f))), (4, .int (nI (d))), (3, .int (nI (k))), (2, .int (nI (Ns 0 6))), (0, .ref (b 0)), (1, .int (nI (p)))]) (lv_sub hl [0, 1, 2, 3, 4, 5, 6, 7, 8, 9, 10, 11, 12, 13, 14, 15, 16, 17, 18, 19] rfl) (rfl))
                      · skip
                        refine lv_iload E.1 E.2.1 dL_isDelivered_301 (lv_at hl 0 rfl) ?_
                        refine lv_iconst (v := nI 2) E.1 E.2.1 dL_isDelivered_303 (by decide) ?_
                        refine lv_icmp_eqN (tgt := 321) E.1 E.2.1 (by omega) (by omega) dL_isDelivered_304 (by decide) (fun c304 => ?_) (fun c304 => ?_)
                        · skip
                          refine lv_iload_n E.1 E.2.1 dL_isDelivered_321 rfl (lv_at hl 16 rfl) ?_
                          refine lv_iconst (v := nI 3) E.1 E.2.1 dL_isDelivered_322 (by decide) ?_
                          refine lv_icmp_neN (tgt := 336) E.1 E.2.1 (by omega) (by omega) dL_isDelivered_323 (by decide) (fun c323 => ?_) (fun c323 => ?_)
                          · skip
                            refine lv_iload_n E.1 E.2.1 dL_isDelivered_336 rfl (lv_at hl 16 rfl) ?_
                            refine lv_bipush (v := nI 6) E.1 E.2.1 dL_isDelivered_337 (by decide) ?_
                            refine lv_icmp_neN (tgt := 355) E.1 E.2.1 (by omega) (by omega) dL_isDelivered_339 (by decide) (fun c339 => ?_) (fun c339 => ?_)
                            · skip
                              refine lv_iconst (v := -1) E.1 E.2.1 dL_isDelivered_355 (by decide) ?_
                              refine lv_eqi (y := sdF k (thF k (Ns 0 (30 + 14 * d + (6 + t))) (Ns 0 (15 + t)))) (by rw [sdF, if_neg (show ¬ (k = 0 ∧ ¬ thF k (Ns 0 (30 + 14 * d + (6 + t))) (Ns 0 (15 + t)) = 2) by omega), if_neg (show ¬ (k = 3 ∧ thF k (Ns 0 (30 + 14 * d + (6 + t))) (Ns 0 (15 + t)) = 2) by omega), if_neg (by omega)]) ?_
                              exact jk297  (trivial) _ _ _ (HB.eq hw (rfl)) (lvh_eq (l := [(16, .int (nI (thF k (Ns 0 (30 + 14 * d + (6 + t))) (Ns 0 (15 + t))))), (19, .int (ansF (Ns 0 (30 + 14 * d + 1)))), (18, .int (nI (0))), (17, .int (-1)), (15, .int (nI (Ns 0 (30 + 14 * d + (6 + t))))), (14, .int (nI (Ns 0 (25 + t)))), (13, .int (nI (Ns 0 (20 + t)))), (12, .int (nI (Ns 0 8))), (11, .int (nI (Ns 0 (30 + 14 * d + 5)))), (10, .int (nI (Ns 0 (30 + 14 * d + 4)))), (9, .int (nI (Ns 0 (30 + 14 * d + 1)))), (8, .int (nI (Ns 0 (30 + 14 * d + 0)))), (7, .int (zb (Ns 0 (10 + t) = 1))), (6, .int (nI (t))), (5, .int (nI (f))), (4, .int (nI (d))), (3, .int (nI (k))), (2, .int (nI (Ns 0 6))), (0, .ref (b 0)), (1, .int (nI (p)))]) (lv_sub hl [0, 1, 2, 3, 4, 5, 6, 7, 8, 9, 10, 11, 12, 13, 14, 15, 16, 17, 18, 19] rfl) (rfl))
                            · skip
                              refine lv_iload E.1 E.2.1 dL_isDelivered_342 (lv_at hl 0 rfl) ?_
                              refine lv_iconst (v := nI 1) E.1 E.2.1 dL_isDelivered_344 (by decide) ?_
                              refine lv_icmp_leN (tgt := 355) E.1 E.2.1 (by omega) (by omega) dL_isDelivered_345 (by decide) (fun c345 => ?_) (fun c345 => ?_)
                              · skip
                                refine lv_iconst (v := -1) E.1 E.2.1 dL_isDelivered_355 (by decide) ?_
                                refine lv_eqi (y := sdF k (thF k (Ns 0 (30 + 14 * d + (6 + t))) (Ns 0 (15 + t)))) (by rw [sdF, if_neg (show ¬ (k = 0 ∧ ¬ thF k (Ns 0 (30 + 14 * d + (6 + t))) (Ns 0 (15 + t)) = 2) by omega), if_neg (show ¬ (k = 3 ∧ thF k (Ns 0 (30 + 14 * d + (6 + t))) (Ns 0 (15 + t)) = 2) by omega), if_neg (by omega)]) ?_
                                exact jk297  (trivial) _ _ _ (HB.eq hw (rfl)) (lvh_eq (l := [(16, .int (nI (thF k (Ns 0 (30 + 14 * d + (6 + t))) (Ns 0 (15 + t))))), (19, .int (ansF (Ns 0 (30 + 14 * d + 1)))), (18, .int (nI (0))), (17, .int (-1)), (15, .int (nI (Ns 0 (30 + 14 * d + (6 + t))))), (14, .int (nI (Ns 0 (25 + t)))), (13, .int (nI (Ns 0 (20 + t)))), (12, .int (nI (Ns 0 8))), (11, .int (nI (Ns 0 (30 + 14 * d + 5)))), (10, .int (nI (Ns 0 (30 + 14 * d + 4)))), (9, .int (nI (Ns 0 (30 + 14 * d + 1)))), (8, .int (nI (Ns 0 (30 + 14 * d + 0)))), (7, .int (zb (Ns 0 (10 + t) = 1))), (6, .int (nI (t))), (5, .int (nI (f))), (4, .int (nI (d))), (3, .int (nI (k))), (2, .int (nI (Ns 0 6))), (0, .ref (b 0)), (1, .int (nI (p)))]) (lv_sub hl [0, 1, 2, 3, 4, 5, 6, 7, 8, 9, 10, 11, 12, 13, 14, 15, 16, 17, 18, 19] rfl) (rfl))
                              · skip
                                refine lv_iload E.1 E.2.1 dL_isDelivered_348 (lv_at hl 0 rfl) ?_
                                refine lv_iconst (v := nI 1) E.1 E.2.1 dL_isDelivered_350 (by decide) ?_
                                refine lv_addN E.1 E.2.1 dL_isDelivered_351 ?_
                                refine lv_goto (tgt := 356) E.1 E.2.1 dL_isDelivered_352 (by decide) ?_
                                refine lv_eqi (y := sdF k (thF k (Ns 0 (30 + 14 * d + (6 + t))) (Ns 0 (15 + t)))) (by rw [sdF, if_neg (show ¬ (k = 0 ∧ ¬ thF k (Ns 0 (30 + 14 * d + (6 + t))) (Ns 0 (15 + t)) = 2) by omega), if_neg (show ¬ (k = 3 ∧ thF k (Ns 0 (30 + 14 * d + (6 + t))) (Ns 0 (15 + t)) = 2) by omega), if_pos ⟨c339, by omega⟩]) ?_
                                exact jk297  (trivial) _ _ _ (HB.eq hw (rfl)) (lvh_eq (l := [(16, .int (nI (thF k (Ns 0 (30 + 14 * d + (6 + t))) (Ns 0 (15 + t))))), (19, .int (ansF (Ns 0 (30 + 14 * d + 1)))), (18, .int (nI (0))), (17, .int (-1)), (15, .int (nI (Ns 0 (30 + 14 * d + (6 + t))))), (14, .int (nI (Ns 0 (25 + t)))), (13, .int (nI (Ns 0 (20 + t)))), (12, .int (nI (Ns 0 8))), (11, .int (nI (Ns 0 (30 + 14 * d + 5)))), (10, .int (nI (Ns 0 (30 + 14 * d + 4)))), (9, .int (nI (Ns 0 (30 + 14 * d + 1)))), (8, .int (nI (Ns 0 (30 + 14 * d + 0)))), (7, .int (zb (Ns 0 (10 + t) = 1))), (6, .int (nI (t))), (5, .int (nI (f))), (4, .int (nI (d))), (3, .int (nI (k))), (2, .int (nI (Ns 0 6))), (0, .ref (b 0)), (1, .int (nI (p)))]) (lv_sub hl [0, 1, 2, 3, 4, 5, 6, 7, 8, 9, 10, 11, 12, 13, 14, 15, 16, 17, 18, 19] rfl) (rfl))
                          · skip
                            refine lv_iload E.1 E.2.1 dL_isDelivered_326 (lv_at hl 0 rfl) ?_
                            refine lv_iconst (v := nI 2) E.1 E.2.1 dL_isDelivered_328 (by decide) ?_
                            refine lv_icmp_neN (tgt := 336) E.1 E.2.1 (by omega) (by omega) dL_isDelivered_329 (by decide) (fun c329 => ?_) (fun c329 => ?_)
                            · skip
                              refine lv_iload_n E.1 E.2.1 dL_isDelivered_336 rfl (lv_at hl 16 rfl) ?_
                              refine lv_bipush (v := nI 6) E.1 E.2.1 dL_isDelivered_337 (by decide) ?_
                              refine lv_icmp_neN (tgt := 355) E.1 E.2.1 (by omega) (by omega) dL_isDelivered_339 (by decide) (fun c339 => ?_) (fun c339 => ?_)
                              · skip
                                refine lv_iconst (v := -1) E.1 E.2.1 dL_isDelivered_355 (by decide) ?_
                                refine lv_eqi (y := sdF k (thF k (Ns 0 (30 + 14 * d + (6 + t))) (Ns 0 (15 + t)))) (by rw [sdF, if_neg (show ¬ (k = 0 ∧ ¬ thF k (Ns 0 (30 + 14 * d + (6 + t))) (Ns 0 (15 + t)) = 2) by omega), if_neg (show ¬ (k = 3 ∧ thF k (Ns 0 (30 + 14 * d + (6 + t))) (Ns 0 (15 + t)) = 2) by omega), if_neg (by omega)]) ?_
                                exact jk297  (trivial) _ _ _ (HB.eq hw (rfl)) (lvh_eq (l := [(16, .int (nI (thF k (Ns 0 (30 + 14 * d + (6 + t))) (Ns 0 (15 + t))))), (19, .int (ansF (Ns 0 (30 + 14 * d + 1)))), (18, .int (nI (0))), (17, .int (-1)), (15, .int (nI (Ns 0 (30 + 14 * d + (6 + t))))), (14, .int (nI (Ns 0 (25 + t)))), (13, .int (nI (Ns 0 (20 + t)))), (12, .int (nI (Ns 0 8))), (11, .int (nI (Ns 0 (30 + 14 * d + 5)))), (10, .int (nI (Ns 0 (30 + 14 * d + 4)))), (9, .int (nI (Ns 0 (30 + 14 * d + 1)))), (8, .int (nI (Ns 0 (30 + 14 * d + 0)))), (7, .int (zb (Ns 0 (10 + t) = 1))), (6, .int (nI (t))), (5, .int (nI (f))), (4, .int (nI (d))), (3, .int (nI (k))), (2, .int (nI (Ns 0 6))), (0, .ref (b 0)), (1, .int (nI (p)))]) (lv_sub hl [0, 1, 2, 3, 4, 5, 6, 7, 8, 9, 10, 11, 12, 13, 14, 15, 16, 17, 18, 19] rfl) (rfl))
                              · skip
                                refine lv_iload E.1 E.2.1 dL_isDelivered_342 (lv_at hl 0 rfl) ?_
                                refine lv_iconst (v := nI 1) E.1 E.2.1 dL_isDelivered_344 (by decide) ?_
                                refine lv_icmp_leN (tgt := 355) E.1 E.2.1 (by omega) (by omega) dL_isDelivered_345 (by decide) (fun c345 => ?_) (fun c345 => ?_)
                                · skip
                                  refine lv_iconst (v := -1) E.1 E.2.1 dL_isDelivered_355 (by decide) ?_
                                  refine lv_eqi (y := sdF k (thF k (Ns 0 (30 + 14 * d + (6 + t))) (Ns 0 (15 + t)))) (by rw [sdF, if_neg (show ¬ (k = 0 ∧ ¬ thF k (Ns 0 (30 + 14 * d + (6 + t))) (Ns 0 (15 + t)) = 2) by omega), if_neg (show ¬ (k = 3 ∧ thF k (Ns 0 (30 + 14 * d + (6 + t))) (Ns 0 (15 + t)) = 2) by omega), if_neg (by omega)]) ?_
                                  exact jk297  (trivial) _ _ _ (HB.eq hw (rfl)) (lvh_eq (l := [(16, .int (nI (thF k (Ns 0 (30 + 14 * d + (6 + t))) (Ns 0 (15 + t))))), (19, .int (ansF (Ns 0 (30 + 14 * d + 1)))), (18, .int (nI (0))), (17, .int (-1)), (15, .int (nI (Ns 0 (30 + 14 * d + (6 + t))))), (14, .int (nI (Ns 0 (25 + t)))), (13, .int (nI (Ns 0 (20 + t)))), (12, .int (nI (Ns 0 8))), (11, .int (nI (Ns 0 (30 + 14 * d + 5)))), (10, .int (nI (Ns 0 (30 + 14 * d + 4)))), (9, .int (nI (Ns 0 (30 + 14 * d + 1)))), (8, .int (nI (Ns 0 (30 + 14 * d + 0)))), (7, .int (zb (Ns 0 (10 + t) = 1))), (6, .int (nI (t))), (5, .int (nI (f))), (4, .int (nI (d))), (3, .int (nI (k))), (2, .int (nI (Ns 0 6))), (0, .ref (b 0)), (1, .int (nI (p)))]) (lv_sub hl [0, 1, 2, 3, 4, 5, 6, 7, 8, 9, 10, 11, 12, 13, 14, 15, 16, 17, 18, 19] rfl) (rfl))
                                · skip
                                  refine lv_iload E.1 E.2.1 dL_isDelivered_348 (lv_at hl 0 rfl) ?_
                                  refine lv_iconst (v := nI 1) E.1 E.2.1 dL_isDelivered_350 (by decide) ?_
                                  refine lv_addN E.1 E.2.1 dL_isDelivered_351 ?_
                                  refine lv_goto (tgt := 356) E.1 E.2.1 dL_isDelivered_352 (by decide) ?_
                                  refine lv_eqi (y := sdF k (thF k (Ns 0 (30 + 14 * d + (6 + t))) (Ns 0 (15 + t)))) (by rw [sdF, if_neg (show ¬ (k = 0 ∧ ¬ thF k (Ns 0 (30 + 14 * d + (6 + t))) (Ns 0 (15 + t)) = 2) by omega), if_neg (show ¬ (k = 3 ∧ thF k (Ns 0 (30 + 14 * d + (6 + t))) (Ns 0 (15 + t)) = 2) by omega), if_pos ⟨c339, by omega⟩]) ?_
                                  exact jk297  (trivial) _ _ _ (HB.eq hw (rfl)) (lvh_eq (l := [(16, .int (nI (thF k (Ns 0 (30 + 14 * d + (6 + t))) (Ns 0 (15 + t))))), (19, .int (ansF (Ns 0 (30 + 14 * d + 1)))), (18, .int (nI (0))), (17, .int (-1)), (15, .int (nI (Ns 0 (30 + 14 * d + (6 + t))))), (14, .int (nI (Ns 0 (25 + t)))), (13, .int (nI (Ns 0 (20 + t)))), (12, .int (nI (Ns 0 8))), (11, .int (nI (Ns 0 (30 + 14 * d + 5)))), (10, .int (nI (Ns 0 (30 + 14 * d + 4)))), (9, .int (nI (Ns 0 (30 + 14 * d + 1)))), (8, .int (nI (Ns 0 (30 + 14 * d + 0)))), (7, .int (zb (Ns 0 (10 + t) = 1))), (6, .int (nI (t))), (5, .int (nI (f))), (4, .int (nI (d))), (3, .int (nI (k))), (2, .int (nI (Ns 0 6))), (0, .ref (b 0)), (1, .int (nI (p)))]) (lv_sub hl [0, 1, 2, 3, 4, 5, 6, 7, 8, 9, 10, 11, 12, 13, 14, 15, 16, 17, 18, 19] rfl) (rfl))
                            · skip
                              refine lv_iconst (v := nI 5) E.1 E.2.1 dL_isDelivered_332 (by decide) ?_
                              refine lv_goto (tgt := 356) E.1 E.2.1 dL_isDelivered_333 (by decide) ?_
                              refine lv_eqi (y := sdF k (thF k (Ns 0 (30 + 14 * d + (6 + t))) (Ns 0 (15 + t)))) (by rw [sdF, if_neg (show ¬ (k = 0 ∧ ¬ thF k (Ns 0 (30 + 14 * d + (6 + t))) (Ns 0 (15 + t)) = 2) by omega), if_pos ⟨c323, c329⟩]) ?_
                              exact jk297  (trivial) _ _ _ (HB.eq hw (rfl)) (lvh_eq (l := [(16, .int (nI (thF k (Ns 0 (30 + 14 * d + (6 + t))) (Ns 0 (15 + t))))), (19, .int (ansF (Ns 0 (30 + 14 * d + 1)))), (18, .int (nI (0))), (17, .int (-1)), (15, .int (nI (Ns 0 (30 + 14 * d + (6 + t))))), (14, .int (nI (Ns 0 (25 + t)))), (13, .int (nI (Ns 0 (20 + t)))), (12, .int (nI (Ns 0 8))), (11, .int (nI (Ns 0 (30 + 14 * d + 5)))), (10, .int (nI (Ns 0 (30 + 14 * d + 4)))), (9, .int (nI (Ns 0 (30 + 14 * d + 1)))), (8, .int (nI (Ns 0 (30 + 14 * d + 0)))), (7, .int (zb (Ns 0 (10 + t) = 1))), (6, .int (nI (t))), (5, .int (nI (f))), (4, .int (nI (d))), (3, .int (nI (k))), (2, .int (nI (Ns 0 6))), (0, .ref (b 0)), (1, .int (nI (p)))]) (lv_sub hl [0, 1, 2, 3, 4, 5, 6, 7, 8, 9, 10, 11, 12, 13, 14, 15, 16, 17, 18, 19] rfl) (rfl))
                        · skip
                          refine lv_iload E.1 E.2.1 dL_isDelivered_307 (lv_at hl 0 rfl) ?_
                          refine lv_iconst (v := nI 1) E.1 E.2.1 dL_isDelivered_309 (by decide) ?_
                          refine lv_icmp_neN (tgt := 317) E.1 E.2.1 (by omega) (by omega) dL_isDelivered_310 (by decide) (fun c310 => ?_) (fun c310 => ?_)
                          · skip
                            refine lv_iconst (v := nI 2) E.1 E.2.1 dL_isDelivered_317 (by decide) ?_
                            refine lv_goto (tgt := 356) E.1 E.2.1 dL_isDelivered_318 (by decide) ?_
                            refine lv_eqi (y := sdF k (thF k (Ns 0 (30 + 14 * d + (6 + t))) (Ns 0 (15 + t)))) (by rw [sdF, if_pos ⟨c298, c304⟩, if_neg c310]) ?_
                            exact jk297  (trivial) _ _ _ (HB.eq hw (rfl)) (lvh_eq (l := [(16, .int (nI (thF k (Ns 0 (30 + 14 * d + (6 + t))) (Ns 0 (15 + t))))), (19, .int (ansF (Ns 0 (30 + 14 * d + 1)))), (18, .int (nI (0))), (17, .int (-1)), (15, .int (nI (Ns 0 (30 + 14 * d + (6 + t))))), (14, .int (nI (Ns 0 (25 + t)))), (13, .int (nI (Ns 0 (20 + t)))), (12, .int (nI (Ns 0 8))), (11, .int (nI (Ns 0 (30 + 14 * d + 5)))), (10, .int (nI (Ns 0 (30 + 14 * d + 4)))), (9, .int (nI (Ns 0 (30 + 14 * d + 1)))), (8, .int (nI (Ns 0 (30 + 14 * d + 0)))), (7, .int (zb (Ns 0 (10 + t) = 1))), (6, .int (nI (t))), (5, .int (nI (f))), (4, .int (nI (d))), (3, .int (nI (k))), (2, .int (nI (Ns 0 6))), (0, .ref (b 0)), (1, .int (nI (p)))]) (lv_sub hl [0, 1, 2, 3, 4, 5, 6, 7, 8, 9, 10, 11, 12, 13, 14, 15, 16, 17, 18, 19] rfl) (rfl))
                          · skip
                            refine lv_iconst (v := nI 1) E.1 E.2.1 dL_isDelivered_313 (by decide) ?_
                            refine lv_goto (tgt := 356) E.1 E.2.1 dL_isDelivered_314 (by decide) ?_
                            refine lv_eqi (y := sdF k (thF k (Ns 0 (30 + 14 * d + (6 + t))) (Ns 0 (15 + t)))) (by rw [sdF, if_pos ⟨c298, c304⟩, if_pos c310]) ?_
                            exact jk297  (trivial) _ _ _ (HB.eq hw (rfl)) (lvh_eq (l := [(16, .int (nI (thF k (Ns 0 (30 + 14 * d + (6 + t))) (Ns 0 (15 + t))))), (19, .int (ansF (Ns 0 (30 + 14 * d + 1)))), (18, .int (nI (0))), (17, .int (-1)), (15, .int (nI (Ns 0 (30 + 14 * d + (6 + t))))), (14, .int (nI (Ns 0 (25 + t)))), (13, .int (nI (Ns 0 (20 + t)))), (12, .int (nI (Ns 0 8))), (11, .int (nI (Ns 0 (30 + 14 * d + 5)))), (10, .int (nI (Ns 0 (30 + 14 * d + 4)))), (9, .int (nI (Ns 0 (30 + 14 * d + 1)))), (8, .int (nI (Ns 0 (30 + 14 * d + 0)))), (7, .int (zb (Ns 0 (10 + t) = 1))), (6, .int (nI (t))), (5, .int (nI (f))), (4, .int (nI (d))), (3, .int (nI (k))), (2, .int (nI (Ns 0 6))), (0, .ref (b 0)), (1, .int (nI (p)))]) (lv_sub hl [0, 1, 2, 3, 4, 5, 6, 7, 8, 9, 10, 11, 12, 13, 14, 15, 16, 17, 18, 19] rfl) (rfl))
                    · intro  hP297 H locs ls hw hl
                      replace hw : HB G AA sS.heap (cW G b ad v pd rv Ns) H locs := hw
                      replace hl : lv_has ls 24 [(16, .int (nI (thF k (Ns 0 (30 + 14 * d + (6 + t))) (Ns 0 (15 + t))))), (19, .int (ansF (Ns 0 (30 + 14 * d + 1)))), (18, .int (nI (0))), (17, .int (-1)), (15, .int (nI (Ns 0 (30 + 14 * d + (6 + t))))), (14, .int (nI (Ns 0 (25 + t)))), (13, .int (nI (Ns 0 (20 + t)))), (12, .int (nI (Ns 0 8))), (11, .int (nI (Ns 0 (30 + 14 * d + 5)))), (10, .int (nI (Ns 0 (30 + 14 * d + 4)))), (9, .int (nI (Ns 0 (30 + 14 * d + 1)))), (8, .int (nI (Ns 0 (30 + 14 * d + 0)))), (7, .int (zb (Ns 0 (10 + t) = 1))), (6, .int (nI (t))), (5, .int (nI (f))), (4, .int (nI (d))), (3, .int (nI (k))), (2, .int (nI (Ns 0 6))), (0, .ref (b 0)), (1, .int (nI (p)))] := hl
                      show W _ _ _ _ _ _ _ _ _ _ _ _ _ _ _ (F0 mM 356 ls [.int (sdF k (thF k (Ns 0 (30 + 14 * d + (6 + t))) (Ns 0 (15 + t))))])
                      refine lv_istore (lv' := [(17, .int (sdF k (thF k (Ns 0 (30 + 14 * d + (6 + t))) (Ns 0 (15 + t))))), (16, .int (nI (thF k (Ns 0 (30 + 14 * d + (6 + t))) (Ns 0 (15 + t))))), (19, .int (ansF (Ns 0 (30 + 14 * d + 1)))), (18, .int (nI (0))), (15, .int (nI (Ns 0 (30 + 14 * d + (6 + t))))), (14, .int (nI (Ns 0 (25 + t)))), (13, .int (nI (Ns 0 (20 + t)))), (12, .int (nI (Ns 0 8))), (11, .int (nI (Ns 0 (30 + 14 * d + 5)))), (10, .int (nI (Ns 0 (30 + 14 * d + 4)))), (9, .int (nI (Ns 0 (30 + 14 * d + 1)))), (8, .int (nI (Ns 0 (30 + 14 * d + 0)))), (7, .int (zb (Ns 0 (10 + t) = 1))), (6, .int (nI (t))), (5, .int (nI (f))), (4, .int (nI (d))), (3, .int (nI (k))), (2, .int (nI (Ns 0 6))), (0, .ref (b 0)), (1, .int (nI (p)))]) E.1 E.2.1 dL_isDelivered_356 hl (by decide) rfl (fun ls hl => ?_)
                      refine lv_goto (tgt := 571) E.1 E.2.1 dL_isDelivered_358 (by decide) ?_
                      exact jk213 (thF k (Ns 0 (30 + 14 * d + (6 + t))) (Ns 0 (15 + t))) (sdF k (thF k (Ns 0 (30 + 14 * d + (6 + t))) (Ns 0 (15 + t)))) (⟨dsa_well m0 m1 m2 m3 (by omega) ht4 hd8 hkk rfl qa, thF_lt qa⟩) _ _ _ (HB.eq hw (rfl)) (lvh_eq (l := [(16, .int (nI (thF k (Ns 0 (30 + 14 * d + (6 + t))) (Ns 0 (15 + t))))), (17, .int (sdF k (thF k (Ns 0 (30 + 14 * d + (6 + t))) (Ns 0 (15 + t))))), (0, .ref (b 0)), (1, .int (nI (p))), (2, .int (nI (Ns 0 6))), (3, .int (nI (k))), (4, .int (nI (d))), (5, .int (nI (f))), (6, .int (nI (t))), (7, .int (zb (Ns 0 (10 + t) = 1))), (9, .int (nI (Ns 0 (30 + 14 * d + 1)))), (12, .int (nI (Ns 0 8))), (13, .int (nI (Ns 0 (20 + t)))), (14, .int (nI (Ns 0 (25 + t))))]) (lv_sub hl [1, 0, 18, 19, 17, 16, 15, 14, 13, 12, 10, 7, 6, 5] rfl) (rfl))
            · intro th sd hP213 H locs ls hw hl
              replace hw : HB G AA sS.heap (cW G b ad v pd rv Ns) H locs := hw
              replace hl : lv_has ls 24 [(16, .int (nI (th))), (17, .int (sd)), (0, .ref (b 0)), (1, .int (nI (p))), (2, .int (nI (Ns 0 6))), (3, .int (nI (k))), (4, .int (nI (d))), (5, .int (nI (f))), (6, .int (nI (t))), (7, .int (zb (Ns 0 (10 + t) = 1))), (9, .int (nI (Ns 0 (30 + 14 * d + 1)))), (12, .int (nI (Ns 0 8))), (13, .int (nI (Ns 0 (20 + t)))), (14, .int (nI (Ns 0 (25 + t))))] := hl
              show W _ _ _ _ _ _ _ _ _ _ _ _ _ _ _ (F0 mM 571 ls [])
              replace hP213 : DSa (Ns 0) p k d f t th sd ∧ th < 4 := hP213
              obtain ⟨hP213, hth⟩ := hP213
              obtain ⟨M, hb, ga, g0, g1, hs⟩ := hP213
              rcases hs with ⟨hsd, hM⟩ | ⟨q, hq7, hsd, hM⟩
              · skip
                subst hsd
                refine lv_aload_n E.1 E.2.1 dL_isDelivered_571 rfl (lv_at hl 2 rfl) ?_
                refine lv_iload_n E.1 E.2.1 dL_isDelivered_572 rfl (lv_at hl 3 rfl) ?_
                refine callVIp E (c_X3_deliver_ok l G b ad v pd rv Ns nx u hx0 hnx hu0 hu6 p hp hI) ES.eb (fun _ _ _ => trivial) mn_14_0 YX3_deliver ⟨rfl, rfl⟩ ⟨Nat.le_of_ble_eq_true rfl, Nat.le_of_ble_eq_true rfl⟩ ⟨Nat.le_of_ble_eq_true rfl, Nat.le_of_ble_eq_true rfl⟩ hw (rr := []) (big' := cW G b ad (recV nx u v) pd rv (va_up (va_up (Ns) (2 + nx) (Ns 0)) 0 (mDlv p (Ns 0)))) (by rw [List.append_nil]) (by rw [List.append_nil]) 0 rfl rfl rfl hl rfl (Nat.le_of_ble_eq_true rfl) dL_isDelivered_573 (fun H locs hw => ?_)
                obtain ⟨Ms, vs, e0, hcv2, hw⟩ : ∃ (Ms : Nat → NS) (vs : Nat → Int32), Ms 0 = mDlv p (Ns 0) ∧ CV vs ∧ HB G AA sS.heap (cW G b ad vs pd rv Ms) H locs := ⟨_, _, va_up_self _ _ _, CV.rec hnx hu6, hw⟩
                have hI2 : Inv (Ms 0) := by rw [e0]; exact hI.dlv hp
                have hDV2 : dvI (Ms 0) 5 = Ms 0 7 := by rw [e0]; exact (DV.dlv hDV (hI.2.1 p hp).2.2.2.1).1
                have hF2 := hI2.1
                have hm2 := hI2.hm
                have e1 : mDlv p (Ns 0) = Ms 0 := e0.symm
                refine lv_eqi (y := nI (Ms 0 6)) (by rw [e0]) ?_
                refine lv_istore (lv' := [(20, .int (nI (Ms 0 6))), (16, .int (nI (th))), (17, .int (-1)), (0, .ref (b 0)), (1, .int (nI (p))), (2, .int (nI (Ns 0 6))), (3, .int (nI (k))), (4, .int (nI (d))), (5, .int (nI (f))), (6, .int (nI (t))), (7, .int (zb (Ns 0 (10 + t) = 1))), (9, .int (nI (Ns 0 (30 + 14 * d + 1)))), (12, .int (nI (Ns 0 8))), (13, .int (nI (Ns 0 (20 + t)))), (14, .int (nI (Ns 0 (25 + t))))]) E.1 E.2.1 dL_isDelivered_576 hl (by decide) rfl (fun ls hl => ?_)
                refine lv_iconst (v := nI 0) E.1 E.2.1 dL_isDelivered_578 (by decide) ?_
                refine lv_istore (lv' := [(21, .int (nI (0))), (20, .int (nI (Ms 0 6))), (16, .int (nI (th))), (17, .int (-1)), (0, .ref (b 0)), (1, .int (nI (p))), (2, .int (nI (Ns 0 6))), (3, .int (nI (k))), (4, .int (nI (d))), (5, .int (nI (f))), (6, .int (nI (t))), (7, .int (zb (Ns 0 (10 + t) = 1))), (9, .int (nI (Ns 0 (30 + 14 * d + 1)))), (12, .int (nI (Ns 0 8))), (13, .int (nI (Ns 0 (20 + t)))), (14, .int (nI (Ns 0 (25 + t))))]) E.1 E.2.1 dL_isDelivered_579 hl (by decide) rfl (fun ls hl => ?_)
                have hX := e0.trans hM
                have r1 := hF2.f1 (d := d) hd8
                have ill1 : Ns 0 (10 + t) ≤ 1 := it
                have k6 : Ms 0 6 = Ns 0 6 - 1 := by rw [hX]; exact hb.1
                have k20 : Ms 0 (20 + t) + Ns 0 (10 + t) = Ns 0 (20 + t) + 1 := by rw [hX]; exact hb.2.2.1
                have k25 : Ms 0 (25 + t) = Ns 0 (25 + t) := by rw [hX]; exact hb.2.2.2.1
                have k8 : Ms 0 8 = Ns 0 8 + Ns 0 (10 + t) := by rw [hX]; exact hb.2.1
                have k5 : Ms 0 5 = Ns 0 5 := by rw [hX]; exact hb.2.2.2.2
                have ka : Ms 0 (30 + 14 * d + (6 + t)) = th := by rw [hX]; exact ga
                have k0 : Ms 0 (30 + 14 * d + 0) = Ns 0 (30 + 14 * d + 0) := by rw [hX]; exact g0
                have k1 : Ms 0 (30 + 14 * d + 1) = Ns 0 (30 + 14 * d + 1) := by rw [hX]; exact g1
                refine lv_iload E.1 E.2.1 dL_isDelivered_581 (lv_at hl 3 rfl) ?_
                refine lv_if_lt (tgt := 611) E.1 E.2.1 dL_isDelivered_583 (by decide) (fun c583 => ?_) (fun c583 => ?_)
                · skip
                  refine lv_iload E.1 E.2.1 dL_isDelivered_611 (lv_at hl 3 rfl) ?_
                  refine lv_if_lt (tgt := 655) E.1 E.2.1 dL_isDelivered_613 (by decide) (fun c613 => ?_) (fun c613 => ?_)
                  · skip
                    refine lv_iload E.1 E.2.1 dL_isDelivered_655 (lv_at hl 0 rfl) ?_
                    refine lv_if_geN (tgt := 662) E.1 E.2.1 (by omega) dL_isDelivered_657 (by decide) (fun c657 => ?_) (fun c657 => ?_)
                    · skip
                      refine W_join0 (G := G) (A := AA) (H0 := sS.heap) (nL := 24) 686 (True) (cW G b ad vs pd rv Ms) ([(21, .int (nI (0))), (20, .int (nI (Ms 0 6))), (16, .int (nI (th))), (17, .int (-1)), (0, .ref (b 0)), (1, .int (nI (p))), (2, .int (nI (Ns 0 6))), (3, .int (nI (k))), (4, .int (nI (d))), (5, .int (nI (f))), (6, .int (nI (t))), (7, .int (zb (Ns 0 (10 + t) = 1))), (9, .int (nI (Ns 0 (30 + 14 * d + 1)))), (12, .int (nI (Ns 0 8))), (13, .int (nI (Ns 0 (20 + t)))), (14, .int (nI (Ns 0 (25 + t))))]) ([.int (nI (Ns 0 6 - 1 + 0 - 60))]) (fun jk662 => ?_) ?_
                      · skip
                        refine lv_iload_n E.1 E.2.1 dL_isDelivered_662 rfl (lv_at hl 6 rfl) ?_
                        refine lv_iconst (v := nI 1) E.1 E.2.1 dL_isDelivered_663 (by decide) ?_
                        refine lv_subN E.1 E.2.1 (by omega) dL_isDelivered_664 ?_
                        refine lv_iload E.1 E.2.1 dL_isDelivered_665 (lv_at hl 0 rfl) ?_
                        refine lv_addN E.1 E.2.1 dL_isDelivered_667 ?_
                        refine lv_bipush (v := nI 60) E.1 E.2.1 dL_isDelivered_668 (by decide) ?_
                        refine lv_icmp_leN (tgt := 685) E.1 E.2.1 (by omega) (by omega) dL_isDelivered_670 (by decide) (fun c670 => ?_) (fun c670 => ?_)
                        · skip
                          refine lv_iconst (v := nI 0) E.1 E.2.1 dL_isDelivered_685 (by decide) ?_
                          refine lv_eqi (y := nI (Ns 0 6 - 1 + 0 - 60)) (by rw [show Ns 0 6 - 1 + 0 - 60 = 0 by omega]) ?_
                          exact jk662  (trivial) _ _ _ (HB.eq hw (rfl)) (lvh_eq (l := [(21, .int (nI (0))), (20, .int (nI (Ms 0 6))), (16, .int (nI (th))), (17, .int (-1)), (0, .ref (b 0)), (1, .int (nI (p))), (2, .int (nI (Ns 0 6))), (3, .int (nI (k))), (4, .int (nI (d))), (5, .int (nI (f))), (6, .int (nI (t))), (7, .int (zb (Ns 0 (10 + t) = 1))), (9, .int (nI (Ns 0 (30 + 14 * d + 1)))), (12, .int (nI (Ns 0 8))), (13, .int (nI (Ns 0 (20 + t)))), (14, .int (nI (Ns 0 (25 + t))))]) (lv_sub hl [0, 1, 2, 3, 4, 5, 6, 7, 8, 9, 10, 11, 12, 13, 14, 15] rfl) (rfl))
                        · skip
                          refine lv_iload_n E.1 E.2.1 dL_isDelivered_673 rfl (lv_at hl 6 rfl) ?_
                          refine lv_iconst (v := nI 1) E.1 E.2.1 dL_isDelivered_674 (by decide) ?_
                          refine lv_subN E.1 E.2.1 (by omega) dL_isDelivered_675 ?_
                          refine lv_iload E.1 E.2.1 dL_isDelivered_676 (lv_at hl 0 rfl) ?_
                          refine lv_addN E.1 E.2.1 dL_isDelivered_678 ?_
                          refine lv_bipush (v := nI 60) E.1 E.2.1 dL_isDelivered_679 (by decide) ?_
                          refine lv_subN E.1 E.2.1 (by omega) dL_isDelivered_681 ?_
                          refine lv_goto (tgt := 686) E.1 E.2.1 dL_isDelivered_682 (by decide) ?_
                          refine lv_eqi (y := nI (Ns 0 6 - 1 + 0 - 60)) (rfl) ?_
                          exact jk662  (trivial) _ _ _ (HB.eq hw (rfl)) (lvh_eq (l := [(21, .int (nI (0))), (20, .int (nI (Ms 0 6))), (16, .int (nI (th))), (17, .int (-1)), (0, .ref (b 0)), (1, .int (nI (p))), (2, .int (nI (Ns 0 6))), (3, .int (nI (k))), (4, .int (nI (d))), (5, .int (nI (f))), (6, .int (nI (t))), (7, .int (zb (Ns 0 (10 + t) = 1))), (9, .int (nI (Ns 0 (30 + 14 * d + 1)))), (12, .int (nI (Ns 0 8))), (13, .int (nI (Ns 0 (20 + t)))), (14, .int (nI (Ns 0 (25 + t))))]) (lv_sub hl [0, 1, 2, 3, 4, 5, 6, 7, 8, 9, 10, 11, 12, 13, 14, 15] rfl) (rfl))
                      · intro  hP662 H locs ls hw hl
                        replace hw : HB G AA sS.heap (cW G b ad vs pd rv Ms) H locs := hw
                        replace hl : lv_has ls 24 [(21, .int (nI (0))), (20, .int (nI (Ms 0 6))), (16, .int (nI (th))), (17, .int (-1)), (0, .ref (b 0)), (1, .int (nI (p))), (2, .int (nI (Ns 0 6))), (3, .int (nI (k))), (4, .int (nI (d))), (5, .int (nI (f))), (6, .int (nI (t))), (7, .int (zb (Ns 0 (10 + t) = 1))), (9, .int (nI (Ns 0 (30 + 14 * d + 1)))), (12, .int (nI (Ns 0 8))), (13, .int (nI (Ns 0 (20 + t)))), (14, .int (nI (Ns 0 (25 + t))))] := hl
                        show W _ _ _ _ _ _ _ _ _ _ _ _ _ _ _ (F0 mM 686 ls [.int (nI (Ns 0 6 - 1 + 0 - 60))])
                        refine lv_istore (lv' := [(22, .int (nI (Ns 0 6 - 1 + 0 - 60))), (21, .int (nI (0))), (20, .int (nI (Ms 0 6))), (16, .int (nI (th))), (17, .int (-1)), (0, .ref (b 0)), (1, .int (nI (p))), (2, .int (nI (Ns 0 6))), (3, .int (nI (k))), (4, .int (nI (d))), (5, .int (nI (f))), (6, .int (nI (t))), (7, .int (zb (Ns 0 (10 + t) = 1))), (9, .int (nI (Ns 0 (30 + 14 * d + 1)))), (12, .int (nI (Ns 0 8))), (13, .int (nI (Ns 0 (20 + t)))), (14, .int (nI (Ns 0 (25 + t))))]) E.1 E.2.1 dL_isDelivered_686 hl (by decide) rfl (fun ls hl => ?_)
                        refine lv_iload E.1 E.2.1 dL_isDelivered_688 (lv_at hl 11 rfl) ?_
                        refine lv_iconst (v := nI 4) E.1 E.2.1 dL_isDelivered_690 (by decide) ?_
                        refine lv_icmp_neN (tgt := 738) E.1 E.2.1 (by omega) (by omega) dL_isDelivered_691 (by decide) (fun c691 => ?_) (fun c691 => ?_)
                        · skip
                          refine lv_aload_n E.1 E.2.1 dL_isDelivered_738 rfl (lv_at hl 5 rfl) ?_
                          refine lv_iload E.1 E.2.1 dL_isDelivered_739 (lv_at hl 9 rfl) ?_
                          refine lv_iload E.1 E.2.1 dL_isDelivered_741 (lv_at hl 11 rfl) ?_
                          refine callVIp E (c_X3_at_ok l G b ad vs pd rv Ms d (by omega) hF2 t (by omega)) ES.eb (fun _ _ _ => trivial) mn_10_7 YX3_at ⟨rfl, rfl⟩ ⟨Nat.le_of_ble_eq_true rfl, Nat.le_of_ble_eq_true rfl⟩ ⟨Nat.le_of_ble_eq_true rfl, Nat.le_of_ble_eq_true rfl⟩ hw (rr := []) (big' := cW G b ad vs pd rv Ms) (by rw [List.append_nil]) (by rw [List.append_nil]) 0 rfl rfl rfl hl rfl (Nat.le_of_ble_eq_true rfl) dL_isDelivered_743 (fun H locs hw => ?_)
                          refine lv_eqi (y := nI (th)) (by rw [k0, if_pos (htS ht4), ka]) ?_
                          refine lv_iload E.1 E.2.1 dL_isDelivered_746 (lv_at hl 3 rfl) ?_
                          refine lv_icmp_neN (tgt := 767) E.1 E.2.1 (by omega) (by omega) dL_isDelivered_748 (by decide) (fun c748 => ?_) (fun c748 => ?_)
                          · exact absurd rfl c748
                          · skip
                            refine lv_aload_n E.1 E.2.1 dL_isDelivered_751 rfl (lv_at hl 5 rfl) ?_
                            refine lv_iload E.1 E.2.1 dL_isDelivered_752 (lv_at hl 9 rfl) ?_
                            refine lv_iconst (v := nI 1) E.1 E.2.1 dL_isDelivered_754 (by decide) ?_
                            refine callVIp E (c_X3_ofDeal_ok l G b ad vs pd rv Ms d (by omega) hF2 1 (by decide)) ES.eb (fun _ _ _ => trivial) mn_7_11 YX3_ofDeal ⟨rfl, rfl⟩ ⟨Nat.le_of_ble_eq_true rfl, Nat.le_of_ble_eq_true rfl⟩ ⟨Nat.le_of_ble_eq_true rfl, Nat.le_of_ble_eq_true rfl⟩ hw (rr := []) (big' := cW G b ad vs pd rv Ms) (by rw [List.append_nil]) (by rw [List.append_nil]) 0 rfl rfl rfl hl rfl (Nat.le_of_ble_eq_true rfl) dL_isDelivered_755 (fun H locs hw => ?_)
                            refine lv_eqi (y := nI (Ms 0 (30 + 14 * d + 1))) (rfl) ?_
                            refine lv_iload E.1 E.2.1 dL_isDelivered_758 (lv_at hl 13 rfl) ?_
                            refine lv_icmp_neN (tgt := 767) E.1 E.2.1 (by omega) (by omega) dL_isDelivered_760 (by decide) (fun c760 => ?_) (fun c760 => ?_)
                            · exact absurd k1 c760
                            · skip
                              refine lv_iconst (v := nI 1) E.1 E.2.1 dL_isDelivered_763 (by decide) ?_
                              refine lv_goto (tgt := 768) E.1 E.2.1 dL_isDelivered_764 (by decide) ?_
                              refine lv_istore (lv' := [(23, .int (nI (1))), (22, .int (nI (Ns 0 6 - 1 + 0 - 60))), (21, .int (nI (0))), (20, .int (nI (Ms 0 6))), (16, .int (nI (th))), (17, .int (-1)), (0, .ref (b 0)), (1, .int (nI (p))), (2, .int (nI (Ns 0 6))), (3, .int (nI (k))), (4, .int (nI (d))), (5, .int (nI (f))), (6, .int (nI (t))), (7, .int (zb (Ns 0 (10 + t) = 1))), (9, .int (nI (Ns 0 (30 + 14 * d + 1)))), (12, .int (nI (Ns 0 8))), (13, .int (nI (Ns 0 (20 + t)))), (14, .int (nI (Ns 0 (25 + t))))]) E.1 E.2.1 dL_isDelivered_768 hl (by decide) rfl (fun ls hl => ?_)
                              refine lv_iload E.1 E.2.1 dL_isDelivered_770 (lv_at hl 0 rfl) ?_
                              refine lv_if_eqN (tgt := 865) E.1 E.2.1 (by omega) dL_isDelivered_772 (by decide) (fun c772 => ?_) (fun c772 => ?_)
                              · exact absurd c772 (by decide)
                              · skip
                                refine lv_iload E.1 E.2.1 dL_isDelivered_775 (lv_at hl 3 rfl) ?_
                                refine lv_iload_n E.1 E.2.1 dL_isDelivered_777 rfl (lv_at hl 8 rfl) ?_
                                refine lv_iconst (v := nI 1) E.1 E.2.1 dL_isDelivered_778 (by decide) ?_
                                refine lv_subN E.1 E.2.1 (by omega) dL_isDelivered_779 ?_
                                refine lv_iload E.1 E.2.1 dL_isDelivered_780 (lv_at hl 2 rfl) ?_
                                refine lv_addN E.1 E.2.1 dL_isDelivered_782 ?_
                                refine lv_iload E.1 E.2.1 dL_isDelivered_783 (lv_at hl 1 rfl) ?_
                                refine lv_subN E.1 E.2.1 (by omega) dL_isDelivered_785 ?_
                                refine lv_icmp_neN (tgt := 865) E.1 E.2.1 (by omega) (by omega) dL_isDelivered_786 (by decide) (fun c786 => ?_) (fun c786 => ?_)
                                · omega
                                · skip
                                  refine lv_aload_n E.1 E.2.1 dL_isDelivered_789 rfl (lv_at hl 6 rfl) ?_
                                  refine lv_iconst (v := nI 2) E.1 E.2.1 dL_isDelivered_790 (by decide) ?_
                                  refine callVIp E (c_X3_count_ok l G b ad vs pd rv Ms 2 (by decide) (by decide) (by decide) hF2 hDV2) ES.eb (fun _ _ _ => trivial) mn_3_8 YX3_count ⟨rfl, rfl⟩ ⟨Nat.le_of_ble_eq_true rfl, Nat.le_of_ble_eq_true rfl⟩ ⟨Nat.le_of_ble_eq_true rfl, Nat.le_of_ble_eq_true rfl⟩ hw (rr := []) (big' := cW G b ad vs pd rv Ms) (by rw [List.append_nil]) (by rw [List.append_nil]) 0 rfl rfl rfl hl rfl (Nat.le_of_ble_eq_true rfl) dL_isDelivered_791 (fun H locs hw => ?_)
                                  refine lv_eqi (y := nI (Ms 0 6)) (rfl) ?_
                                  refine lv_iload E.1 E.2.1 dL_isDelivered_794 (lv_at hl 3 rfl) ?_
                                  refine lv_icmp_neN (tgt := 865) E.1 E.2.1 (by omega) (by omega) dL_isDelivered_796 (by decide) (fun c796 => ?_) (fun c796 => ?_)
                                  · exact absurd rfl c796
                                  · skip
                                    refine lv_aload_n E.1 E.2.1 dL_isDelivered_799 rfl (lv_at hl 6 rfl) ?_
                                    refine lv_iload E.1 E.2.1 dL_isDelivered_800 (lv_at hl 12 rfl) ?_
                                    refine lv_iconst (v := nI 3) E.1 E.2.1 dL_isDelivered_802 (by decide) ?_
                                    refine callVIp E (c_X3_who_ok l G b ad vs pd rv Ms t 3 (by omega) (by decide) hF2 hm2) ES.eb (fun _ _ _ => trivial) mn_6_14 YX3_who ⟨rfl, rfl⟩ ⟨Nat.le_of_ble_eq_true rfl, Nat.le_of_ble_eq_true rfl⟩ ⟨Nat.le_of_ble_eq_true rfl, Nat.le_of_ble_eq_true rfl⟩ hw (rr := []) (big' := cW G b ad vs pd rv Ms) (by rw [List.append_nil]) (by rw [List.append_nil]) 0 rfl rfl rfl hl rfl (Nat.le_of_ble_eq_true rfl) dL_isDelivered_803 (fun H locs hw => ?_)
                                    refine lv_eqi (y := nI (Ms 0 (20 + t))) (rfl) ?_
                                    refine lv_iload E.1 E.2.1 dL_isDelivered_806 (lv_at hl 16 rfl) ?_
                                    refine W_join0 (G := G) (A := AA) (H0 := sS.heap) (nL := 24) 818 (True) (cW G b ad vs pd rv Ms) ([(23, .int (nI (1))), (22, .int (nI (Ns 0 6 - 1 + 0 - 60))), (21, .int (nI (0))), (20, .int (nI (Ms 0 6))), (16, .int (nI (th))), (17, .int (-1)), (0, .ref (b 0)), (1, .int (nI (p))), (2, .int (nI (Ns 0 6))), (3, .int (nI (k))), (4, .int (nI (d))), (5, .int (nI (f))), (6, .int (nI (t))), (7, .int (zb (Ns 0 (10 + t) = 1))), (9, .int (nI (Ns 0 (30 + 14 * d + 1)))), (12, .int (nI (Ns 0 8))), (13, .int (nI (Ns 0 (20 + t)))), (14, .int (nI (Ns 0 (25 + t))))]) ([.int (nI (if Ns 0 (10 + t) = 1 then 0 else 1)), .int (nI (Ns 0 (20 + t))), .int (nI (Ms 0 (20 + t)))]) (fun jk808 => ?_) ?_
                                    · skip
                                      refine lv_iload E.1 E.2.1 dL_isDelivered_808 (lv_at hl 13 rfl) ?_
                                      refine lv_if_eqB (tgt := 817) E.1 E.2.1 dL_isDelivered_810 (by decide) (fun c810 => ?_) (fun c810 => ?_)
                                      · skip
                                        refine lv_iconst (v := nI 1) E.1 E.2.1 dL_isDelivered_817 (by decide) ?_
                                        refine lv_eqi (y := nI (if Ns 0 (10 + t) = 1 then 0 else 1)) (by rw [if_neg c810]) ?_
                                        exact jk808  (trivial) _ _ _ (HB.eq hw (rfl)) (lvh_eq (l := [(23, .int (nI (1))), (22, .int (nI (Ns 0 6 - 1 + 0 - 60))), (21, .int (nI (0))), (20, .int (nI (Ms 0 6))), (16, .int (nI (th))), (17, .int (-1)), (0, .ref (b 0)), (1, .int (nI (p))), (2, .int (nI (Ns 0 6))), (3, .int (nI (k))), (4, .int (nI (d))), (5, .int (nI (f))), (6, .int (nI (t))), (7, .int (zb (Ns 0 (10 + t) = 1))), (9, .int (nI (Ns 0 (30 + 14 * d + 1)))), (12, .int (nI (Ns 0 8))), (13, .int (nI (Ns 0 (20 + t)))), (14, .int (nI (Ns 0 (25 + t))))]) (lv_sub hl [0, 1, 2, 3, 4, 5, 6, 7, 8, 9, 10, 11, 12, 13, 14, 15, 16, 17] rfl) (rfl))
                                      · skip
                                        refine lv_iconst (v := nI 0) E.1 E.2.1 dL_isDelivered_813 (by decide) ?_
                                        refine lv_goto (tgt := 818) E.1 E.2.1 dL_isDelivered_814 (by decide) ?_
                                        refine lv_eqi (y := nI (if Ns 0 (10 + t) = 1 then 0 else 1)) (by rw [if_pos c810]) ?_
                                        exact jk808  (trivial) _ _ _ (HB.eq hw (rfl)) (lvh_eq (l := [(23, .int (nI (1))), (22, .int (nI (Ns 0 6 - 1 + 0 - 60))), (21, .int (nI (0))), (20, .int (nI (Ms 0 6))), (16, .int (nI (th))), (17, .int (-1)), (0, .ref (b 0)), (1, .int (nI (p))), (2, .int (nI (Ns 0 6))), (3, .int (nI (k))), (4, .int (nI (d))), (5, .int (nI (f))), (6, .int (nI (t))), (7, .int (zb (Ns 0 (10 + t) = 1))), (9, .int (nI (Ns 0 (30 + 14 * d + 1)))), (12, .int (nI (Ns 0 8))), (13, .int (nI (Ns 0 (20 + t)))), (14, .int (nI (Ns 0 (25 + t))))]) (lv_sub hl [0, 1, 2, 3, 4, 5, 6, 7, 8, 9, 10, 11, 12, 13, 14, 15, 16, 17] rfl) (rfl))
                                    · intro  hP808 H locs ls hw hl
                                      replace hw : HB G AA sS.heap (cW G b ad vs pd rv Ms) H locs := hw
                                      replace hl : lv_has ls 24 [(23, .int (nI (1))), (22, .int (nI (Ns 0 6 - 1 + 0 - 60))), (21, .int (nI (0))), (20, .int (nI (Ms 0 6))), (16, .int (nI (th))), (17, .int (-1)), (0, .ref (b 0)), (1, .int (nI (p))), (2, .int (nI (Ns 0 6))), (3, .int (nI (k))), (4, .int (nI (d))), (5, .int (nI (f))), (6, .int (nI (t))), (7, .int (zb (Ns 0 (10 + t) = 1))), (9, .int (nI (Ns 0 (30 + 14 * d + 1)))), (12, .int (nI (Ns 0 8))), (13, .int (nI (Ns 0 (20 + t)))), (14, .int (nI (Ns 0 (25 + t))))] := hl
                                      show W _ _ _ _ _ _ _ _ _ _ _ _ _ _ _ (F0 mM 818 ls [.int (nI (if Ns 0 (10 + t) = 1 then 0 else 1)), .int (nI (Ns 0 (20 + t))), .int (nI (Ms 0 (20 + t)))])
                                      refine lv_addN E.1 E.2.1 dL_isDelivered_818 ?_
                                      refine lv_icmp_ne (tgt := 865) E.1 E.2.1 dL_isDelivered_819 (by decide) (fun c819 => ?_) (fun c819 => ?_)
                                      · exact absurd (congrArg nI (show Ms 0 (20 + t) = Ns 0 (20 + t) + (if Ns 0 (10 + t) = 1 then 0 else 1) by split <;> omega)) c819
                                      · skip
                                        refine lv_aload_n E.1 E.2.1 dL_isDelivered_822 rfl (lv_at hl 6 rfl) ?_
                                        refine lv_iload E.1 E.2.1 dL_isDelivered_823 (lv_at hl 12 rfl) ?_
                                        refine lv_iconst (v := nI 4) E.1 E.2.1 dL_isDelivered_825 (by decide) ?_
                                        refine callVIp E (c_X3_who_ok l G b ad vs pd rv Ms t 4 (by omega) (by decide) hF2 hm2) ES.eb (fun _ _ _ => trivial) mn_6_14 YX3_who ⟨rfl, rfl⟩ ⟨Nat.le_of_ble_eq_true rfl, Nat.le_of_ble_eq_true rfl⟩ ⟨Nat.le_of_ble_eq_true rfl, Nat.le_of_ble_eq_true rfl⟩ hw (rr := []) (big' := cW G b ad vs pd rv Ms) (by rw [List.append_nil]) (by rw [List.append_nil]) 0 rfl rfl rfl hl rfl (Nat.le_of_ble_eq_true rfl) dL_isDelivered_826 (fun H locs hw => ?_)
                                        refine lv_eqi (y := nI (Ms 0 (25 + t))) (rfl) ?_
                                        refine lv_iload E.1 E.2.1 dL_isDelivered_829 (lv_at hl 17 rfl) ?_
                                        refine lv_iload E.1 E.2.1 dL_isDelivered_831 (lv_at hl 2 rfl) ?_
                                        refine lv_addN E.1 E.2.1 dL_isDelivered_833 ?_
                                        refine lv_icmp_ne (tgt := 865) E.1 E.2.1 dL_isDelivered_834 (by decide) (fun c834 => ?_) (fun c834 => ?_)
                                        · exact absurd (congrArg nI (show Ms 0 (25 + t) = Ns 0 (25 + t) + 0 by omega)) c834
                                        · skip
                                          refine lv_aload_n E.1 E.2.1 dL_isDelivered_837 rfl (lv_at hl 6 rfl) ?_
                                          refine lv_iconst (v := nI 4) E.1 E.2.1 dL_isDelivered_838 (by decide) ?_
                                          refine callVIp E (c_X3_count_ok l G b ad vs pd rv Ms 4 (by decide) (by decide) (by decide) hF2 hDV2) ES.eb (fun _ _ _ => trivial) mn_3_8 YX3_count ⟨rfl, rfl⟩ ⟨Nat.le_of_ble_eq_true rfl, Nat.le_of_ble_eq_true rfl⟩ ⟨Nat.le_of_ble_eq_true rfl, Nat.le_of_ble_eq_true rfl⟩ hw (rr := []) (big' := cW G b ad vs pd rv Ms) (by rw [List.append_nil]) (by rw [List.append_nil]) 0 rfl rfl rfl hl rfl (Nat.le_of_ble_eq_true rfl) dL_isDelivered_839 (fun H locs hw => ?_)
                                          refine lv_eqi (y := nI (Ms 0 8)) (rfl) ?_
                                          refine lv_iload E.1 E.2.1 dL_isDelivered_842 (lv_at hl 15 rfl) ?_
                                          refine W_join0 (G := G) (A := AA) (H0 := sS.heap) (nL := 24) 854 (True) (cW G b ad vs pd rv Ms) ([(23, .int (nI (1))), (22, .int (nI (Ns 0 6 - 1 + 0 - 60))), (21, .int (nI (0))), (20, .int (nI (Ms 0 6))), (16, .int (nI (th))), (17, .int (-1)), (0, .ref (b 0)), (1, .int (nI (p))), (2, .int (nI (Ns 0 6))), (3, .int (nI (k))), (4, .int (nI (d))), (5, .int (nI (f))), (6, .int (nI (t))), (7, .int (zb (Ns 0 (10 + t) = 1))), (9, .int (nI (Ns 0 (30 + 14 * d + 1)))), (12, .int (nI (Ns 0 8))), (13, .int (nI (Ns 0 (20 + t)))), (14, .int (nI (Ns 0 (25 + t))))]) ([.int (nI (if Ns 0 (10 + t) = 1 then 1 else 0)), .int (nI (Ns 0 8)), .int (nI (Ms 0 8))]) (fun jk844 => ?_) ?_
                                          · skip
                                            refine lv_iload E.1 E.2.1 dL_isDelivered_844 (lv_at hl 13 rfl) ?_
                                            refine lv_if_eqB (tgt := 853) E.1 E.2.1 dL_isDelivered_846 (by decide) (fun c846 => ?_) (fun c846 => ?_)
                                            · skip
                                              refine lv_iconst (v := nI 0) E.1 E.2.1 dL_isDelivered_853 (by decide) ?_
                                              refine lv_eqi (y := nI (if Ns 0 (10 + t) = 1 then 1 else 0)) (by rw [if_neg c846]) ?_
                                              exact jk844  (trivial) _ _ _ (HB.eq hw (rfl)) (lvh_eq (l := [(23, .int (nI (1))), (22, .int (nI (Ns 0 6 - 1 + 0 - 60))), (21, .int (nI (0))), (20, .int (nI (Ms 0 6))), (16, .int (nI (th))), (17, .int (-1)), (0, .ref (b 0)), (1, .int (nI (p))), (2, .int (nI (Ns 0 6))), (3, .int (nI (k))), (4, .int (nI (d))), (5, .int (nI (f))), (6, .int (nI (t))), (7, .int (zb (Ns 0 (10 + t) = 1))), (9, .int (nI (Ns 0 (30 + 14 * d + 1)))), (12, .int (nI (Ns 0 8))), (13, .int (nI (Ns 0 (20 + t)))), (14, .int (nI (Ns 0 (25 + t))))]) (lv_sub hl [0, 1, 2, 3, 4, 5, 6, 7, 8, 9, 10, 11, 12, 13, 14, 15, 16, 17] rfl) (rfl))
                                            · skip
                                              refine lv_iconst (v := nI 1) E.1 E.2.1 dL_isDelivered_849 (by decide) ?_
                                              refine lv_goto (tgt := 854) E.1 E.2.1 dL_isDelivered_850 (by decide) ?_
                                              refine lv_eqi (y := nI (if Ns 0 (10 + t) = 1 then 1 else 0)) (by rw [if_pos c846]) ?_
                                              exact jk844  (trivial) _ _ _ (HB.eq hw (rfl)) (lvh_eq (l := [(23, .int (nI (1))), (22, .int (nI (Ns 0 6 - 1 + 0 - 60))), (21, .int (nI (0))), (20, .int (nI (Ms 0 6))), (16, .int (nI (th))), (17, .int (-1)), (0, .ref (b 0)), (1, .int (nI (p))), (2, .int (nI (Ns 0 6))), (3, .int (nI (k))), (4, .int (nI (d))), (5, .int (nI (f))), (6, .int (nI (t))), (7, .int (zb (Ns 0 (10 + t) = 1))), (9, .int (nI (Ns 0 (30 + 14 * d + 1)))), (12, .int (nI (Ns 0 8))), (13, .int (nI (Ns 0 (20 + t)))), (14, .int (nI (Ns 0 (25 + t))))]) (lv_sub hl [0, 1, 2, 3, 4, 5, 6, 7, 8, 9, 10, 11, 12, 13, 14, 15, 16, 17] rfl) (rfl))
                                          · intro  hP844 H locs ls hw hl
                                            replace hw : HB G AA sS.heap (cW G b ad vs pd rv Ms) H locs := hw
                                            replace hl : lv_has ls 24 [(23, .int (nI (1))), (22, .int (nI (Ns 0 6 - 1 + 0 - 60))), (21, .int (nI (0))), (20, .int (nI (Ms 0 6))), (16, .int (nI (th))), (17, .int (-1)), (0, .ref (b 0)), (1, .int (nI (p))), (2, .int (nI (Ns 0 6))), (3, .int (nI (k))), (4, .int (nI (d))), (5, .int (nI (f))), (6, .int (nI (t))), (7, .int (zb (Ns 0 (10 + t) = 1))), (9, .int (nI (Ns 0 (30 + 14 * d + 1)))), (12, .int (nI (Ns 0 8))), (13, .int (nI (Ns 0 (20 + t)))), (14, .int (nI (Ns 0 (25 + t))))] := hl
                                            show W _ _ _ _ _ _ _ _ _ _ _ _ _ _ _ (F0 mM 854 ls [.int (nI (if Ns 0 (10 + t) = 1 then 1 else 0)), .int (nI (Ns 0 8)), .int (nI (Ms 0 8))])
                                            refine lv_addN E.1 E.2.1 dL_isDelivered_854 ?_
                                            refine lv_iload E.1 E.2.1 dL_isDelivered_855 (lv_at hl 1 rfl) ?_
                                            refine lv_addN E.1 E.2.1 dL_isDelivered_857 ?_
                                            refine lv_icmp_ne (tgt := 865) E.1 E.2.1 dL_isDelivered_858 (by decide) (fun c858 => ?_) (fun c858 => ?_)
                                            · exact absurd (congrArg nI (show Ms 0 8 = Ns 0 8 + (if Ns 0 (10 + t) = 1 then 1 else 0) + (Ns 0 6 - 1 + 0 - 60) by split <;> omega)) c858
                                            · skip
                                              refine lv_iconst (v := nI 1) E.1 E.2.1 dL_isDelivered_861 (by decide) ?_
                                              refine lv_goto (tgt := 866) E.1 E.2.1 dL_isDelivered_862 (by decide) ?_
                                              refine W.widen (k := 0) (n := 0) (Nat.le_of_ble_eq_true rfl) (Nat.le_of_ble_eq_true rfl) ?_
                                              exact rU E hr hlk (vs, Ms) (⟨hcv2, by rw [hdel]; exact e0⟩) (HB.eq hw (rfl)) dL_isDelivered_866
                        · omega
                    · exact absurd c657 (by decide)
                  · exact absurd c613 (by decide)
                · exact absurd c583 (by decide)
              · skip
                subst hsd
                refine lv_aload_n E.1 E.2.1 dL_isDelivered_571 rfl (lv_at hl 2 rfl) ?_
                refine lv_iload_n E.1 E.2.1 dL_isDelivered_572 rfl (lv_at hl 3 rfl) ?_
                refine callVIp E (c_X3_deliver_ok l G b ad v pd rv Ns nx u hx0 hnx hu0 hu6 p hp hI) ES.eb (fun _ _ _ => trivial) mn_14_0 YX3_deliver ⟨rfl, rfl⟩ ⟨Nat.le_of_ble_eq_true rfl, Nat.le_of_ble_eq_true rfl⟩ ⟨Nat.le_of_ble_eq_true rfl, Nat.le_of_ble_eq_true rfl⟩ hw (rr := []) (big' := cW G b ad (recV nx u v) pd rv (va_up (va_up (Ns) (2 + nx) (Ns 0)) 0 (mDlv p (Ns 0)))) (by rw [List.append_nil]) (by rw [List.append_nil]) 0 rfl rfl rfl hl rfl (Nat.le_of_ble_eq_true rfl) dL_isDelivered_573 (fun H locs hw => ?_)
                obtain ⟨Ms, vs, e0, hcv2, hw⟩ : ∃ (Ms : Nat → NS) (vs : Nat → Int32), Ms 0 = mDlv p (Ns 0) ∧ CV vs ∧ HB G AA sS.heap (cW G b ad vs pd rv Ms) H locs := ⟨_, _, va_up_self _ _ _, CV.rec hnx hu6, hw⟩
                have hI2 : Inv (Ms 0) := by rw [e0]; exact hI.dlv hp
                have hDV2 : dvI (Ms 0) 5 = Ms 0 7 := by rw [e0]; exact (DV.dlv hDV (hI.2.1 p hp).2.2.2.1).1
                have hF2 := hI2.1
                have hm2 := hI2.hm
                have e1 : mDlv p (Ns 0) = Ms 0 := e0.symm
                refine lv_eqi (y := nI (Ms 0 6)) (by rw [e0]) ?_
                refine lv_istore (lv' := [(20, .int (nI (Ms 0 6))), (16, .int (nI (th))), (17, .int (nI (q))), (0, .ref (b 0)), (1, .int (nI (p))), (2, .int (nI (Ns 0 6))), (3, .int (nI (k))), (4, .int (nI (d))), (5, .int (nI (f))), (6, .int (nI (t))), (7, .int (zb (Ns 0 (10 + t) = 1))), (9, .int (nI (Ns 0 (30 + 14 * d + 1)))), (12, .int (nI (Ns 0 8))), (13, .int (nI (Ns 0 (20 + t)))), (14, .int (nI (Ns 0 (25 + t))))]) E.1 E.2.1 dL_isDelivered_576 hl (by decide) rfl (fun ls hl => ?_)
                refine lv_iconst (v := nI 0) E.1 E.2.1 dL_isDelivered_578 (by decide) ?_
                refine lv_istore (lv' := [(21, .int (nI (0))), (20, .int (nI (Ms 0 6))), (16, .int (nI (th))), (17, .int (nI (q))), (0, .ref (b 0)), (1, .int (nI (p))), (2, .int (nI (Ns 0 6))), (3, .int (nI (k))), (4, .int (nI (d))), (5, .int (nI (f))), (6, .int (nI (t))), (7, .int (zb (Ns 0 (10 + t) = 1))), (9, .int (nI (Ns 0 (30 + 14 * d + 1)))), (12, .int (nI (Ns 0 8))), (13, .int (nI (Ns 0 (20 + t)))), (14, .int (nI (Ns 0 (25 + t))))]) E.1 E.2.1 dL_isDelivered_579 hl (by decide) rfl (fun ls hl => ?_)
                have hX := e0.trans hM
                have r1 := hF2.f1 (d := d) hd8
                have ill1 : Ns 0 (10 + t) ≤ 1 := it
                obtain ⟨⟨s6, s0, s1, s2, s3⟩, k6, k20, k25, k8, k5, ka, k0, k1⟩ := fin_s hb ht4 hd8 hp h6 hX
                rw [ga] at ka
                rw [g0] at k0
                rw [g1] at k1
                refine lv_iload E.1 E.2.1 dL_isDelivered_581 (lv_at hl 3 rfl) ?_
                refine lv_if_ltN (tgt := 611) E.1 E.2.1 (by omega) dL_isDelivered_583 (by decide) (fun c583 => ?_) (fun c583 => ?_)
                · omega
                · skip
                  refine lv_iload E.1 E.2.1 dL_isDelivered_586 (lv_at hl 10 rfl) ?_
                  refine lv_iconst (v := nI 4) E.1 E.2.1 dL_isDelivered_588 (by decide) ?_
                  refine lv_icmp_neN (tgt := 611) E.1 E.2.1 (by omega) (by omega) dL_isDelivered_589 (by decide) (fun c589 => ?_) (fun c589 => ?_)
                  · skip
                    refine lv_iload E.1 E.2.1 dL_isDelivered_611 (lv_at hl 3 rfl) ?_
                    refine lv_if_ltN (tgt := 655) E.1 E.2.1 (by omega) dL_isDelivered_613 (by decide) (fun c613 => ?_) (fun c613 => ?_)
                    · omega
                    · skip
                      refine lv_aload_n E.1 E.2.1 dL_isDelivered_616 rfl (lv_at hl 4 rfl) ?_
                      refine lv_iload_n E.1 E.2.1 dL_isDelivered_617 rfl (lv_at hl 6 rfl) ?_
                      refine lv_iconst (v := nI 1) E.1 E.2.1 dL_isDelivered_618 (by decide) ?_
                      refine lv_subN E.1 E.2.1 (by omega) dL_isDelivered_619 ?_
                      refine lv_iload E.1 E.2.1 dL_isDelivered_620 (lv_at hl 3 rfl) ?_
                      refine lv_iload E.1 E.2.1 dL_isDelivered_622 (lv_at hl 8 rfl) ?_
                      refine lv_iload E.1 E.2.1 dL_isDelivered_624 (lv_at hl 10 rfl) ?_
                      refine W_join0 (G := G) (A := AA) (H0 := sS.heap) (nL := 24) 638 (True) (cW G b ad vs pd rv Ms) ([(21, .int (nI (0))), (20, .int (nI (Ms 0 6))), (16, .int (nI (th))), (17, .int (nI (q))), (0, .ref (b 0)), (1, .int (nI (p))), (2, .int (nI (Ns 0 6))), (3, .int (nI (k))), (4, .int (nI (d))), (5, .int (nI (f))), (6, .int (nI (t))), (7, .int (zb (Ns 0 (10 + t) = 1))), (9, .int (nI (Ns 0 (30 + 14 * d + 1)))), (12, .int (nI (Ns 0 8))), (13, .int (nI (Ns 0 (20 + t)))), (14, .int (nI (Ns 0 (25 + t))))]) ([.int (nI (if k = 6 then f else 4)), .int (nI (t)), .int (nI (d)), .int (nI (q)), .int (nI (Ns 0 6 - 1)), .ref (b 0)]) (fun jk626 => ?_) ?_
                      · skip
                        refine lv_iload_n E.1 E.2.1 dL_isDelivered_626 rfl (lv_at hl 7 rfl) ?_
                        refine lv_bipush (v := nI 6) E.1 E.2.1 dL_isDelivered_627 (by decide) ?_
                        refine lv_icmp_neN (tgt := 637) E.1 E.2.1 (by omega) (by omega) dL_isDelivered_629 (by decide) (fun c629 => ?_) (fun c629 => ?_)
                        · skip
                          refine lv_iconst (v := nI 4) E.1 E.2.1 dL_isDelivered_637 (by decide) ?_
                          refine lv_eqi (y := nI (if k = 6 then f else 4)) (by rw [if_neg c629]) ?_
                          exact jk626  (trivial) _ _ _ (HB.eq hw (rfl)) (lvh_eq (l := [(21, .int (nI (0))), (20, .int (nI (Ms 0 6))), (16, .int (nI (th))), (17, .int (nI (q))), (0, .ref (b 0)), (1, .int (nI (p))), (2, .int (nI (Ns 0 6))), (3, .int (nI (k))), (4, .int (nI (d))), (5, .int (nI (f))), (6, .int (nI (t))), (7, .int (zb (Ns 0 (10 + t) = 1))), (9, .int (nI (Ns 0 (30 + 14 * d + 1)))), (12, .int (nI (Ns 0 8))), (13, .int (nI (Ns 0 (20 + t)))), (14, .int (nI (Ns 0 (25 + t))))]) (lv_sub hl [0, 1, 2, 3, 4, 5, 6, 7, 8, 9, 10, 11, 12, 13, 14, 15] rfl) (rfl))
                        · skip
                          refine lv_iload E.1 E.2.1 dL_isDelivered_632 (lv_at hl 9 rfl) ?_
                          refine lv_goto (tgt := 638) E.1 E.2.1 dL_isDelivered_634 (by decide) ?_
                          refine lv_eqi (y := nI (if k = 6 then f else 4)) (by rw [if_pos c629]) ?_
                          exact jk626  (trivial) _ _ _ (HB.eq hw (rfl)) (lvh_eq (l := [(21, .int (nI (0))), (20, .int (nI (Ms 0 6))), (16, .int (nI (th))), (17, .int (nI (q))), (0, .ref (b 0)), (1, .int (nI (p))), (2, .int (nI (Ns 0 6))), (3, .int (nI (k))), (4, .int (nI (d))), (5, .int (nI (f))), (6, .int (nI (t))), (7, .int (zb (Ns 0 (10 + t) = 1))), (9, .int (nI (Ns 0 (30 + 14 * d + 1)))), (12, .int (nI (Ns 0 8))), (13, .int (nI (Ns 0 (20 + t)))), (14, .int (nI (Ns 0 (25 + t))))]) (lv_sub hl [0, 1, 2, 3, 4, 5, 6, 7, 8, 9, 10, 11, 12, 13, 14, 15] rfl) (rfl))
                      · intro  hP626 H locs ls hw hl
                        replace hw : HB G AA sS.heap (cW G b ad vs pd rv Ms) H locs := hw
                        replace hl : lv_has ls 24 [(21, .int (nI (0))), (20, .int (nI (Ms 0 6))), (16, .int (nI (th))), (17, .int (nI (q))), (0, .ref (b 0)), (1, .int (nI (p))), (2, .int (nI (Ns 0 6))), (3, .int (nI (k))), (4, .int (nI (d))), (5, .int (nI (f))), (6, .int (nI (t))), (7, .int (zb (Ns 0 (10 + t) = 1))), (9, .int (nI (Ns 0 (30 + 14 * d + 1)))), (12, .int (nI (Ns 0 8))), (13, .int (nI (Ns 0 (20 + t)))), (14, .int (nI (Ns 0 (25 + t))))] := hl
                        show W _ _ _ _ _ _ _ _ _ _ _ _ _ _ _ (F0 mM 638 ls [.int (nI (if k = 6 then f else 4)), .int (nI (t)), .int (nI (d)), .int (nI (q)), .int (nI (Ns 0 6 - 1)), .ref (b 0)])
                        have hif : (if k = 6 then f else 4) < 5 := by split <;> omega
                        refine callSX E (c_L_isMessage l G b ad vs pd rv Ms hF2 (Ns 0 6 - 1) q d t (if k = 6 then f else 4) s6 s0 s1 s2 s3 (by omega) (by omega) (by omega) (by split <;> omega)) ES.eb (fun _ _ _ => trivial) mn_8_5 YL_isMessage ⟨rfl, rfl⟩ ⟨Nat.le_of_ble_eq_true rfl, Nat.le_of_ble_eq_true rfl⟩ ⟨Nat.le_of_ble_eq_true rfl, Nat.le_of_ble_eq_true rfl⟩ hw (rr := []) (big' := cW G b ad vs pd rv Ms) (by rw [List.append_nil]) (by rw [List.append_nil]) rfl hl rfl (Nat.le_of_ble_eq_true rfl) dL_isDelivered_638 (fun H locs hw => ?_)
                        refine lv_eqi (y := nI (1)) (by decide) ?_
                        refine lv_istore (lv' := [(22, .int (nI (1))), (21, .int (nI (0))), (20, .int (nI (Ms 0 6))), (16, .int (nI (th))), (17, .int (nI (q))), (0, .ref (b 0)), (1, .int (nI (p))), (2, .int (nI (Ns 0 6))), (3, .int (nI (k))), (4, .int (nI (d))), (5, .int (nI (f))), (6, .int (nI (t))), (7, .int (zb (Ns 0 (10 + t) = 1))), (9, .int (nI (Ns 0 (30 + 14 * d + 1)))), (12, .int (nI (Ns 0 8))), (13, .int (nI (Ns 0 (20 + t)))), (14, .int (nI (Ns 0 (25 + t))))]) E.1 E.2.1 dL_isDelivered_641 hl (by decide) rfl (fun ls hl => ?_)
                        refine lv_iload E.1 E.2.1 dL_isDelivered_643 (lv_at hl 0 rfl) ?_
                        refine lv_if_eqN (tgt := 652) E.1 E.2.1 (by omega) dL_isDelivered_645 (by decide) (fun c645 => ?_) (fun c645 => ?_)
                        · exact absurd c645 (by decide)
                        · skip
                          refine lv_iconst (v := nI 1) E.1 E.2.1 dL_isDelivered_648 (by decide) ?_
                          refine lv_goto (tgt := 653) E.1 E.2.1 dL_isDelivered_649 (by decide) ?_
                          refine lv_istore (lv' := [(21, .int (nI (1))), (22, .int (nI (1))), (20, .int (nI (Ms 0 6))), (16, .int (nI (th))), (17, .int (nI (q))), (0, .ref (b 0)), (1, .int (nI (p))), (2, .int (nI (Ns 0 6))), (3, .int (nI (k))), (4, .int (nI (d))), (5, .int (nI (f))), (6, .int (nI (t))), (7, .int (zb (Ns 0 (10 + t) = 1))), (9, .int (nI (Ns 0 (30 + 14 * d + 1)))), (12, .int (nI (Ns 0 8))), (13, .int (nI (Ns 0 (20 + t)))), (14, .int (nI (Ns 0 (25 + t))))]) E.1 E.2.1 dL_isDelivered_653 hl (by decide) rfl (fun ls hl => ?_)
                          refine lv_iload E.1 E.2.1 dL_isDelivered_655 (lv_at hl 0 rfl) ?_
                          refine lv_if_geN (tgt := 662) E.1 E.2.1 (by omega) dL_isDelivered_657 (by decide) (fun c657 => ?_) (fun c657 => ?_)
                          · skip
                            refine W_join0 (G := G) (A := AA) (H0 := sS.heap) (nL := 24) 686 (True) (cW G b ad vs pd rv Ms) ([(21, .int (nI (1))), (22, .int (nI (1))), (20, .int (nI (Ms 0 6))), (16, .int (nI (th))), (17, .int (nI (q))), (0, .ref (b 0)), (1, .int (nI (p))), (2, .int (nI (Ns 0 6))), (3, .int (nI (k))), (4, .int (nI (d))), (5, .int (nI (f))), (6, .int (nI (t))), (7, .int (zb (Ns 0 (10 + t) = 1))), (9, .int (nI (Ns 0 (30 + 14 * d + 1)))), (12, .int (nI (Ns 0 8))), (13, .int (nI (Ns 0 (20 + t)))), (14, .int (nI (Ns 0 (25 + t))))]) ([.int (nI (Ns 0 6 - 1 + 1 - 60))]) (fun jk662 => ?_) ?_
                            · skip
                              refine lv_iload_n E.1 E.2.1 dL_isDelivered_662 rfl (lv_at hl 7 rfl) ?_
                              refine lv_iconst (v := nI 1) E.1 E.2.1 dL_isDelivered_663 (by decide) ?_
                              refine lv_subN E.1 E.2.1 (by omega) dL_isDelivered_664 ?_
                              refine lv_iload E.1 E.2.1 dL_isDelivered_665 (lv_at hl 0 rfl) ?_
                              refine lv_addN E.1 E.2.1 dL_isDelivered_667 ?_
                              refine lv_bipush (v := nI 60) E.1 E.2.1 dL_isDelivered_668 (by decide) ?_
                              refine lv_icmp_leN (tgt := 685) E.1 E.2.1 (by omega) (by omega) dL_isDelivered_670 (by decide) (fun c670 => ?_) (fun c670 => ?_)
                              · skip
                                refine lv_iconst (v := nI 0) E.1 E.2.1 dL_isDelivered_685 (by decide) ?_
                                refine lv_eqi (y := nI (Ns 0 6 - 1 + 1 - 60)) (by rw [show Ns 0 6 - 1 + 1 - 60 = 0 by omega]) ?_
                                exact jk662  (trivial) _ _ _ (HB.eq hw (rfl)) (lvh_eq (l := [(21, .int (nI (1))), (22, .int (nI (1))), (20, .int (nI (Ms 0 6))), (16, .int (nI (th))), (17, .int (nI (q))), (0, .ref (b 0)), (1, .int (nI (p))), (2, .int (nI (Ns 0 6))), (3, .int (nI (k))), (4, .int (nI (d))), (5, .int (nI (f))), (6, .int (nI (t))), (7, .int (zb (Ns 0 (10 + t) = 1))), (9, .int (nI (Ns 0 (30 + 14 * d + 1)))), (12, .int (nI (Ns 0 8))), (13, .int (nI (Ns 0 (20 + t)))), (14, .int (nI (Ns 0 (25 + t))))]) (lv_sub hl [0, 1, 2, 3, 4, 5, 6, 7, 8, 9, 10, 11, 12, 13, 14, 15, 16] rfl) (rfl))
                              · skip
                                refine lv_iload_n E.1 E.2.1 dL_isDelivered_673 rfl (lv_at hl 7 rfl) ?_
                                refine lv_iconst (v := nI 1) E.1 E.2.1 dL_isDelivered_674 (by decide) ?_
                                refine lv_subN E.1 E.2.1 (by omega) dL_isDelivered_675 ?_
                                refine lv_iload E.1 E.2.1 dL_isDelivered_676 (lv_at hl 0 rfl) ?_
                                refine lv_addN E.1 E.2.1 dL_isDelivered_678 ?_
                                refine lv_bipush (v := nI 60) E.1 E.2.1 dL_isDelivered_679 (by decide) ?_
                                refine lv_subN E.1 E.2.1 (by omega) dL_isDelivered_681 ?_
                                refine lv_goto (tgt := 686) E.1 E.2.1 dL_isDelivered_682 (by decide) ?_
                                refine lv_eqi (y := nI (Ns 0 6 - 1 + 1 - 60)) (rfl) ?_
                                exact jk662  (trivial) _ _ _ (HB.eq hw (rfl)) (lvh_eq (l := [(21, .int (nI (1))), (22, .int (nI (1))), (20, .int (nI (Ms 0 6))), (16, .int (nI (th))), (17, .int (nI (q))), (0, .ref (b 0)), (1, .int (nI (p))), (2, .int (nI (Ns 0 6))), (3, .int (nI (k))), (4, .int (nI (d))), (5, .int (nI (f))), (6, .int (nI (t))), (7, .int (zb (Ns 0 (10 + t) = 1))), (9, .int (nI (Ns 0 (30 + 14 * d + 1)))), (12, .int (nI (Ns 0 8))), (13, .int (nI (Ns 0 (20 + t)))), (14, .int (nI (Ns 0 (25 + t))))]) (lv_sub hl [0, 1, 2, 3, 4, 5, 6, 7, 8, 9, 10, 11, 12, 13, 14, 15, 16] rfl) (rfl))
                            · intro  hP662 H locs ls hw hl
                              replace hw : HB G AA sS.heap (cW G b ad vs pd rv Ms) H locs := hw
                              replace hl : lv_has ls 24 [(21, .int (nI (1))), (22, .int (nI (1))), (20, .int (nI (Ms 0 6))), (16, .int (nI (th))), (17, .int (nI (q))), (0, .ref (b 0)), (1, .int (nI (p))), (2, .int (nI (Ns 0 6))), (3, .int (nI (k))), (4, .int (nI (d))), (5, .int (nI (f))), (6, .int (nI (t))), (7, .int (zb (Ns 0 (10 + t) = 1))), (9, .int (nI (Ns 0 (30 + 14 * d + 1)))), (12, .int (nI (Ns 0 8))), (13, .int (nI (Ns 0 (20 + t)))), (14, .int (nI (Ns 0 (25 + t))))] := hl
                              show W _ _ _ _ _ _ _ _ _ _ _ _ _ _ _ (F0 mM 686 ls [.int (nI (Ns 0 6 - 1 + 1 - 60))])
                              refine lv_istore (lv' := [(22, .int (nI (Ns 0 6 - 1 + 1 - 60))), (21, .int (nI (1))), (20, .int (nI (Ms 0 6))), (16, .int (nI (th))), (17, .int (nI (q))), (0, .ref (b 0)), (1, .int (nI (p))), (2, .int (nI (Ns 0 6))), (3, .int (nI (k))), (4, .int (nI (d))), (5, .int (nI (f))), (6, .int (nI (t))), (7, .int (zb (Ns 0 (10 + t) = 1))), (9, .int (nI (Ns 0 (30 + 14 * d + 1)))), (12, .int (nI (Ns 0 8))), (13, .int (nI (Ns 0 (20 + t)))), (14, .int (nI (Ns 0 (25 + t))))]) E.1 E.2.1 dL_isDelivered_686 hl (by decide) rfl (fun ls hl => ?_)
                              refine lv_iload E.1 E.2.1 dL_isDelivered_688 (lv_at hl 11 rfl) ?_
                              refine lv_iconst (v := nI 4) E.1 E.2.1 dL_isDelivered_690 (by decide) ?_
                              refine lv_icmp_neN (tgt := 738) E.1 E.2.1 (by omega) (by omega) dL_isDelivered_691 (by decide) (fun c691 => ?_) (fun c691 => ?_)
                              · skip
                                refine lv_aload_n E.1 E.2.1 dL_isDelivered_738 rfl (lv_at hl 5 rfl) ?_
                                refine lv_iload E.1 E.2.1 dL_isDelivered_739 (lv_at hl 9 rfl) ?_
                                refine lv_iload E.1 E.2.1 dL_isDelivered_741 (lv_at hl 11 rfl) ?_
                                refine callVIp E (c_X3_at_ok l G b ad vs pd rv Ms d (by omega) hF2 t (by omega)) ES.eb (fun _ _ _ => trivial) mn_10_7 YX3_at ⟨rfl, rfl⟩ ⟨Nat.le_of_ble_eq_true rfl, Nat.le_of_ble_eq_true rfl⟩ ⟨Nat.le_of_ble_eq_true rfl, Nat.le_of_ble_eq_true rfl⟩ hw (rr := []) (big' := cW G b ad vs pd rv Ms) (by rw [List.append_nil]) (by rw [List.append_nil]) 0 rfl rfl rfl hl rfl (Nat.le_of_ble_eq_true rfl) dL_isDelivered_743 (fun H locs hw => ?_)
                                refine lv_eqi (y := nI (th)) (by rw [k0, if_pos (htS ht4), ka]) ?_
                                refine lv_iload E.1 E.2.1 dL_isDelivered_746 (lv_at hl 3 rfl) ?_
                                refine lv_icmp_neN (tgt := 767) E.1 E.2.1 (by omega) (by omega) dL_isDelivered_748 (by decide) (fun c748 => ?_) (fun c748 => ?_)
                                · exact absurd rfl c748
                                · skip
                                  refine lv_aload_n E.1 E.2.1 dL_isDelivered_751 rfl (lv_at hl 5 rfl) ?_
                                  refine lv_iload E.1 E.2.1 dL_isDelivered_752 (lv_at hl 9 rfl) ?_
                                  refine lv_iconst (v := nI 1) E.1 E.2.1 dL_isDelivered_754 (by decide) ?_
                                  refine callVIp E (c_X3_ofDeal_ok l G b ad vs pd rv Ms d (by omega) hF2 1 (by decide)) ES.eb (fun _ _ _ => trivial) mn_7_11 YX3_ofDeal ⟨rfl, rfl⟩ ⟨Nat.le_of_ble_eq_true rfl, Nat.le_of_ble_eq_true rfl⟩ ⟨Nat.le_of_ble_eq_true rfl, Nat.le_of_ble_eq_true rfl⟩ hw (rr := []) (big' := cW G b ad vs pd rv Ms) (by rw [List.append_nil]) (by rw [List.append_nil]) 0 rfl rfl rfl hl rfl (Nat.le_of_ble_eq_true rfl) dL_isDelivered_755 (fun H locs hw => ?_)
                                  refine lv_eqi (y := nI (Ms 0 (30 + 14 * d + 1))) (rfl) ?_
                                  refine lv_iload E.1 E.2.1 dL_isDelivered_758 (lv_at hl 13 rfl) ?_
                                  refine lv_icmp_neN (tgt := 767) E.1 E.2.1 (by omega) (by omega) dL_isDelivered_760 (by decide) (fun c760 => ?_) (fun c760 => ?_)
                                  · exact absurd k1 c760
                                  · skip
                                    refine lv_iconst (v := nI 1) E.1 E.2.1 dL_isDelivered_763 (by decide) ?_
                                    refine lv_goto (tgt := 768) E.1 E.2.1 dL_isDelivered_764 (by decide) ?_
                                    refine lv_istore (lv' := [(23, .int (nI (1))), (22, .int (nI (Ns 0 6 - 1 + 1 - 60))), (21, .int (nI (1))), (20, .int (nI (Ms 0 6))), (16, .int (nI (th))), (17, .int (nI (q))), (0, .ref (b 0)), (1, .int (nI (p))), (2, .int (nI (Ns 0 6))), (3, .int (nI (k))), (4, .int (nI (d))), (5, .int (nI (f))), (6, .int (nI (t))), (7, .int (zb (Ns 0 (10 + t) = 1))), (9, .int (nI (Ns 0 (30 + 14 * d + 1)))), (12, .int (nI (Ns 0 8))), (13, .int (nI (Ns 0 (20 + t)))), (14, .int (nI (Ns 0 (25 + t))))]) E.1 E.2.1 dL_isDelivered_768 hl (by decide) rfl (fun ls hl => ?_)
                                    refine lv_iload E.1 E.2.1 dL_isDelivered_770 (lv_at hl 0 rfl) ?_
                                    refine lv_if_eqN (tgt := 865) E.1 E.2.1 (by omega) dL_isDelivered_772 (by decide) (fun c772 => ?_) (fun c772 => ?_)
                                    · exact absurd c772 (by decide)
                                    · skip
                                      refine lv_iload E.1 E.2.1 dL_isDelivered_775 (lv_at hl 3 rfl) ?_
                                      refine lv_iload_n E.1 E.2.1 dL_isDelivered_777 rfl (lv_at hl 8 rfl) ?_
                                      refine lv_iconst (v := nI 1) E.1 E.2.1 dL_isDelivered_778 (by decide) ?_
                                      refine lv_subN E.1 E.2.1 (by omega) dL_isDelivered_779 ?_
                                      refine lv_iload E.1 E.2.1 dL_isDelivered_780 (lv_at hl 2 rfl) ?_
                                      refine lv_addN E.1 E.2.1 dL_isDelivered_782 ?_
                                      refine lv_iload E.1 E.2.1 dL_isDelivered_783 (lv_at hl 1 rfl) ?_
                                      refine lv_subN E.1 E.2.1 (by omega) dL_isDelivered_785 ?_
                                      refine lv_icmp_neN (tgt := 865) E.1 E.2.1 (by omega) (by omega) dL_isDelivered_786 (by decide) (fun c786 => ?_) (fun c786 => ?_)
                                      · omega
                                      · skip
                                        refine lv_aload_n E.1 E.2.1 dL_isDelivered_789 rfl (lv_at hl 6 rfl) ?_
                                        refine lv_iconst (v := nI 2) E.1 E.2.1 dL_isDelivered_790 (by decide) ?_
                                        refine callVIp E (c_X3_count_ok l G b ad vs pd rv Ms 2 (by decide) (by decide) (by decide) hF2 hDV2) ES.eb (fun _ _ _ => trivial) mn_3_8 YX3_count ⟨rfl, rfl⟩ ⟨Nat.le_of_ble_eq_true rfl, Nat.le_of_ble_eq_true rfl⟩ ⟨Nat.le_of_ble_eq_true rfl, Nat.le_of_ble_eq_true rfl⟩ hw (rr := []) (big' := cW G b ad vs pd rv Ms) (by rw [List.append_nil]) (by rw [List.append_nil]) 0 rfl rfl rfl hl rfl (Nat.le_of_ble_eq_true rfl) dL_isDelivered_791 (fun H locs hw => ?_)
                                        refine lv_eqi (y := nI (Ms 0 6)) (rfl) ?_
                                        refine lv_iload E.1 E.2.1 dL_isDelivered_794 (lv_at hl 3 rfl) ?_
                                        refine lv_icmp_neN (tgt := 865) E.1 E.2.1 (by omega) (by omega) dL_isDelivered_796 (by decide) (fun c796 => ?_) (fun c796 => ?_)
                                        · exact absurd rfl c796
                                        · skip
                                          refine lv_aload_n E.1 E.2.1 dL_isDelivered_799 rfl (lv_at hl 6 rfl) ?_
                                          refine lv_iload E.1 E.2.1 dL_isDelivered_800 (lv_at hl 12 rfl) ?_
                                          refine lv_iconst (v := nI 3) E.1 E.2.1 dL_isDelivered_802 (by decide) ?_
                                          refine callVIp E (c_X3_who_ok l G b ad vs pd rv Ms t 3 (by omega) (by decide) hF2 hm2) ES.eb (fun _ _ _ => trivial) mn_6_14 YX3_who ⟨rfl, rfl⟩ ⟨Nat.le_of_ble_eq_true rfl, Nat.le_of_ble_eq_true rfl⟩ ⟨Nat.le_of_ble_eq_true rfl, Nat.le_of_ble_eq_true rfl⟩ hw (rr := []) (big' := cW G b ad vs pd rv Ms) (by rw [List.append_nil]) (by rw [List.append_nil]) 0 rfl rfl rfl hl rfl (Nat.le_of_ble_eq_true rfl) dL_isDelivered_803 (fun H locs hw => ?_)
                                          refine lv_eqi (y := nI (Ms 0 (20 + t))) (rfl) ?_
                                          refine lv_iload E.1 E.2.1 dL_isDelivered_806 (lv_at hl 16 rfl) ?_
                                          refine W_join0 (G := G) (A := AA) (H0 := sS.heap) (nL := 24) 818 (True) (cW G b ad vs pd rv Ms) ([(23, .int (nI (1))), (22, .int (nI (Ns 0 6 - 1 + 1 - 60))), (21, .int (nI (1))), (20, .int (nI (Ms 0 6))), (16, .int (nI (th))), (17, .int (nI (q))), (0, .ref (b 0)), (1, .int (nI (p))), (2, .int (nI (Ns 0 6))), (3, .int (nI (k))), (4, .int (nI (d))), (5, .int (nI (f))), (6, .int (nI (t))), (7, .int (zb (Ns 0 (10 + t) = 1))), (9, .int (nI (Ns 0 (30 + 14 * d + 1)))), (12, .int (nI (Ns 0 8))), (13, .int (nI (Ns 0 (20 + t)))), (14, .int (nI (Ns 0 (25 + t))))]) ([.int (nI (if Ns 0 (10 + t) = 1 then 0 else 1)), .int (nI (Ns 0 (20 + t))), .int (nI (Ms 0 (20 + t)))]) (fun jk808 => ?_) ?_
                                          · skip
                                            refine lv_iload E.1 E.2.1 dL_isDelivered_808 (lv_at hl 13 rfl) ?_
                                            refine lv_if_eqB (tgt := 817) E.1 E.2.1 dL_isDelivered_810 (by decide) (fun c810 => ?_) (fun c810 => ?_)
                                            · skip
                                              refine lv_iconst (v := nI 1) E.1 E.2.1 dL_isDelivered_817 (by decide) ?_
                                              refine lv_eqi (y := nI (if Ns 0 (10 + t) = 1 then 0 else 1)) (by rw [if_neg c810]) ?_
                                              exact jk808  (trivial) _ _ _ (HB.eq hw (rfl)) (lvh_eq (l := [(23, .int (nI (1))), (22, .int (nI (Ns 0 6 - 1 + 1 - 60))), (21, .int (nI (1))), (20, .int (nI (Ms 0 6))), (16, .int (nI (th))), (17, .int (nI (q))), (0, .ref (b 0)), (1, .int (nI (p))), (2, .int (nI (Ns 0 6))), (3, .int (nI (k))), (4, .int (nI (d))), (5, .int (nI (f))), (6, .int (nI (t))), (7, .int (zb (Ns 0 (10 + t) = 1))), (9, .int (nI (Ns 0 (30 + 14 * d + 1)))), (12, .int (nI (Ns 0 8))), (13, .int (nI (Ns 0 (20 + t)))), (14, .int (nI (Ns 0 (25 + t))))]) (lv_sub hl [0, 1, 2, 3, 4, 5, 6, 7, 8, 9, 10, 11, 12, 13, 14, 15, 16, 17] rfl) (rfl))
                                            · skip
                                              refine lv_iconst (v := nI 0) E.1 E.2.1 dL_isDelivered_813 (by decide) ?_
                                              refine lv_goto (tgt := 818) E.1 E.2.1 dL_isDelivered_814 (by decide) ?_
                                              refine lv_eqi (y := nI (if Ns 0 (10 + t) = 1 then 0 else 1)) (by rw [if_pos c810]) ?_
                                              exact jk808  (trivial) _ _ _ (HB.eq hw (rfl)) (lvh_eq (l := [(23, .int (nI (1))), (22, .int (nI (Ns 0 6 - 1 + 1 - 60))), (21, .int (nI (1))), (20, .int (nI (Ms 0 6))), (16, .int (nI (th))), (17, .int (nI (q))), (0, .ref (b 0)), (1, .int (nI (p))), (2, .int (nI (Ns 0 6))), (3, .int (nI (k))), (4, .int (nI (d))), (5, .int (nI (f))), (6, .int (nI (t))), (7, .int (zb (Ns 0 (10 + t) = 1))), (9, .int (nI (Ns 0 (30 + 14 * d + 1)))), (12, .int (nI (Ns 0 8))), (13, .int (nI (Ns 0 (20 + t)))), (14, .int (nI (Ns 0 (25 + t))))]) (lv_sub hl [0, 1, 2, 3, 4, 5, 6, 7, 8, 9, 10, 11, 12, 13, 14, 15, 16, 17] rfl) (rfl))
                                          · intro  hP808 H locs ls hw hl
                                            replace hw : HB G AA sS.heap (cW G b ad vs pd rv Ms) H locs := hw
                                            replace hl : lv_has ls 24 [(23, .int (nI (1))), (22, .int (nI (Ns 0 6 - 1 + 1 - 60))), (21, .int (nI (1))), (20, .int (nI (Ms 0 6))), (16, .int (nI (th))), (17, .int (nI (q))), (0, .ref (b 0)), (1, .int (nI (p))), (2, .int (nI (Ns 0 6))), (3, .int (nI (k))), (4, .int (nI (d))), (5, .int (nI (f))), (6, .int (nI (t))), (7, .int (zb (Ns 0 (10 + t) = 1))), (9, .int (nI (Ns 0 (30 + 14 * d + 1)))), (12, .int (nI (Ns 0 8))), (13, .int (nI (Ns 0 (20 + t)))), (14, .int (nI (Ns 0 (25 + t))))] := hl
                                            show W _ _ _ _ _ _ _ _ _ _ _ _ _ _ _ (F0 mM 818 ls [.int (nI (if Ns 0 (10 + t) = 1 then 0 else 1)), .int (nI (Ns 0 (20 + t))), .int (nI (Ms 0 (20 + t)))])
                                            refine lv_addN E.1 E.2.1 dL_isDelivered_818 ?_
                                            refine lv_icmp_ne (tgt := 865) E.1 E.2.1 dL_isDelivered_819 (by decide) (fun c819 => ?_) (fun c819 => ?_)
                                            · exact absurd (congrArg nI (show Ms 0 (20 + t) = Ns 0 (20 + t) + (if Ns 0 (10 + t) = 1 then 0 else 1) by split <;> omega)) c819
                                            · skip
                                              refine lv_aload_n E.1 E.2.1 dL_isDelivered_822 rfl (lv_at hl 6 rfl) ?_
                                              refine lv_iload E.1 E.2.1 dL_isDelivered_823 (lv_at hl 12 rfl) ?_
                                              refine lv_iconst (v := nI 4) E.1 E.2.1 dL_isDelivered_825 (by decide) ?_
                                              refine callVIp E (c_X3_who_ok l G b ad vs pd rv Ms t 4 (by omega) (by decide) hF2 hm2) ES.eb (fun _ _ _ => trivial) mn_6_14 YX3_who ⟨rfl, rfl⟩ ⟨Nat.le_of_ble_eq_true rfl, Nat.le_of_ble_eq_true rfl⟩ ⟨Nat.le_of_ble_eq_true rfl, Nat.le_of_ble_eq_true rfl⟩ hw (rr := []) (big' := cW G b ad vs pd rv Ms) (by rw [List.append_nil]) (by rw [List.append_nil]) 0 rfl rfl rfl hl rfl (Nat.le_of_ble_eq_true rfl) dL_isDelivered_826 (fun H locs hw => ?_)
                                              refine lv_eqi (y := nI (Ms 0 (25 + t))) (rfl) ?_
                                              refine lv_iload E.1 E.2.1 dL_isDelivered_829 (lv_at hl 17 rfl) ?_
                                              refine lv_iload E.1 E.2.1 dL_isDelivered_831 (lv_at hl 2 rfl) ?_
                                              refine lv_addN E.1 E.2.1 dL_isDelivered_833 ?_
                                              refine lv_icmp_ne (tgt := 865) E.1 E.2.1 dL_isDelivered_834 (by decide) (fun c834 => ?_) (fun c834 => ?_)
                                              · exact absurd (congrArg nI (show Ms 0 (25 + t) = Ns 0 (25 + t) + 1 by omega)) c834
                                              · skip
                                                refine lv_aload_n E.1 E.2.1 dL_isDelivered_837 rfl (lv_at hl 6 rfl) ?_
                                                refine lv_iconst (v := nI 4) E.1 E.2.1 dL_isDelivered_838 (by decide) ?_
                                                refine callVIp E (c_X3_count_ok l G b ad vs pd rv Ms 4 (by decide) (by decide) (by decide) hF2 hDV2) ES.eb (fun _ _ _ => trivial) mn_3_8 YX3_count ⟨rfl, rfl⟩ ⟨Nat.le_of_ble_eq_true rfl, Nat.le_of_ble_eq_true rfl⟩ ⟨Nat.le_of_ble_eq_true rfl, Nat.le_of_ble_eq_true rfl⟩ hw (rr := []) (big' := cW G b ad vs pd rv Ms) (by rw [List.append_nil]) (by rw [List.append_nil]) 0 rfl rfl rfl hl rfl (Nat.le_of_ble_eq_true rfl) dL_isDelivered_839 (fun H locs hw => ?_)
                                                refine lv_eqi (y := nI (Ms 0 8)) (rfl) ?_
                                                refine lv_iload E.1 E.2.1 dL_isDelivered_842 (lv_at hl 15 rfl) ?_
                                                refine W_join0 (G := G) (A := AA) (H0 := sS.heap) (nL := 24) 854 (True) (cW G b ad vs pd rv Ms) ([(23, .int (nI (1))), (22, .int (nI (Ns 0 6 - 1 + 1 - 60))), (21, .int (nI (1))), (20, .int (nI (Ms 0 6))), (16, .int (nI (th))), (17, .int (nI (q))), (0, .ref (b 0)), (1, .int (nI (p))), (2, .int (nI (Ns 0 6))), (3, .int (nI (k))), (4, .int (nI (d))), (5, .int (nI (f))), (6, .int (nI (t))), (7, .int (zb (Ns 0 (10 + t) = 1))), (9, .int (nI (Ns 0 (30 + 14 * d + 1)))), (12, .int (nI (Ns 0 8))), (13, .int (nI (Ns 0 (20 + t)))), (14, .int (nI (Ns 0 (25 + t))))]) ([.int (nI (if Ns 0 (10 + t) = 1 then 1 else 0)), .int (nI (Ns 0 8)), .int (nI (Ms 0 8))]) (fun jk844 => ?_) ?_
                                                · skip
                                                  refine lv_iload E.1 E.2.1 dL_isDelivered_844 (lv_at hl 13 rfl) ?_
                                                  refine lv_if_eqB (tgt := 853) E.1 E.2.1 dL_isDelivered_846 (by decide) (fun c846 => ?_) (fun c846 => ?_)
                                                  · skip
                                                    refine lv_iconst (v := nI 0) E.1 E.2.1 dL_isDelivered_853 (by decide) ?_
                                                    refine lv_eqi (y := nI (if Ns 0 (10 + t) = 1 then 1 else 0)) (by rw [if_neg c846]) ?_
                                                    exact jk844  (trivial) _ _ _ (HB.eq hw (rfl)) (lvh_eq (l := [(23, .int (nI (1))), (22, .int (nI (Ns 0 6 - 1 + 1 - 60))), (21, .int (nI (1))), (20, .int (nI (Ms 0 6))), (16, .int (nI (th))), (17, .int (nI (q))), (0, .ref (b 0)), (1, .int (nI (p))), (2, .int (nI (Ns 0 6))), (3, .int (nI (k))), (4, .int (nI (d))), (5, .int (nI (f))), (6, .int (nI (t))), (7, .int (zb (Ns 0 (10 + t) = 1))), (9, .int (nI (Ns 0 (30 + 14 * d + 1)))), (12, .int (nI (Ns 0 8))), (13, .int (nI (Ns 0 (20 + t)))), (14, .int (nI (Ns 0 (25 + t))))]) (lv_sub hl [0, 1, 2, 3, 4, 5, 6, 7, 8, 9, 10, 11, 12, 13, 14, 15, 16, 17] rfl) (rfl))
                                                  · skip
                                                    refine lv_iconst (v := nI 1) E.1 E.2.1 dL_isDelivered_849 (by decide) ?_
                                                    refine lv_goto (tgt := 854) E.1 E.2.1 dL_isDelivered_850 (by decide) ?_
                                                    refine lv_eqi (y := nI (if Ns 0 (10 + t) = 1 then 1 else 0)) (by rw [if_pos c846]) ?_
                                                    exact jk844  (trivial) _ _ _ (HB.eq hw (rfl)) (lvh_eq (l := [(23, .int (nI (1))), (22, .int (nI (Ns 0 6 - 1 + 1 - 60))), (21, .int (nI (1))), (20, .int (nI (Ms 0 6))), (16, .int (nI (th))), (17, .int (nI (q))), (0, .ref (b 0)), (1, .int (nI (p))), (2, .int (nI (Ns 0 6))), (3, .int (nI (k))), (4, .int (nI (d))), (5, .int (nI (f))), (6, .int (nI (t))), (7, .int (zb (Ns 0 (10 + t) = 1))), (9, .int (nI (Ns 0 (30 + 14 * d + 1)))), (12, .int (nI (Ns 0 8))), (13, .int (nI (Ns 0 (20 + t)))), (14, .int (nI (Ns 0 (25 + t))))]) (lv_sub hl [0, 1, 2, 3, 4, 5, 6, 7, 8, 9, 10, 11, 12, 13, 14, 15, 16, 17] rfl) (rfl))
                                                · intro  hP844 H locs ls hw hl
                                                  replace hw : HB G AA sS.heap (cW G b ad vs pd rv Ms) H locs := hw
                                                  replace hl : lv_has ls 24 [(23, .int (nI (1))), (22, .int (nI (Ns 0 6 - 1 + 1 - 60))), (21, .int (nI (1))), (20, .int (nI (Ms 0 6))), (16, .int (nI (th))), (17, .int (nI (q))), (0, .ref (b 0)), (1, .int (nI (p))), (2, .int (nI (Ns 0 6))), (3, .int (nI (k))), (4, .int (nI (d))), (5, .int (nI (f))), (6, .int (nI (t))), (7, .int (zb (Ns 0 (10 + t) = 1))), (9, .int (nI (Ns 0 (30 + 14 * d + 1)))), (12, .int (nI (Ns 0 8))), (13, .int (nI (Ns 0 (20 + t)))), (14, .int (nI (Ns 0 (25 + t))))] := hl
                                                  show W _ _ _ _ _ _ _ _ _ _ _ _ _ _ _ (F0 mM 854 ls [.int (nI (if Ns 0 (10 + t) = 1 then 1 else 0)), .int (nI (Ns 0 8)), .int (nI (Ms 0 8))])
                                                  refine lv_addN E.1 E.2.1 dL_isDelivered_854 ?_
                                                  refine lv_iload E.1 E.2.1 dL_isDelivered_855 (lv_at hl 1 rfl) ?_
                                                  refine lv_addN E.1 E.2.1 dL_isDelivered_857 ?_
                                                  refine lv_icmp_ne (tgt := 865) E.1 E.2.1 dL_isDelivered_858 (by decide) (fun c858 => ?_) (fun c858 => ?_)
                                                  · exact absurd (congrArg nI (show Ms 0 8 = Ns 0 8 + (if Ns 0 (10 + t) = 1 then 1 else 0) + (Ns 0 6 - 1 + 1 - 60) by split <;> omega)) c858
                                                  · skip
                                                    refine lv_iconst (v := nI 1) E.1 E.2.1 dL_isDelivered_861 (by decide) ?_
                                                    refine lv_goto (tgt := 866) E.1 E.2.1 dL_isDelivered_862 (by decide) ?_
                                                    refine W.widen (k := 0) (n := 0) (Nat.le_of_ble_eq_true rfl) (Nat.le_of_ble_eq_true rfl) ?_
                                                    exact rU E hr hlk (vs, Ms) (⟨hcv2, by rw [hdel]; exact e0⟩) (HB.eq hw (rfl)) dL_isDelivered_866
                              · omega
                          · exact absurd c657 (by decide)
                  · omega
        · omega
  · omega

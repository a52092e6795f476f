theorem zb_c {P Q : Prop} [Decidable P] [Decidable Q] (h : P ↔ Q) : zb P = zb Q := by
  by_cases p : P
  · rw [zb_t p, zb_t (h.mp p)]
  · rw [zb_f p, zb_f (fun q => p (h.mpr q))]
theorem inPred {p : Int32} {k : Nat} (hk : k < 2 ^ 31) : (nI 0 ≤ p ∧ p ≤ nI k - 1) ↔ (0 ≤ p ∧ p < nI k) := by
  refine and_congr Iff.rfl ?_
  rw [Int32.le_iff_toInt_le, Int32.lt_iff_toInt_lt, nI_toInt hk]
  have h1 : (nI k - 1).toInt = (k : Int) - 1 := by
    rcases Nat.eq_zero_or_pos k with h | h
    · subst h; rfl
    · rw [show nI k - 1 = nI (k - 1) from pk_sub (b := 1) h, nI_toInt (by omega)]; omega
  rw [h1]; omega
theorem pcl_step {N : NS} {c d : Nat} (hF : FI N) (h1 : d ≤ N 5) (h2 : pcl c (if N 14 = 1 then N else pbs (N 5) N) (10 + c) = 1 ∨ N 5 ≤ d) (h3 : pcl c (if N 14 = 1 then N else pbs (N 5) N) (10 + c) = 1 → d = 0) {G : GP} {a : Nat → Nat} {x : MX} : mN G a (pcs c d (pcl c (if N 14 = 1 then N else pbs (N 5) N))) x = mN G a (pcl (c + 1) (if N 14 = 1 then N else pbs (N 5) N)) x := by
  rw [pcl]
  by_cases z : pcl c (if N 14 = 1 then N else pbs (N 5) N) (10 + c) = 1
  · rw [if_pos z, h3 z, pcs]
  · rw [if_neg z, hF_p0n hF (by decide), show d = N 5 by omega]
theorem rcd_6 {u : Nat} {N : NS} {x : MX} (hT : x.1 2 = 0) (h : u = 6) : sx (ax (sx (ax x 1 (hsh 1950 (x.2 1))) 0 (nI 5)) 1 (hcp 1950 390 N (hsh 1950 (x.2 1)))) 0 (nI (5 + 1)) = rcd u N x := by
  rw [rcd, if_pos hT, recX, if_pos h, recH, if_pos h]
  show sx (ax (sx (ax x 1 _) 0 _) 1 _) 0 _ = _
  have h1 : ax (sx (ax x 1 (hsh 1950 (x.2 1))) 0 (nI 5)) 1 (hcp 1950 390 N (hsh 1950 (x.2 1))) = sx (ax (ax x 1 (hsh 1950 (x.2 1))) 1 (hcp 1950 390 N (hsh 1950 (x.2 1)))) 0 (nI 5) := rfl
  rw [h1, sx_sx, ax_ax]
theorem rcd_n {u : Nat} {N : NS} {x : MX} (hT : x.1 2 = 0) (h : ¬ u = 6) : sx (ax x 1 (hcp (u * 390) 390 N (x.2 1))) 0 (nI (u + 1)) = rcd u N x := by
  rw [rcd, if_pos hT, recX, if_neg h, recH, if_neg h]
theorem YX4_pass : YV yX4_pass RX4 cX4_pass 3 none 0 := ⟨mw_17_8, mw_17_9, mw_1_5, mw_17_10, by decide +kernel⟩
set_option maxHeartbeats 4000000 in
set_option maxRecDepth 100000 in
theorem c_X4_pass (l : Launch) (G : GP) (a : Nat → Nat)  (N : NS) (x : MX) (hF : FI N) : MV l yX4_pass (.code yX4_pass cX4_pass 3 none :: GW) ({ frames := 4, cells := 0, slots := 0, locals := 94 }) [.ref (a 0)] G ES (mN G a (N) (x)) (mN G a (mPass N) (x)) := by
  refine MV.of (own := RX4) rfl rfl (Nat.le_of_ble_eq_true rfl) ?_
  intro pP eE sS mM below meth cC ls AA E hw hl hr hlk hE
  replace hl : lv_has ls 3 [(0, .ref (a 0))] := hl
  have h6 := hF.1
  have h5 := hF.2.1
  have hi4 : N 14 ≤ 1 := hF.il (w := 4) (by decide)
  refine lv_iconst (v := nI 0) E.1 E.2.1 dX4_pass_0 (by decide) ?_
  refine lv_istore_n (lv' := [(1, .int (nI (0))), (0, .ref (a 0))]) E.1 E.2.1 dX4_pass_1 rfl hl (by decide) rfl (fun ls hl => ?_)
  refine W_ind1 (nL := 3) (P := fun d => d ≤ N 5 ∧ (N 14 = 1 → d = 0)) (μ := fun d => N 5 - d) (I := fun d => mN G a (pbs d N) (x)) (L := fun d => [(0, .ref (a 0)), (1, .int (nI (d)))]) ?_ (0) (⟨Nat.zero_le _, fun _ => rfl⟩) (HB.eq hw (rfl)) (lvh_eq (l := [(0, .ref (a 0)), (1, .int (nI (0)))]) (lv_sub hl [1, 0] rfl) (rfl))
  intro d hP1 ih1 H locs ls hw hl
  replace hw : HB G AA sS.heap (mN G a (pbs d N) (x)) H locs := hw
  replace hl : lv_has ls 3 [(0, .ref (a 0)), (1, .int (nI (d)))] := hl
  have hd8 : d ≤ 8 := Nat.le_trans hP1.1 h5
  refine lv_iload_n E.1 E.2.1 dX4_pass_2 rfl (lv_at hl 1 rfl) ?_
  refine lv_aload_n E.1 E.2.1 dX4_pass_3 rfl (lv_at hl 0 rfl) ?_
  refine gX4_0 E hw mw_3_8 dX4_pass_4 ?_
  refine lv_iconst (v := nI 5) E.1 E.2.1 dX4_pass_7 (by decide) ?_
  refine lN4_0 E hw (v := N 5) (by omega) (pbs_n hF (by decide) _ (by omega)) dX4_pass_8 ?_
  refine lv_icmp_geN (tgt := 31) E.1 E.2.1 (by omega) (by omega) dX4_pass_9 (by decide) (fun c9 => ?_) (fun c9 => ?_)
  · skip
    refine lv_iconst (v := nI 0) E.1 E.2.1 dX4_pass_31 (by decide) ?_
    refine lv_istore_n (lv' := [(1, .int (nI (0))), (0, .ref (a 0))]) E.1 E.2.1 dX4_pass_32 rfl hl (by decide) rfl (fun ls hl => ?_)
    refine W_ind1 (nL := 3) (P := fun c => c ≤ 4) (μ := fun c => 4 - c) (I := fun c => mN G a (pcl c (if N 14 = 1 then N else pbs (N 5) N)) (x)) (L := fun c => [(0, .ref (a 0)), (1, .int (nI (c)))]) ?_ (0) (Nat.zero_le _) (HB.eq hw (by rw [pcl]; first | rw [if_pos c17, show d = 0 from hP1.2 c17]; rfl | (by_cases z : N 14 = 1; (rw [if_pos z, show d = 0 from hP1.2 z]; rfl); (rw [if_neg z, show d = N 5 by omega])))) (lvh_eq (l := [(0, .ref (a 0)), (1, .int (nI (0)))]) (lv_sub hl [1, 0] rfl) (rfl))
    intro c hP2 ih2 H locs ls hw hl
    replace hw : HB G AA sS.heap (mN G a (pcl c (if N 14 = 1 then N else pbs (N 5) N)) (x)) H locs := hw
    replace hl : lv_has ls 3 [(0, .ref (a 0)), (1, .int (nI (c)))] := hl
    have hM0 := hF_p0 hF
    have hM := hM0.pl4 c hP2
    refine lv_iload_n E.1 E.2.1 dX4_pass_33 rfl (lv_at hl 1 rfl) ?_
    refine lv_iconst (v := nI 4) E.1 E.2.1 dX4_pass_34 (by decide) ?_
    refine lv_icmp_geN (tgt := 76) E.1 E.2.1 (by omega) (by omega) dX4_pass_35 (by decide) (fun c35 => ?_) (fun c35 => ?_)
    · skip
      refine lv_aload_n E.1 E.2.1 dX4_pass_76 rfl (lv_at hl 0 rfl) ?_
      refine gX4_0 E hw mw_3_8 dX4_pass_77 ?_
      refine lv_iconst (v := nI 4) E.1 E.2.1 dX4_pass_80 (by decide) ?_
      refine lv_dup2_11 E.1 E.2.1 dX4_pass_81 rfl rfl ?_
      refine lN4_0 E hw (v := N 4) (by omega) ((pcl_n hM0 (by decide) _ (by omega)).trans (hF_p0n hF (by decide))) dX4_pass_82 ?_
      refine lv_iconst (v := nI 1) E.1 E.2.1 dX4_pass_83 (by decide) ?_
      refine lv_addN E.1 E.2.1 dX4_pass_84 ?_
      refine sN4_0 E hw (by omega) dX4_pass_85 (fun H locs hw => ?_)
      exact rV E hr hlk (HB.eq hw (by rw [show c = 4 by omega]; rfl)) dX4_pass_86
    · skip
      refine lv_iconst (v := nI 0) E.1 E.2.1 dX4_pass_38 (by decide) ?_
      refine lv_istore_n (lv' := [(2, .int (nI (0))), (0, .ref (a 0)), (1, .int (nI (c)))]) E.1 E.2.1 dX4_pass_39 rfl hl (by decide) rfl (fun ls hl => ?_)
      have hc4 : c < 4 := by omega
      refine W_ind1 (nL := 3) (P := fun d => d ≤ N 5 ∧ (pcl c (if N 14 = 1 then N else pbs (N 5) N) (10 + c) = 1 → d = 0)) (μ := fun d => N 5 - d) (I := fun d => mN G a (pcs c d (pcl c (if N 14 = 1 then N else pbs (N 5) N))) (x)) (L := fun d => [(0, .ref (a 0)), (1, .int (nI (c))), (2, .int (nI (d)))]) ?_ (0) (⟨Nat.zero_le _, fun _ => rfl⟩) (HB.eq hw (rfl)) (lvh_eq (l := [(0, .ref (a 0)), (1, .int (nI (c))), (2, .int (nI (0)))]) (lv_sub hl [1, 2, 0] rfl) (rfl))
      intro d hP3 ih3 H locs ls hw hl
      replace hw : HB G AA sS.heap (mN G a (pcs c d (pcl c (if N 14 = 1 then N else pbs (N 5) N))) (x)) H locs := hw
      replace hl : lv_has ls 3 [(0, .ref (a 0)), (1, .int (nI (c))), (2, .int (nI (d)))] := hl
      refine lv_iload_n E.1 E.2.1 dX4_pass_40 rfl (lv_at hl 2 rfl) ?_
      refine lv_aload_n E.1 E.2.1 dX4_pass_41 rfl (lv_at hl 0 rfl) ?_
      refine gX4_0 E hw mw_3_8 dX4_pass_42 ?_
      refine lv_iconst (v := nI 5) E.1 E.2.1 dX4_pass_45 (by decide) ?_
      refine lN4_0 E hw (v := N 5) (by omega) ((pcs_n hM hc4 (by decide) _).trans ((pcl_n hM0 (by decide) _ (by omega)).trans (hF_p0n hF (by decide)))) dX4_pass_46 ?_
      refine lv_icmp_geN (tgt := 70) E.1 E.2.1 (by omega) (by omega) dX4_pass_47 (by decide) (fun c47 => ?_) (fun c47 => ?_)
      · skip
        refine lv_iincN (k := 1) (lv' := [(1, .int (nI (c + 1))), (0, .ref (a 0)), (2, .int (nI (d)))]) E.1 E.2.1 dX4_pass_70 hl rfl (by decide) rfl (fun ls hl => ?_)
        refine lv_goto (tgt := 33) E.1 E.2.1 dX4_pass_73 (by decide) ?_
        exact ih2 (c + 1) (by omega) (by omega) _ _ _ (HB.eq hw (pcl_step hF hP3.1 (by first | exact Or.inl c55 | exact Or.inr (by omega)) hP3.2)) (lvh_eq (l := [(0, .ref (a 0)), (1, .int (nI (c + 1)))]) (lv_sub hl [1, 0] rfl) (rfl))
      · skip
        refine lv_aload_n E.1 E.2.1 dX4_pass_50 rfl (lv_at hl 0 rfl) ?_
        refine lv_iload_n E.1 E.2.1 dX4_pass_51 rfl (lv_at hl 1 rfl) ?_
        refine callVI E (c_X4_isIll l G a (pcs c d (pcl c (if N 14 = 1 then N else pbs (N 5) N))) (x) c (pcl c (if N 14 = 1 then N else pbs (N 5) N) (10 + c)) (by omega) (pcs_n hM hc4 (by omega) _) (Nat.lt_of_le_of_lt (hM.il (by omega)) (by decide))) mw_7_15 YX4_isIll ⟨rfl, rfl⟩ ⟨Nat.le_of_ble_eq_true rfl, Nat.le_of_ble_eq_true rfl⟩ ⟨Nat.zero_le _, Nat.zero_le _⟩ hw 0 rfl rfl rfl hl rfl (Nat.le_of_ble_eq_true rfl) dX4_pass_52 (fun H locs hw => ?_)
        refine lv_if_neB (tgt := 70) E.1 E.2.1 dX4_pass_55 (by decide) (fun c55 => ?_) (fun c55 => ?_)
        · skip
          refine lv_iincN (k := 1) (lv' := [(1, .int (nI (c + 1))), (0, .ref (a 0)), (2, .int (nI (d)))]) E.1 E.2.1 dX4_pass_70 hl rfl (by decide) rfl (fun ls hl => ?_)
          refine lv_goto (tgt := 33) E.1 E.2.1 dX4_pass_73 (by decide) ?_
          exact ih2 (c + 1) (by omega) (by omega) _ _ _ (HB.eq hw (pcl_step hF hP3.1 (by first | exact Or.inl c55 | exact Or.inr (by omega)) hP3.2)) (lvh_eq (l := [(0, .ref (a 0)), (1, .int (nI (c + 1)))]) (lv_sub hl [1, 0] rfl) (rfl))
        · skip
          refine lv_aload_n E.1 E.2.1 dX4_pass_58 rfl (lv_at hl 0 rfl) ?_
          refine lv_iload_n E.1 E.2.1 dX4_pass_59 rfl (lv_at hl 1 rfl) ?_
          refine lv_iload_n E.1 E.2.1 dX4_pass_60 rfl (lv_at hl 2 rfl) ?_
          refine callVV E (c_X4_passClerk l G a (pcs c d (pcl c (if N 14 = 1 then N else pbs (N 5) N))) (x) c d (by omega) (by omega) (hM.pc8 hc4 d)) mw_17_18 YX4_passClerk ⟨rfl, rfl⟩ ⟨Nat.le_of_ble_eq_true rfl, Nat.le_of_ble_eq_true rfl⟩ ⟨Nat.zero_le _, Nat.zero_le _⟩ hw 0 rfl rfl rfl hl rfl (Nat.le_of_ble_eq_true rfl) dX4_pass_61 (fun H locs hw => ?_)
          refine lv_iincN (k := 2) (lv' := [(2, .int (nI (d + 1))), (0, .ref (a 0)), (1, .int (nI (c)))]) E.1 E.2.1 dX4_pass_64 hl rfl (by decide) rfl (fun ls hl => ?_)
          refine lv_goto (tgt := 40) E.1 E.2.1 dX4_pass_67 (by decide) ?_
          exact ih3 (d + 1) (⟨by omega, fun z => absurd z c55⟩) (by omega) _ _ _ (HB.eq hw (rfl)) (lvh_eq (l := [(0, .ref (a 0)), (1, .int (nI (c))), (2, .int (nI (d + 1)))]) (lv_sub hl [1, 2, 0] rfl) (rfl))
  · skip
    refine lv_aload_n E.1 E.2.1 dX4_pass_12 rfl (lv_at hl 0 rfl) ?_
    refine lv_iconst (v := nI 4) E.1 E.2.1 dX4_pass_13 (by decide) ?_
    refine callVI E (c_X4_isIll l G a (pbs d N) (x) 4 (N 14) (by omega) (pbs_n hF (by decide) _ (by omega)) (by omega)) mw_7_15 YX4_isIll ⟨rfl, rfl⟩ ⟨Nat.le_of_ble_eq_true rfl, Nat.le_of_ble_eq_true rfl⟩ ⟨Nat.zero_le _, Nat.zero_le _⟩ hw 0 rfl rfl rfl hl rfl (Nat.le_of_ble_eq_true rfl) dX4_pass_14 (fun H locs hw => ?_)
    refine lv_if_neB (tgt := 31) E.1 E.2.1 dX4_pass_17 (by decide) (fun c17 => ?_) (fun c17 => ?_)
    · skip
      refine lv_iconst (v := nI 0) E.1 E.2.1 dX4_pass_31 (by decide) ?_
      refine lv_istore_n (lv' := [(1, .int (nI (0))), (0, .ref (a 0))]) E.1 E.2.1 dX4_pass_32 rfl hl (by decide) rfl (fun ls hl => ?_)
      refine W_ind1 (nL := 3) (P := fun c => c ≤ 4) (μ := fun c => 4 - c) (I := fun c => mN G a (pcl c (if N 14 = 1 then N else pbs (N 5) N)) (x)) (L := fun c => [(0, .ref (a 0)), (1, .int (nI (c)))]) ?_ (0) (Nat.zero_le _) (HB.eq hw (by rw [pcl]; first | rw [if_pos c17, show d = 0 from hP1.2 c17]; rfl | (by_cases z : N 14 = 1; (rw [if_pos z, show d = 0 from hP1.2 z]; rfl); (rw [if_neg z, show d = N 5 by omega])))) (lvh_eq (l := [(0, .ref (a 0)), (1, .int (nI (0)))]) (lv_sub hl [1, 0] rfl) (rfl))
      intro c hP2 ih2 H locs ls hw hl
      replace hw : HB G AA sS.heap (mN G a (pcl c (if N 14 = 1 then N else pbs (N 5) N)) (x)) H locs := hw
      replace hl : lv_has ls 3 [(0, .ref (a 0)), (1, .int (nI (c)))] := hl
      have hM0 := hF_p0 hF
      have hM := hM0.pl4 c hP2
      refine lv_iload_n E.1 E.2.1 dX4_pass_33 rfl (lv_at hl 1 rfl) ?_
      refine lv_iconst (v := nI 4) E.1 E.2.1 dX4_pass_34 (by decide) ?_
      refine lv_icmp_geN (tgt := 76) E.1 E.2.1 (by omega) (by omega) dX4_pass_35 (by decide) (fun c35 => ?_) (fun c35 => ?_)
      · skip
        refine lv_aload_n E.1 E.2.1 dX4_pass_76 rfl (lv_at hl 0 rfl) ?_
        refine gX4_0 E hw mw_3_8 dX4_pass_77 ?_
        refine lv_iconst (v := nI 4) E.1 E.2.1 dX4_pass_80 (by decide) ?_
        refine lv_dup2_11 E.1 E.2.1 dX4_pass_81 rfl rfl ?_
        refine lN4_0 E hw (v := N 4) (by omega) ((pcl_n hM0 (by decide) _ (by omega)).trans (hF_p0n hF (by decide))) dX4_pass_82 ?_
        refine lv_iconst (v := nI 1) E.1 E.2.1 dX4_pass_83 (by decide) ?_
        refine lv_addN E.1 E.2.1 dX4_pass_84 ?_
        refine sN4_0 E hw (by omega) dX4_pass_85 (fun H locs hw => ?_)
        exact rV E hr hlk (HB.eq hw (by rw [show c = 4 by omega]; rfl)) dX4_pass_86
      · skip
        refine lv_iconst (v := nI 0) E.1 E.2.1 dX4_pass_38 (by decide) ?_
        refine lv_istore_n (lv' := [(2, .int (nI (0))), (0, .ref (a 0)), (1, .int (nI (c)))]) E.1 E.2.1 dX4_pass_39 rfl hl (by decide) rfl (fun ls hl => ?_)
        have hc4 : c < 4 := by omega
        refine W_ind1 (nL := 3) (P := fun d => d ≤ N 5 ∧ (pcl c (if N 14 = 1 then N else pbs (N 5) N) (10 + c) = 1 → d = 0)) (μ := fun d => N 5 - d) (I := fun d => mN G a (pcs c d (pcl c (if N 14 = 1 then N else pbs (N 5) N))) (x)) (L := fun d => [(0, .ref (a 0)), (1, .int (nI (c))), (2, .int (nI (d)))]) ?_ (0) (⟨Nat.zero_le _, fun _ => rfl⟩) (HB.eq hw (rfl)) (lvh_eq (l := [(0, .ref (a 0)), (1, .int (nI (c))), (2, .int (nI (0)))]) (lv_sub hl [1, 2, 0] rfl) (rfl))
        intro d hP3 ih3 H locs ls hw hl
        replace hw : HB G AA sS.heap (mN G a (pcs c d (pcl c (if N 14 = 1 then N else pbs (N 5) N))) (x)) H locs := hw
        replace hl : lv_has ls 3 [(0, .ref (a 0)), (1, .int (nI (c))), (2, .int (nI (d)))] := hl
        refine lv_iload_n E.1 E.2.1 dX4_pass_40 rfl (lv_at hl 2 rfl) ?_
        refine lv_aload_n E.1 E.2.1 dX4_pass_41 rfl (lv_at hl 0 rfl) ?_
        refine gX4_0 E hw mw_3_8 dX4_pass_42 ?_
        refine lv_iconst (v := nI 5) E.1 E.2.1 dX4_pass_45 (by decide) ?_
        refine lN4_0 E hw (v := N 5) (by omega) ((pcs_n hM hc4 (by decide) _).trans ((pcl_n hM0 (by decide) _ (by omega)).trans (hF_p0n hF (by decide)))) dX4_pass_46 ?_
        refine lv_icmp_geN (tgt := 70) E.1 E.2.1 (by omega) (by omega) dX4_pass_47 (by decide) (fun c47 => ?_) (fun c47 => ?_)
        · skip
          refine lv_iincN (k := 1) (lv' := [(1, .int (nI (c + 1))), (0, .ref (a 0)), (2, .int (nI (d)))]) E.1 E.2.1 dX4_pass_70 hl rfl (by decide) rfl (fun ls hl => ?_)
          refine lv_goto (tgt := 33) E.1 E.2.1 dX4_pass_73 (by decide) ?_
          exact ih2 (c + 1) (by omega) (by omega) _ _ _ (HB.eq hw (pcl_step hF hP3.1 (by first | exact Or.inl c55 | exact Or.inr (by omega)) hP3.2)) (lvh_eq (l := [(0, .ref (a 0)), (1, .int (nI (c + 1)))]) (lv_sub hl [1, 0] rfl) (rfl))
        · skip
          refine lv_aload_n E.1 E.2.1 dX4_pass_50 rfl (lv_at hl 0 rfl) ?_
          refine lv_iload_n E.1 E.2.1 dX4_pass_51 rfl (lv_at hl 1 rfl) ?_
          refine callVI E (c_X4_isIll l G a (pcs c d (pcl c (if N 14 = 1 then N else pbs (N 5) N))) (x) c (pcl c (if N 14 = 1 then N else pbs (N 5) N) (10 + c)) (by omega) (pcs_n hM hc4 (by omega) _) (Nat.lt_of_le_of_lt (hM.il (by omega)) (by decide))) mw_7_15 YX4_isIll ⟨rfl, rfl⟩ ⟨Nat.le_of_ble_eq_true rfl, Nat.le_of_ble_eq_true rfl⟩ ⟨Nat.zero_le _, Nat.zero_le _⟩ hw 0 rfl rfl rfl hl rfl (Nat.le_of_ble_eq_true rfl) dX4_pass_52 (fun H locs hw => ?_)
          refine lv_if_neB (tgt := 70) E.1 E.2.1 dX4_pass_55 (by decide) (fun c55 => ?_) (fun c55 => ?_)
          · skip
            refine lv_iincN (k := 1) (lv' := [(1, .int (nI (c + 1))), (0, .ref (a 0)), (2, .int (nI (d)))]) E.1 E.2.1 dX4_pass_70 hl rfl (by decide) rfl (fun ls hl => ?_)
            refine lv_goto (tgt := 33) E.1 E.2.1 dX4_pass_73 (by decide) ?_
            exact ih2 (c + 1) (by omega) (by omega) _ _ _ (HB.eq hw (pcl_step hF hP3.1 (by first | exact Or.inl c55 | exact Or.inr (by omega)) hP3.2)) (lvh_eq (l := [(0, .ref (a 0)), (1, .int (nI (c + 1)))]) (lv_sub hl [1, 0] rfl) (rfl))
          · skip
            refine lv_aload_n E.1 E.2.1 dX4_pass_58 rfl (lv_at hl 0 rfl) ?_
            refine lv_iload_n E.1 E.2.1 dX4_pass_59 rfl (lv_at hl 1 rfl) ?_
            refine lv_iload_n E.1 E.2.1 dX4_pass_60 rfl (lv_at hl 2 rfl) ?_
            refine callVV E (c_X4_passClerk l G a (pcs c d (pcl c (if N 14 = 1 then N else pbs (N 5) N))) (x) c d (by omega) (by omega) (hM.pc8 hc4 d)) mw_17_18 YX4_passClerk ⟨rfl, rfl⟩ ⟨Nat.le_of_ble_eq_true rfl, Nat.le_of_ble_eq_true rfl⟩ ⟨Nat.zero_le _, Nat.zero_le _⟩ hw 0 rfl rfl rfl hl rfl (Nat.le_of_ble_eq_true rfl) dX4_pass_61 (fun H locs hw => ?_)
            refine lv_iincN (k := 2) (lv' := [(2, .int (nI (d + 1))), (0, .ref (a 0)), (1, .int (nI (c)))]) E.1 E.2.1 dX4_pass_64 hl rfl (by decide) rfl (fun ls hl => ?_)
            refine lv_goto (tgt := 40) E.1 E.2.1 dX4_pass_67 (by decide) ?_
            exact ih3 (d + 1) (⟨by omega, fun z => absurd z c55⟩) (by omega) _ _ _ (HB.eq hw (rfl)) (lvh_eq (l := [(0, .ref (a 0)), (1, .int (nI (c))), (2, .int (nI (d + 1)))]) (lv_sub hl [1, 2, 0] rfl) (rfl))
    · skip
      refine lv_aload_n E.1 E.2.1 dX4_pass_20 rfl (lv_at hl 0 rfl) ?_
      refine lv_iload_n E.1 E.2.1 dX4_pass_21 rfl (lv_at hl 1 rfl) ?_
      refine callVV E (c_X4_passBetween l G a (pbs d N) (x) d (by omega) (hF.pb8 d (by omega))) mw_17_11 YX4_passBetween ⟨rfl, rfl⟩ ⟨Nat.le_of_ble_eq_true rfl, Nat.le_of_ble_eq_true rfl⟩ ⟨Nat.zero_le _, Nat.zero_le _⟩ hw 0 rfl rfl rfl hl rfl (Nat.le_of_ble_eq_true rfl) dX4_pass_22 (fun H locs hw => ?_)
      refine lv_iincN (k := 1) (lv' := [(1, .int (nI (d + 1))), (0, .ref (a 0))]) E.1 E.2.1 dX4_pass_25 hl rfl (by decide) rfl (fun ls hl => ?_)
      refine lv_goto (tgt := 2) E.1 E.2.1 dX4_pass_28 (by decide) ?_
      exact ih1 (d + 1) (⟨by omega, fun z => absurd z c17⟩) (by omega) _ _ _ (HB.eq hw (rfl)) (lvh_eq (l := [(0, .ref (a 0)), (1, .int (nI (d + 1)))]) (lv_sub hl [1, 0] rfl) (rfl))
theorem YX4_record : YV yX4_record RX4 cX4_record 2 none 0 := ⟨mw_5_17, mw_5_18, mw_1_5, mw_5_19, by decide +kernel⟩
set_option maxHeartbeats 4000000 in
set_option maxRecDepth 100000 in
theorem c_X4_record (l : Launch) (G : GP) (a : Nat → Nat) (N : NS) (x : MX) (u : Nat) (T : Prop) [Decidable T] (hu : x.1 0 = nI u) (hT : x.1 2 = zb T) (hu6 : u ≤ 6) : MV l yX4_record (.code yX4_record cX4_record 2 none :: GW) ({ frames := 0, cells := 0, slots := 0, locals := 0 }) [.ref (a 0)] G ES (mN G a (N) (x)) (mN G a N (rcd u N x)) := by
  refine MV.of (own := RX4) rfl rfl (Nat.le_of_ble_eq_true rfl) ?_
  intro pP eE sS mM below meth cC ls AA E hw hl hr hlk hE
  replace hl : lv_has ls 2 [(0, .ref (a 0))] := hl
  refine lv_aload_n E.1 E.2.1 dX4_record_0 rfl (lv_at hl 0 rfl) ?_
  refine gX4_8 E hw mw_5_20 dX4_record_1 ?_
  refine lv_eqi (y := zb (T)) (hT) ?_
  refine lv_if_eqB (tgt := 8) E.1 E.2.1 dX4_record_4 (by decide) (fun c4 => ?_) (fun c4 => ?_)
  · skip
    refine lv_aload_n E.1 E.2.1 dX4_record_8 rfl (lv_at hl 0 rfl) ?_
    refine gX4_3 E hw mw_5_21 dX4_record_9 ?_
    refine lv_eqi (y := nI (u)) (hu) ?_
    refine lv_bipush (v := nI 6) E.1 E.2.1 dX4_record_12 (by decide) ?_
    refine lv_icmp_neN (tgt := 53) E.1 E.2.1 (by omega) (by omega) dX4_record_14 (by decide) (fun c14 => ?_) (fun c14 => ?_)
    · skip
      refine lv_iconst (v := nI 0) E.1 E.2.1 dX4_record_53 (by decide) ?_
      refine lv_istore_n (lv' := [(1, .int (nI (0))), (0, .ref (a 0))]) E.1 E.2.1 dX4_record_54 rfl hl (by decide) rfl (fun ls hl => ?_)
      refine W_ind1 (nL := 2) (P := fun k => k ≤ 390) (μ := fun k => 390 - k) (I := fun k => mN G a (N) (ax (x) 1 (hcp (u * 390) k N (x.2 1)))) (L := fun k => [(0, .ref (a 0)), (1, .int (nI (k)))]) ?_ (0) (Nat.zero_le _) (HB.eq hw (by rw [hcp_0, ax_r])) (lvh_eq (l := [(0, .ref (a 0)), (1, .int (nI (0)))]) (lv_sub hl [1, 0] rfl) (rfl))
      intro k hP2 ih2 H locs ls hw hl
      replace hw : HB G AA sS.heap (mN G a (N) (ax (x) 1 (hcp (u * 390) k N (x.2 1)))) H locs := hw
      replace hl : lv_has ls 2 [(0, .ref (a 0)), (1, .int (nI (k)))] := hl
      refine lv_iload_n E.1 E.2.1 dX4_record_55 rfl (lv_at hl 1 rfl) ?_
      refine lv_sipush (v := nI 390) E.1 E.2.1 dX4_record_56 (by decide) ?_
      refine lv_icmp_geN (tgt := 89) E.1 E.2.1 (by omega) (by omega) dX4_record_59 (by decide) (fun c59 => ?_) (fun c59 => ?_)
      · skip
        refine lv_aload_n E.1 E.2.1 dX4_record_89 rfl (lv_at hl 0 rfl) ?_
        refine lv_dup E.1 E.2.1 dX4_record_90 rfl ?_
        refine gX4_3 E hw mw_5_21 dX4_record_91 ?_
        refine lv_eqi (y := nI (u)) (hu) ?_
        refine lv_iconst (v := nI 1) E.1 E.2.1 dX4_record_94 (by decide) ?_
        refine lv_addN E.1 E.2.1 dX4_record_95 ?_
        refine pX4_3 E hw mw_5_21 dX4_record_96 (fun H locs hw => ?_)
        exact rV E hr hlk (HB.eq hw (by rw [show k = 390 by omega]; exact congrArg _ (rcd_n (hT.trans (zb_f c4)) c14))) dX4_record_99
      · skip
        refine lv_aload_n E.1 E.2.1 dX4_record_62 rfl (lv_at hl 0 rfl) ?_
        refine gX4_2 E hw mw_3_10 dX4_record_63 ?_
        refine lv_aload_n E.1 E.2.1 dX4_record_66 rfl (lv_at hl 0 rfl) ?_
        refine gX4_3 E hw mw_5_21 dX4_record_67 ?_
        refine lv_eqi (y := nI (u)) (hu) ?_
        refine lv_sipush (v := nI 390) E.1 E.2.1 dX4_record_70 (by decide) ?_
        refine lv_mulN E.1 E.2.1 dX4_record_73 ?_
        refine lv_iload_n E.1 E.2.1 dX4_record_74 rfl (lv_at hl 1 rfl) ?_
        refine lv_addN E.1 E.2.1 dX4_record_75 ?_
        refine lv_aload_n E.1 E.2.1 dX4_record_76 rfl (lv_at hl 0 rfl) ?_
        refine gX4_0 E hw mw_3_8 dX4_record_77 ?_
        refine lv_iload_n E.1 E.2.1 dX4_record_80 rfl (lv_at hl 1 rfl) ?_
        refine lN4_0 E hw (v := N k) (by omega) (rfl) dX4_record_81 ?_
        refine sX4_2 E hw (by omega) dX4_record_82 (fun H locs hw => ?_)
        refine lv_iincN (k := 1) (lv' := [(1, .int (nI (k + 1))), (0, .ref (a 0))]) E.1 E.2.1 dX4_record_83 hl rfl (by decide) rfl (fun ls hl => ?_)
        refine lv_goto (tgt := 55) E.1 E.2.1 dX4_record_86 (by decide) ?_
        exact ih2 (k + 1) (by omega) (by omega) _ _ _ (HB.eq hw (by rw [ax_ax, ax_s, hcp_s])) (lvh_eq (l := [(0, .ref (a 0)), (1, .int (nI (k + 1)))]) (lv_sub hl [1, 0] rfl) (rfl))
    · skip
      refine lv_iconst (v := nI 0) E.1 E.2.1 dX4_record_17 (by decide) ?_
      refine lv_istore_n (lv' := [(1, .int (nI (0))), (0, .ref (a 0))]) E.1 E.2.1 dX4_record_18 rfl hl (by decide) rfl (fun ls hl => ?_)
      refine W_ind1 (nL := 2) (P := fun k => k ≤ 1950) (μ := fun k => 1950 - k) (I := fun k => mN G a (N) (ax (x) 1 (hsh k (x.2 1)))) (L := fun k => [(0, .ref (a 0)), (1, .int (nI (k)))]) ?_ (0) (Nat.zero_le _) (HB.eq hw (by rw [hsh_0, ax_r])) (lvh_eq (l := [(0, .ref (a 0)), (1, .int (nI (0)))]) (lv_sub hl [1, 0] rfl) (rfl))
      intro k hP1 ih1 H locs ls hw hl
      replace hw : HB G AA sS.heap (mN G a (N) (ax (x) 1 (hsh k (x.2 1)))) H locs := hw
      replace hl : lv_has ls 2 [(0, .ref (a 0)), (1, .int (nI (k)))] := hl
      refine lv_iload_n E.1 E.2.1 dX4_record_19 rfl (lv_at hl 1 rfl) ?_
      refine lv_sipush (v := nI 1950) E.1 E.2.1 dX4_record_20 (by decide) ?_
      refine lv_icmp_geN (tgt := 48) E.1 E.2.1 (by omega) (by omega) dX4_record_23 (by decide) (fun c23 => ?_) (fun c23 => ?_)
      · skip
        refine lv_aload_n E.1 E.2.1 dX4_record_48 rfl (lv_at hl 0 rfl) ?_
        refine lv_iconst (v := nI 5) E.1 E.2.1 dX4_record_49 (by decide) ?_
        refine pX4_3 E hw mw_5_21 dX4_record_50 (fun H locs hw => ?_)
        refine lv_iconst (v := nI 0) E.1 E.2.1 dX4_record_53 (by decide) ?_
        refine lv_istore_n (lv' := [(1, .int (nI (0))), (0, .ref (a 0))]) E.1 E.2.1 dX4_record_54 rfl hl (by decide) rfl (fun ls hl => ?_)
        refine W_ind1 (nL := 2) (P := fun k => k ≤ 390) (μ := fun k => 390 - k) (I := fun k => mN G a (N) (ax (sx (ax (x) 1 (hsh 1950 (x.2 1))) 0 (nI 5)) 1 (hcp 1950 k N (hsh 1950 (x.2 1))))) (L := fun k => [(0, .ref (a 0)), (1, .int (nI (k)))]) ?_ (0) (Nat.zero_le _) (HB.eq hw (by rw [hcp_0, show k = 1950 by omega]; exact congrArg _ (ax_r (x := sx (ax x 1 (hsh 1950 (x.2 1))) 0 (nI 5)) (k := 1)).symm)) (lvh_eq (l := [(0, .ref (a 0)), (1, .int (nI (0)))]) (lv_sub hl [1, 0] rfl) (rfl))
        intro k hP2 ih2 H locs ls hw hl
        replace hw : HB G AA sS.heap (mN G a (N) (ax (sx (ax (x) 1 (hsh 1950 (x.2 1))) 0 (nI 5)) 1 (hcp 1950 k N (hsh 1950 (x.2 1))))) H locs := hw
        replace hl : lv_has ls 2 [(0, .ref (a 0)), (1, .int (nI (k)))] := hl
        refine lv_iload_n E.1 E.2.1 dX4_record_55 rfl (lv_at hl 1 rfl) ?_
        refine lv_sipush (v := nI 390) E.1 E.2.1 dX4_record_56 (by decide) ?_
        refine lv_icmp_geN (tgt := 89) E.1 E.2.1 (by omega) (by omega) dX4_record_59 (by decide) (fun c59 => ?_) (fun c59 => ?_)
        · skip
          refine lv_aload_n E.1 E.2.1 dX4_record_89 rfl (lv_at hl 0 rfl) ?_
          refine lv_dup E.1 E.2.1 dX4_record_90 rfl ?_
          refine gX4_3 E hw mw_5_21 dX4_record_91 ?_
          refine lv_eqi (y := nI (5)) (rfl) ?_
          refine lv_iconst (v := nI 1) E.1 E.2.1 dX4_record_94 (by decide) ?_
          refine lv_iadd E.1 E.2.1 dX4_record_95 (lv_eqi (y := nI 6) (by decide) ?_)
          refine pX4_3 E hw mw_5_21 dX4_record_96 (fun H locs hw => ?_)
          exact rV E hr hlk (HB.eq hw (by rw [show k = 390 by omega]; exact congrArg _ (rcd_6 (hT.trans (zb_f c4)) c14))) dX4_record_99
        · skip
          refine lv_aload_n E.1 E.2.1 dX4_record_62 rfl (lv_at hl 0 rfl) ?_
          refine gX4_2 E hw mw_3_10 dX4_record_63 ?_
          refine lv_aload_n E.1 E.2.1 dX4_record_66 rfl (lv_at hl 0 rfl) ?_
          refine gX4_3 E hw mw_5_21 dX4_record_67 ?_
          refine lv_eqi (y := nI (5)) (rfl) ?_
          refine lv_sipush (v := nI 390) E.1 E.2.1 dX4_record_70 (by decide) ?_
          refine lv_imul E.1 E.2.1 dX4_record_73 (lv_eqi (y := nI 1950) (by decide) ?_)
          refine lv_iload_n E.1 E.2.1 dX4_record_74 rfl (lv_at hl 1 rfl) ?_
          refine lv_addN E.1 E.2.1 dX4_record_75 ?_
          refine lv_aload_n E.1 E.2.1 dX4_record_76 rfl (lv_at hl 0 rfl) ?_
          refine gX4_0 E hw mw_3_8 dX4_record_77 ?_
          refine lv_iload_n E.1 E.2.1 dX4_record_80 rfl (lv_at hl 1 rfl) ?_
          refine lN4_0 E hw (v := N k) (by omega) (rfl) dX4_record_81 ?_
          refine sX4_2 E hw (by omega) dX4_record_82 (fun H locs hw => ?_)
          refine lv_iincN (k := 1) (lv' := [(1, .int (nI (k + 1))), (0, .ref (a 0))]) E.1 E.2.1 dX4_record_83 hl rfl (by decide) rfl (fun ls hl => ?_)
          refine lv_goto (tgt := 55) E.1 E.2.1 dX4_record_86 (by decide) ?_
          exact ih2 (k + 1) (by omega) (by omega) _ _ _ (HB.eq hw (by rw [ax_ax, ax_s, hcp_s])) (lvh_eq (l := [(0, .ref (a 0)), (1, .int (nI (k + 1)))]) (lv_sub hl [1, 0] rfl) (rfl))
      · skip
        refine lv_aload_n E.1 E.2.1 dX4_record_26 rfl (lv_at hl 0 rfl) ?_
        refine gX4_2 E hw mw_3_10 dX4_record_27 ?_
        refine lv_iload_n E.1 E.2.1 dX4_record_30 rfl (lv_at hl 1 rfl) ?_
        refine lv_aload_n E.1 E.2.1 dX4_record_31 rfl (lv_at hl 0 rfl) ?_
        refine gX4_2 E hw mw_3_10 dX4_record_32 ?_
        refine lv_iload_n E.1 E.2.1 dX4_record_35 rfl (lv_at hl 1 rfl) ?_
        refine lv_sipush (v := nI 390) E.1 E.2.1 dX4_record_36 (by decide) ?_
        refine lv_addN E.1 E.2.1 dX4_record_39 ?_
        refine lX4_2 E hw (by omega) dX4_record_40 ?_
        refine lv_eqi (y := hsh k (x.2 1) (k + 390)) (rfl) ?_
        refine sX4_2 E hw (by omega) dX4_record_41 (fun H locs hw => ?_)
        refine lv_iincN (k := 1) (lv' := [(1, .int (nI (k + 1))), (0, .ref (a 0))]) E.1 E.2.1 dX4_record_42 hl rfl (by decide) rfl (fun ls hl => ?_)
        refine lv_goto (tgt := 19) E.1 E.2.1 dX4_record_45 (by decide) ?_
        exact ih1 (k + 1) (by omega) (by omega) _ _ _ (HB.eq hw (by rw [ax_ax, ax_s, hsh_s])) (lvh_eq (l := [(0, .ref (a 0)), (1, .int (nI (k + 1)))]) (lv_sub hl [1, 0] rfl) (rfl))
  · skip
    exact rV E hr hlk (HB.eq hw (by rw [rcd, if_neg (by rw [hT]; exact fun z => zb_ne.mp z c4)])) dX4_record_7
theorem YX4_keep : YV yX4_keep RX4 cX4_keep 2 none 0 := ⟨mw_24_3, mw_24_4, mw_1_5, mw_24_5, by decide +kernel⟩
set_option maxHeartbeats 4000000 in
set_option maxRecDepth 100000 in
theorem c_X4_keep (l : Launch) (G : GP) (a : Nat → Nat) (N : NS) (x : MX) : MV l yX4_keep (.code yX4_keep cX4_keep 2 none :: GW) ({ frames := 0, cells := 0, slots := 0, locals := 0 }) [.ref (a 0)] G ES (mN G a (N) (x)) (mN G a (N) (ax x 0 (cpA 390 (eN N) (x.2 0)))) := by
  refine MV.of (own := RX4) rfl rfl (Nat.le_of_ble_eq_true rfl) ?_
  intro pP eE sS mM below meth cC ls AA E hw hl hr hlk hE
  replace hl : lv_has ls 2 [(0, .ref (a 0))] := hl
  refine lv_iconst (v := nI 0) E.1 E.2.1 dX4_keep_0 (by decide) ?_
  refine lv_istore_n (lv' := [(1, .int (nI (0))), (0, .ref (a 0))]) E.1 E.2.1 dX4_keep_1 rfl hl (by decide) rfl (fun ls hl => ?_)
  refine W_ind1 (nL := 2) (P := fun k => k ≤ 390) (μ := fun k => 390 - k) (I := fun k => mN G a (N) (ax (x) 0 (cpA k (eN N) (x.2 0)))) (L := fun k => [(0, .ref (a 0)), (1, .int (nI (k)))]) ?_ (0) (Nat.zero_le _) (HB.eq hw (by rw [cpA_0, ax_r])) (lvh_eq (l := [(0, .ref (a 0)), (1, .int (nI (0)))]) (lv_sub hl [1, 0] rfl) (rfl))
  intro k hP ih H locs ls hw hl
  replace hw : HB G AA sS.heap (mN G a (N) (ax (x) 0 (cpA k (eN N) (x.2 0)))) H locs := hw
  replace hl : lv_has ls 2 [(0, .ref (a 0)), (1, .int (nI (k)))] := hl
  refine lv_iload_n E.1 E.2.1 dX4_keep_2 rfl (lv_at hl 1 rfl) ?_
  refine lv_sipush (v := nI 390) E.1 E.2.1 dX4_keep_3 (by decide) ?_
  refine lv_icmp_geN (tgt := 27) E.1 E.2.1 (by omega) (by omega) dX4_keep_6 (by decide) (fun c6 => ?_) (fun c6 => ?_)
  · skip
    exact rV E hr hlk (HB.eq hw (by rw [show k = 390 by omega])) dX4_keep_27
  · skip
    refine lv_aload_n E.1 E.2.1 dX4_keep_9 rfl (lv_at hl 0 rfl) ?_
    refine gX4_1 E hw mw_3_9 dX4_keep_10 ?_
    refine lv_iload_n E.1 E.2.1 dX4_keep_13 rfl (lv_at hl 1 rfl) ?_
    refine lv_aload_n E.1 E.2.1 dX4_keep_14 rfl (lv_at hl 0 rfl) ?_
    refine gX4_0 E hw mw_3_8 dX4_keep_15 ?_
    refine lv_iload_n E.1 E.2.1 dX4_keep_18 rfl (lv_at hl 1 rfl) ?_
    refine lN4_0 E hw (v := N k) (by omega) (rfl) dX4_keep_19 ?_
    refine sX4_1 E hw (by omega) dX4_keep_20 (fun H locs hw => ?_)
    refine lv_iincN (k := 1) (lv' := [(1, .int (nI (k + 1))), (0, .ref (a 0))]) E.1 E.2.1 dX4_keep_21 hl rfl (by decide) rfl (fun ls hl => ?_)
    refine lv_goto (tgt := 2) E.1 E.2.1 dX4_keep_24 (by decide) ?_
    exact ih (k + 1) (by omega) (by omega) _ _ _ (HB.eq hw (by rw [ax_ax, ax_s, cpA_s])) (lvh_eq (l := [(0, .ref (a 0)), (1, .int (nI (k + 1)))]) (lv_sub hl [1, 0] rfl) (rfl))
theorem YX4_comeBack : YV yX4_comeBack RX4 cX4_comeBack 2 none 0 := ⟨mw_24_19, mw_24_20, mw_1_5, mw_24_21, by decide +kernel⟩
set_option maxHeartbeats 4000000 in
set_option maxRecDepth 100000 in
theorem c_X4_comeBack (l : Launch) (G : GP) (a : Nat → Nat) (N K : NS) (x : MX) (hK : ∀ k, k < 390 → x.2 0 k = nI (K k)) : MV l yX4_comeBack (.code yX4_comeBack cX4_comeBack 2 none :: GW) ({ frames := 0, cells := 0, slots := 0, locals := 0 }) [.ref (a 0)] G ES (mN G a (N) (x)) (mN G a (K) (x)) := by
  refine MV.of (own := RX4) rfl rfl (Nat.le_of_ble_eq_true rfl) ?_
  intro pP eE sS mM below meth cC ls AA E hw hl hr hlk hE
  replace hl : lv_has ls 2 [(0, .ref (a 0))] := hl
  refine lv_iconst (v := nI 0) E.1 E.2.1 dX4_comeBack_0 (by decide) ?_
  refine lv_istore_n (lv' := [(1, .int (nI (0))), (0, .ref (a 0))]) E.1 E.2.1 dX4_comeBack_1 rfl hl (by decide) rfl (fun ls hl => ?_)
  refine W_ind1 (nL := 2) (P := fun k => k ≤ 390) (μ := fun k => 390 - k) (I := fun k => mN G a (cpN k K N) (x)) (L := fun k => [(0, .ref (a 0)), (1, .int (nI (k)))]) ?_ (0) (Nat.zero_le _) (HB.eq hw (by rw [cpN_0])) (lvh_eq (l := [(0, .ref (a 0)), (1, .int (nI (0)))]) (lv_sub hl [1, 0] rfl) (rfl))
  intro k hP ih H locs ls hw hl
  replace hw : HB G AA sS.heap (mN G a (cpN k K N) (x)) H locs := hw
  replace hl : lv_has ls 2 [(0, .ref (a 0)), (1, .int (nI (k)))] := hl
  refine lv_iload_n E.1 E.2.1 dX4_comeBack_2 rfl (lv_at hl 1 rfl) ?_
  refine lv_sipush (v := nI 390) E.1 E.2.1 dX4_comeBack_3 (by decide) ?_
  refine lv_icmp_geN (tgt := 27) E.1 E.2.1 (by omega) (by omega) dX4_comeBack_6 (by decide) (fun c6 => ?_) (fun c6 => ?_)
  · skip
    replace hw := hw.mcongr (M := K) (fun j hj => if_pos (by omega))
    exact rV E hr hlk (HB.eq hw (rfl)) dX4_comeBack_27
  · skip
    refine lv_aload_n E.1 E.2.1 dX4_comeBack_9 rfl (lv_at hl 0 rfl) ?_
    refine gX4_0 E hw mw_3_8 dX4_comeBack_10 ?_
    refine lv_iload_n E.1 E.2.1 dX4_comeBack_13 rfl (lv_at hl 1 rfl) ?_
    refine lv_aload_n E.1 E.2.1 dX4_comeBack_14 rfl (lv_at hl 0 rfl) ?_
    refine gX4_1 E hw mw_3_9 dX4_comeBack_15 ?_
    refine lv_iload_n E.1 E.2.1 dX4_comeBack_18 rfl (lv_at hl 1 rfl) ?_
    refine lX4_1 E hw (by omega) dX4_comeBack_19 ?_
    refine lv_eqi (y := nI (K k)) (hK k (by omega)) ?_
    refine sN4_0 E hw (by omega) dX4_comeBack_20 (fun H locs hw => ?_)
    refine lv_iincN (k := 1) (lv' := [(1, .int (nI (k + 1))), (0, .ref (a 0))]) E.1 E.2.1 dX4_comeBack_21 hl rfl (by decide) rfl (fun ls hl => ?_)
    refine lv_goto (tgt := 2) E.1 E.2.1 dX4_comeBack_24 (by decide) ?_
    exact ih (k + 1) (by omega) (by omega) _ _ _ (HB.eq hw (by rw [cpN_s])) (lvh_eq (l := [(0, .ref (a 0)), (1, .int (nI (k + 1)))]) (lv_sub hl [1, 0] rfl) (rfl))
theorem YX4_isMessage : YV yX4_isMessage RX4 cX4_isMessage 2 (some .boolean) 1 := ⟨mw_11_10, mw_11_11, mw_1_5, mw_11_12, by decide +kernel⟩
set_option maxHeartbeats 4000000 in
set_option maxRecDepth 100000 in
theorem c_X4_isMessage (l : Launch) (G : GP) (a : Nat → Nat) (N : NS) (x : MX) (p : Int32) (h6 : N 6 ≤ 60) : MI l yX4_isMessage (.code yX4_isMessage cX4_isMessage 2 (some .boolean) :: GW) ({ frames := 1, cells := 0, slots := 0, locals := 22 }) [.ref (a 0), .int (p)] G ES (mN G a (N) (x)) (mN G a (N) (x)) (zb (0 ≤ p ∧ p < nI (N 6))) := by
  refine MI.of (own := RX4) rfl rfl (Nat.le_of_ble_eq_true rfl) ?_
  intro pP eE sS mM below meth cC ls AA E hw hl hr hlk hE
  replace hl : lv_has ls 2 [(0, .ref (a 0)), (1, .int (p))] := hl
  refine lv_iload_n E.1 E.2.1 dX4_isMessage_0 rfl (lv_at hl 1 rfl) ?_
  refine lv_iconst (v := nI 0) E.1 E.2.1 dX4_isMessage_1 (by decide) ?_
  refine lv_aload_n E.1 E.2.1 dX4_isMessage_2 rfl (lv_at hl 0 rfl) ?_
  refine gX4_0 E hw mw_3_8 dX4_isMessage_3 ?_
  refine lv_bipush (v := nI 6) E.1 E.2.1 dX4_isMessage_6 (by decide) ?_
  refine lN4_0 E hw (v := N 6) (by omega) (rfl) dX4_isMessage_8 ?_
  refine lv_iconst (v := nI 1) E.1 E.2.1 dX4_isMessage_9 (by decide) ?_
  refine lv_isub E.1 E.2.1 dX4_isMessage_10 ?_
  refine lv_eqi (y := nI (N 6) - 1) (rfl) ?_
  refine callSI E (c_X4_in l G (p) (nI (0)) (nI (N 6) - 1)) mw_5_13 YX4_in ⟨rfl, rfl⟩ ⟨Nat.le_of_ble_eq_true rfl, Nat.le_of_ble_eq_true rfl⟩ ⟨Nat.zero_le _, Nat.zero_le _⟩ hw (w := []) (w' := []) (rr := mN G a (N) (x)) (big' := mN G a (N) (x)) (List.Perm.refl _) (List.Perm.refl _) rfl hl rfl (Nat.le_of_ble_eq_true rfl) dX4_isMessage_11 (fun H locs hw => ?_)
  refine lv_eqi (y := zb (0 ≤ p ∧ p < nI (N 6))) (by rw [zb_c (inPred (by omega))]) ?_
  exact rZ E hr hlk (HB.eq hw (rfl)) (rfl) (zb_nar _) dX4_isMessage_14
theorem YX4_isDeal : YV yX4_isDeal RX4 cX4_isDeal 2 (some .boolean) 1 := ⟨mw_18_15, mw_18_16, mw_1_5, mw_18_17, by decide +kernel⟩
set_option maxHeartbeats 4000000 in
set_option maxRecDepth 100000 in
theorem c_X4_isDeal (l : Launch) (G : GP) (a : Nat → Nat) (N : NS) (x : MX) (p : Int32) (h5 : N 5 ≤ 8) : MI l yX4_isDeal (.code yX4_isDeal cX4_isDeal 2 (some .boolean) :: GW) ({ frames := 1, cells := 0, slots := 0, locals := 22 }) [.ref (a 0), .int (p)] G ES (mN G a (N) (x)) (mN G a (N) (x)) (zb (0 ≤ p ∧ p < nI (N 5))) := by
  refine MI.of (own := RX4) rfl rfl (Nat.le_of_ble_eq_true rfl) ?_
  intro pP eE sS mM below meth cC ls AA E hw hl hr hlk hE
  replace hl : lv_has ls 2 [(0, .ref (a 0)), (1, .int (p))] := hl
  refine lv_iload_n E.1 E.2.1 dX4_isDeal_0 rfl (lv_at hl 1 rfl) ?_
  refine lv_iconst (v := nI 0) E.1 E.2.1 dX4_isDeal_1 (by decide) ?_
  refine lv_aload_n E.1 E.2.1 dX4_isDeal_2 rfl (lv_at hl 0 rfl) ?_
  refine gX4_0 E hw mw_3_8 dX4_isDeal_3 ?_
  refine lv_iconst (v := nI 5) E.1 E.2.1 dX4_isDeal_6 (by decide) ?_
  refine lN4_0 E hw (v := N 5) (by omega) (rfl) dX4_isDeal_7 ?_
  refine lv_iconst (v := nI 1) E.1 E.2.1 dX4_isDeal_8 (by decide) ?_
  refine lv_isub E.1 E.2.1 dX4_isDeal_9 ?_
  refine lv_eqi (y := nI (N 5) - 1) (rfl) ?_
  refine callSI E (c_X4_in l G (p) (nI (0)) (nI (N 5) - 1)) mw_5_13 YX4_in ⟨rfl, rfl⟩ ⟨Nat.le_of_ble_eq_true rfl, Nat.le_of_ble_eq_true rfl⟩ ⟨Nat.zero_le _, Nat.zero_le _⟩ hw (w := []) (w' := []) (rr := mN G a (N) (x)) (big' := mN G a (N) (x)) (List.Perm.refl _) (List.Perm.refl _) rfl hl rfl (Nat.le_of_ble_eq_true rfl) dX4_isDeal_10 (fun H locs hw => ?_)
  refine lv_eqi (y := zb (0 ≤ p ∧ p < nI (N 5))) (by rw [zb_c (inPred (by omega))]) ?_
  exact rZ E hr hlk (HB.eq hw (rfl)) (rfl) (zb_nar _) dX4_isDeal_13
/-! ===== the calls on both, but for texts, undo and slots ===== -/
set_option maxHeartbeats 1000000 in
theorem pr_set (l : Launch) (G : GP) (b a : Nat → Nat) (ad : Nat → Nat → Nat) {T : Nat} (hT : T + 6039 < 2 ^ 31) {v pd rv : Nat → Int32} {Ns : Nat → NS} {x : MX} (h : Rl T v pd rv Ns x) (e w : Int32) : PairOK l G b a ad yX3_set cX3_set 3 yX4_set cX4_set 4 [.int e, .int w] (XS (cW G b ad v pd rv Ns)) (T + 6039) v pd rv Ns x := by
  obtain ⟨nx, u, n, sv, C, s, hC⟩ := h
  obtain ⟨⟨hv0, hnx⟩, ⟨hv1, hu6, hu⟩, ⟨hv2, hsv⟩, ⟨hv3, hn1⟩, hPd, ⟨hrv, hrB⟩, hx2, ⟨hI, hDV, h4⟩, hH, hS⟩ := id hC
  have hT0 := hC.hT
  have hF := hI.1
  have h5 := hF.2.1
  have h6 := hF.1
  have hCu := hC.up (Nat.le_add_right T 6039)
  by_cases hv : vSet e w
  · obtain ⟨k, -, hk, rfl⟩ := nat_R (by decide) (by decide) hv.1
    obtain ⟨j, hj3, hjn, rfl⟩ : ∃ j, (k = 3 → j ≤ 1) ∧ (¬ k = 3 → 1 ≤ j ∧ j ≤ 50) ∧ w = nI j := by
      by_cases q : k = 3
      · obtain ⟨j, h1, h2, h3⟩ := nat_R (by decide) (by decide) (hv.2.1 (by rw [q]))
        exact ⟨j, fun _ => h2, fun z => absurd q z, h3⟩
      · obtain ⟨j, h1, h2, h3⟩ := nat_R (by decide) (by decide) (hv.2.2 (fun z => q ((nI_eq (by omega) (by decide)).mp z)))
        exact ⟨j, fun z => absurd z q, fun _ => ⟨h1, h2⟩, h3⟩
    have hD := hDV.un (k := k) (v := j) (by omega)
    have hM : okS (T + 6039) (un (Ns 0) k j) := ⟨hI.us (by omega) hj3 hjn, hD.1, by rw [hD.2]; omega⟩
    refine pair_mk ?_ ?_ (c_X3_set_ok l G b ad v pd rv Ns nx u hv0 hnx hv1 hu6 k j (by omega) hj3 hjn hF) (c_X4_set_ok l G a (Ns 0) x u False hu hT0 hu6 k j (by omega) hj3 hjn) rfl (va_up_self _ _ _).symm (hC.rcd hM (Nat.le_add_right T 6039)) <;> exact ⟨rfl, rfl, by decide, by decide⟩
  · refine pair_mk ?_ ?_ (c_X3_set_bad l G b ad v pd rv Ns nx u hv0 hnx hv1 hu6 e w hv) (c_X4_set_bad l G a (Ns 0) x e w hv) rfl (va_up_ne _ _ (by omega)).symm (hCu.note) <;> exact ⟨rfl, rfl, by decide, by decide⟩
set_option maxHeartbeats 1000000 in
theorem pr_willing (l : Launch) (G : GP) (b a : Nat → Nat) (ad : Nat → Nat → Nat) {T : Nat} (hT : T + 6039 < 2 ^ 31) {v pd rv : Nat → Int32} {Ns : Nat → NS} {x : MX} (h : Rl T v pd rv Ns x) (e w : Int32) : PairOK l G b a ad yX3_willing cX3_willing 3 yX4_willing cX4_willing 4 [.int e, .int w] ES (T + 6039) v pd rv Ns x := by
  obtain ⟨nx, u, n, sv, C, s, hC⟩ := h
  obtain ⟨⟨hv0, hnx⟩, ⟨hv1, hu6, hu⟩, ⟨hv2, hsv⟩, ⟨hv3, hn1⟩, hPd, ⟨hrv, hrB⟩, hx2, ⟨hI, hDV, h4⟩, hH, hS⟩ := id hC
  have hT0 := hC.hT
  have hF := hI.1
  have h5 := hF.2.1
  have h6 := hF.1
  have hCu := hC.up (Nat.le_add_right T 6039)
  by_cases h1 : nI 0 ≤ e ∧ e ≤ nI 3
  · by_cases h2 : nI 0 ≤ w ∧ w ≤ nI 1
    · obtain ⟨k, -, hk, rfl⟩ := nat_R (by decide) (by decide) h1
      obtain ⟨j, -, hj, rfl⟩ := nat_R (by decide) (by decide) h2
      have hD := hDV.un (k := 15 + k) (v := j) (by omega)
      have hM : okS (T + 6039) (un (Ns 0) (15 + k) j) := ⟨hI.uw (by omega) hj, hD.1, by rw [hD.2]; omega⟩
      refine pair_mk ?_ ?_ (c_X3_willing_ok l G b ad v pd rv Ns nx u hv0 hnx hv1 hu6 k j (by omega) hj hF) (c_X4_willing_ok l G a (Ns 0) x u False hu hT0 hu6 k j (by omega) hj) rfl (va_up_self _ _ _).symm (hC.rcd hM (Nat.le_add_right T 6039)) <;> exact ⟨rfl, rfl, by decide, by decide⟩
    · refine pair_mk ?_ ?_ (c_X3_willing_bad2 l G b ad v pd rv Ns nx u hv0 hnx hv1 hu6 e w h1 h2) (c_X4_willing_bad2 l G a (Ns 0) x e w h1 h2) rfl (va_up_ne _ _ (by omega)).symm (hCu.note) <;> exact ⟨rfl, rfl, by decide, by decide⟩
  · refine pair_mk ?_ ?_ (c_X3_willing_bad1 l G b ad v pd rv Ns nx u hv0 hnx hv1 hu6 e w h1) (c_X4_willing_bad1 l G a (Ns 0) x e w h1) rfl (va_up_ne _ _ (by omega)).symm (hCu.note) <;> exact ⟨rfl, rfl, by decide, by decide⟩
set_option maxHeartbeats 1000000 in
theorem pr_open (l : Launch) (G : GP) (b a : Nat → Nat) (ad : Nat → Nat → Nat) {T : Nat} (hT : T + 6039 < 2 ^ 31) {v pd rv : Nat → Int32} {Ns : Nat → NS} {x : MX} (h : Rl T v pd rv Ns x) (e : Int32) : PairOK l G b a ad yX3_open cX3_open 2 yX4_open cX4_open 3 [.int e] ES (T + 6039) v pd rv Ns x := by
  obtain ⟨nx, u, n, sv, C, s, hC⟩ := h
  obtain ⟨⟨hv0, hnx⟩, ⟨hv1, hu6, hu⟩, ⟨hv2, hsv⟩, ⟨hv3, hn1⟩, hPd, ⟨hrv, hrB⟩, hx2, ⟨hI, hDV, h4⟩, hH, hS⟩ := id hC
  have hT0 := hC.hT
  have hF := hI.1
  have h5 := hF.2.1
  have h6 := hF.1
  have hCu := hC.up (Nat.le_add_right T 6039)
  by_cases h1 : nI 1 ≤ e ∧ e ≤ nI 15
  · obtain ⟨S, hS1, hS2, rfl⟩ := nat_R (by decide) (by decide) h1
    have hm := c_X4_open_ok l G a (Ns 0) x u False hu hT0 hu6 S ⟨hS1, by omega⟩ hF
    by_cases hq : Ns 0 5 = 8 ∨ Ns 0 14 = 1
    · have hf : rOpen (Ns 0) < 0 := by
        unfold rOpen
        rcases hq with z | z
        · rw [if_pos z]; decide
        · by_cases q : Ns 0 5 = 8
          · rw [if_pos q]; decide
          · rw [if_neg q, if_pos z]; decide
      have hN : nOpen S (Ns 0) = Ns 0 := if_pos hq
      rw [if_pos hq] at hm
      refine pair_mk ?_ ?_ (c_X3_open_no l G b ad v pd rv Ns nx u hv0 hnx hv1 hu6 S ⟨hS1, by omega⟩ hI hf) (hm) rfl (va_up_self _ _ _).symm (hCu.note0 hN) <;> exact ⟨rfl, rfl, by decide, by decide⟩
    · have hf : ¬ rOpen (Ns 0) < 0 := by
        unfold rOpen
        rw [if_neg (fun z => hq (Or.inl z)), if_neg (fun z => hq (Or.inr z))]
        exact nI_pos (by omega)
      rw [if_neg hq] at hm
      have hD := hDV.opn (S := S)
      have hN : nOpen S (Ns 0) = mOpen S (Ns 0) := if_neg hq
      have hM : okS (T + 6039) (nOpen S (Ns 0)) := ⟨by rw [hN]; exact hI.opn (by omega) (fun z => hq (Or.inl z)), hD.1, by rw [hD.2]; omega⟩
      refine pair_mk ?_ ?_ (c_X3_open_ok l G b ad v pd rv Ns nx u hv0 hnx hv1 hu6 S ⟨hS1, by omega⟩ hI hf) (hm) rfl (va_up_self _ _ _).symm (hC.rcd hM (Nat.le_add_right T 6039)) <;> exact ⟨rfl, rfl, by decide, by decide⟩
  · refine pair_mk ?_ ?_ (c_X3_open_bad l G b ad v pd rv Ns nx u hv0 hnx hv1 hu6 e h1) (c_X4_open_bad l G a (Ns 0) x e h1) rfl (va_up_ne _ _ (by omega)).symm (hCu.note) <;> exact ⟨rfl, rfl, by decide, by decide⟩
set_option maxHeartbeats 1000000 in
theorem pr_deliver (l : Launch) (G : GP) (b a : Nat → Nat) (ad : Nat → Nat → Nat) {T : Nat} (hT : T + 6039 < 2 ^ 31) {v pd rv : Nat → Int32} {Ns : Nat → NS} {x : MX} (h : Rl T v pd rv Ns x) (e : Int32) : PairOK l G b a ad yX3_deliver cX3_deliver 2 yX4_deliver cX4_deliver 2 [.int e] ES (T + 6039) v pd rv Ns x := by
  obtain ⟨nx, u, n, sv, C, s, hC⟩ := h
  obtain ⟨⟨hv0, hnx⟩, ⟨hv1, hu6, hu⟩, ⟨hv2, hsv⟩, ⟨hv3, hn1⟩, hPd, ⟨hrv, hrB⟩, hx2, ⟨hI, hDV, h4⟩, hH, hS⟩ := id hC
  have hT0 := hC.hT
  have hF := hI.1
  have h5 := hF.2.1
  have h6 := hF.1
  have hCu := hC.up (Nat.le_add_right T 6039)
  by_cases h1 : 0 ≤ e ∧ e < nI (Ns 0 6)
  · obtain ⟨p, hp, rfl⟩ := nat_0 (by omega) h1
    have hD := hDV.dlv (hI.2.1 p hp).2.2.2.1
    have hM : okS (T + 6039) (mDlv p (Ns 0)) := ⟨hI.dlv hp, hD.1, by rw [hD.2]; omega⟩
    refine pair_mk ?_ ?_ (c_X3_deliver_ok l G b ad v pd rv Ns nx u hv0 hnx hv1 hu6 p hp hI) (c_X4_deliver_ok l G a (Ns 0) x u False hu hT0 hu6 p hp hF (hI.mk hp)) rfl (va_up_self _ _ _).symm (hC.rcd hM (Nat.le_add_right T 6039)) <;> exact ⟨rfl, rfl, by decide, by decide⟩
  · refine pair_mk ?_ ?_ (c_X3_deliver_bad l G b ad v pd rv Ns nx u hv0 hnx hv1 hu6 e h1) (c_X4_deliver_bad l G a (Ns 0) x e h6 h1) rfl (va_up_ne _ _ (by omega)).symm (hCu.note) <;> exact ⟨rfl, rfl, by decide, by decide⟩
set_option maxHeartbeats 1000000 in
theorem pr_lose (l : Launch) (G : GP) (b a : Nat → Nat) (ad : Nat → Nat → Nat) {T : Nat} (hT : T + 6039 < 2 ^ 31) {v pd rv : Nat → Int32} {Ns : Nat → NS} {x : MX} (h : Rl T v pd rv Ns x) (e : Int32) : PairOK l G b a ad yX3_lose cX3_lose 2 yX4_lose cX4_lose 2 [.int e] ES (T + 6039) v pd rv Ns x := by
  obtain ⟨nx, u, n, sv, C, s, hC⟩ := h
  obtain ⟨⟨hv0, hnx⟩, ⟨hv1, hu6, hu⟩, ⟨hv2, hsv⟩, ⟨hv3, hn1⟩, hPd, ⟨hrv, hrB⟩, hx2, ⟨hI, hDV, h4⟩, hH, hS⟩ := id hC
  have hT0 := hC.hT
  have hF := hI.1
  have h5 := hF.2.1
  have h6 := hF.1
  have hCu := hC.up (Nat.le_add_right T 6039)
  by_cases h1 : 0 ≤ e ∧ e < nI (Ns 0 6)
  · obtain ⟨p, hp, rfl⟩ := nat_0 (by omega) h1
    have hD := hDV.los (p := p)
    have hM : okS (T + 6039) (mLose p (Ns 0)) := ⟨hI.los hp, hD.1, by rw [hD.2]; omega⟩
    refine pair_mk ?_ ?_ (c_X3_lose_ok l G b ad v pd rv Ns nx u hv0 hnx hv1 hu6 p hp hI) (c_X4_lose_ok l G a (Ns 0) x u False hu hT0 hu6 p hp hF) rfl (va_up_self _ _ _).symm (hC.rcd hM (Nat.le_add_right T 6039)) <;> exact ⟨rfl, rfl, by decide, by decide⟩
  · refine pair_mk ?_ ?_ (c_X3_lose_bad l G b ad v pd rv Ns nx u hv0 hnx hv1 hu6 e h1) (c_X4_lose_bad l G a (Ns 0) x e h6 h1) rfl (va_up_ne _ _ (by omega)).symm (hCu.note) <;> exact ⟨rfl, rfl, by decide, by decide⟩
set_option maxHeartbeats 1000000 in
theorem pr_twice (l : Launch) (G : GP) (b a : Nat → Nat) (ad : Nat → Nat → Nat) {T : Nat} (hT : T + 6039 < 2 ^ 31) {v pd rv : Nat → Int32} {Ns : Nat → NS} {x : MX} (h : Rl T v pd rv Ns x) (e : Int32) : PairOK l G b a ad yX3_twice cX3_twice 2 yX4_twice cX4_twice 3 [.int e] ES (T + 6039) v pd rv Ns x := by
  obtain ⟨nx, u, n, sv, C, s, hC⟩ := h
  obtain ⟨⟨hv0, hnx⟩, ⟨hv1, hu6, hu⟩, ⟨hv2, hsv⟩, ⟨hv3, hn1⟩, hPd, ⟨hrv, hrB⟩, hx2, ⟨hI, hDV, h4⟩, hH, hS⟩ := id hC
  have hT0 := hC.hT
  have hF := hI.1
  have h5 := hF.2.1
  have h6 := hF.1
  have hCu := hC.up (Nat.le_add_right T 6039)
  by_cases h1 : 0 ≤ e ∧ e < nI (Ns 0 6)
  · obtain ⟨p, hp, rfl⟩ := nat_0 (by omega) h1
    by_cases hL : Ns 0 6 = 60
    · refine pair_mk ?_ ?_ (c_X3_twice_full l G b ad v pd rv Ns nx u hv0 hnx hv1 hu6 p hp hI hL) (c_X4_twice_full l G a (Ns 0) x p hp hF hL) rfl (va_up_ne _ _ (by omega)).symm (hCu.note) <;> exact ⟨rfl, rfl, by decide, by decide⟩
    · have hD := hDV.twi (p := p)
      have hM : okS (T + 6039) (mTwi p (Ns 0)) := ⟨hI.twi hp hL, hD.1, by rw [hD.2]; omega⟩
      refine pair_mk ?_ ?_ (c_X3_twice_ok l G b ad v pd rv Ns nx u hv0 hnx hv1 hu6 p hp hI hL) (c_X4_twice_ok l G a (Ns 0) x u False hu hT0 hu6 p hp hF hL) rfl (va_up_self _ _ _).symm (hC.rcd hM (Nat.le_add_right T 6039)) <;> exact ⟨rfl, rfl, by decide, by decide⟩
  · refine pair_mk ?_ ?_ (c_X3_twice_bad l G b ad v pd rv Ns nx u hv0 hnx hv1 hu6 e h1) (c_X4_twice_bad l G a (Ns 0) x e h6 h1) rfl (va_up_ne _ _ (by omega)).symm (hCu.note) <;> exact ⟨rfl, rfl, by decide, by decide⟩
theorem illN_le {N : NS} (h : FI N) : illN N ≤ 5 := by
  have h0 := h.il (w := 0) (by decide)
  have h1 := h.il (w := 1) (by decide)
  have h2 := h.il (w := 2) (by decide)
  have h3 := h.il (w := 3) (by decide)
  have h4 := h.il (w := 4) (by decide)
  show 0 + N (10 + 0) + N (10 + 1) + N (10 + 2) + N (10 + 3) + N (10 + 4) ≤ 5
  omega
set_option maxHeartbeats 1000000 in
theorem pr_fall (l : Launch) (G : GP) (b a : Nat → Nat) (ad : Nat → Nat → Nat) {T : Nat} (hT : T + 6039 < 2 ^ 31) {v pd rv : Nat → Int32} {Ns : Nat → NS} {x : MX} (h : Rl T v pd rv Ns x) (e : Int32) : PairOK l G b a ad yX3_fall cX3_fall 2 yX4_fall cX4_fall 3 [.int e] ES (T + 6039) v pd rv Ns x := by
  obtain ⟨nx, u, n, sv, C, s, hC⟩ := h
  obtain ⟨⟨hv0, hnx⟩, ⟨hv1, hu6, hu⟩, ⟨hv2, hsv⟩, ⟨hv3, hn1⟩, hPd, ⟨hrv, hrB⟩, hx2, ⟨hI, hDV, h4⟩, hH, hS⟩ := id hC
  have hT0 := hC.hT
  have hF := hI.1
  have h5 := hF.2.1
  have h6 := hF.1
  have hCu := hC.up (Nat.le_add_right T 6039)
  by_cases h1 : nI 0 ≤ e ∧ e ≤ nI 4
  · obtain ⟨k, -, hk, rfl⟩ := nat_R (by decide) (by decide) h1
    have hk5 : k < 5 := by omega
    have hm := c_X4_fall_ok l G a (Ns 0) x u False hu hT0 hu6 k hk5 hF
    by_cases hq : Ns 0 (10 + k) = 1
    · have hf : rFal k (Ns 0) < 0 := by unfold rFal; rw [if_pos hq]; decide
      have hN : nFal k (Ns 0) = Ns 0 := if_pos hq
      rw [if_pos hq] at hm
      refine pair_mk ?_ ?_ (c_X3_fall_no l G b ad v pd rv Ns nx u hv0 hnx hv1 hu6 k hk5 hF hf) (hm) rfl (va_up_self _ _ _).symm (hCu.note0 hN) <;> exact ⟨rfl, rfl, by decide, by decide⟩
    · have hf : ¬ rFal k (Ns 0) < 0 := by
        unfold rFal
        rw [if_neg hq]
        exact nI_pos (by have := illN_le (hF.fall hk5); omega)
      rw [if_neg hq] at hm
      have hD := dv_fal hDV hk5
      have hN : nFal k (Ns 0) = mFall k (Ns 0) := if_neg hq
      have hM : okS (T + 6039) (nFal k (Ns 0)) := ⟨by rw [hN]; exact hI.fall hk5, hD.1, by rw [hD.2]; omega⟩
      refine pair_mk ?_ ?_ (c_X3_fall_ok l G b ad v pd rv Ns nx u hv0 hnx hv1 hu6 k hk5 hF hf) (hm) rfl (va_up_self _ _ _).symm (hC.rcd hM (Nat.le_add_right T 6039)) <;> exact ⟨rfl, rfl, by decide, by decide⟩
  · refine pair_mk ?_ ?_ (c_X3_fall_bad l G b ad v pd rv Ns nx u hv0 hnx hv1 hu6 e h1) (c_X4_fall_bad l G a (Ns 0) x e h1) rfl (va_up_ne _ _ (by omega)).symm (hCu.note) <;> exact ⟨rfl, rfl, by decide, by decide⟩
set_option maxHeartbeats 1000000 in
theorem pr_rise (l : Launch) (G : GP) (b a : Nat → Nat) (ad : Nat → Nat → Nat) {T : Nat} (hT : T + 6039 < 2 ^ 31) {v pd rv : Nat → Int32} {Ns : Nat → NS} {x : MX} (h : Rl T v pd rv Ns x) (e : Int32) : PairOK l G b a ad yX3_rise cX3_rise 2 yX4_rise cX4_rise 2 [.int e] ES (T + 6039) v pd rv Ns x := by
  obtain ⟨nx, u, n, sv, C, s, hC⟩ := h
  obtain ⟨⟨hv0, hnx⟩, ⟨hv1, hu6, hu⟩, ⟨hv2, hsv⟩, ⟨hv3, hn1⟩, hPd, ⟨hrv, hrB⟩, hx2, ⟨hI, hDV, h4⟩, hH, hS⟩ := id hC
  have hT0 := hC.hT
  have hF := hI.1
  have h5 := hF.2.1
  have h6 := hF.1
  have hCu := hC.up (Nat.le_add_right T 6039)
  by_cases h1 : nI 0 ≤ e ∧ e ≤ nI 4
  · obtain ⟨k, -, hk, rfl⟩ := nat_R (by decide) (by decide) h1
    have hk5 : k < 5 := by omega
    have hm := c_X4_rise_ok l G a (Ns 0) x u False hu hT0 hu6 k hk5 hF
    by_cases hq : Ns 0 (10 + k) = 1
    · have hf : ¬ rRis k (Ns 0) < 0 := by
        unfold rRis
        rw [if_pos hq]
        exact nI_pos (by have := illN_le (hF.rise hk5); omega)
      rw [if_pos hq] at hm
      have hD := dv_ris hDV hk5
      have hN : nRis k (Ns 0) = mRise k (Ns 0) := if_pos hq
      have hM : okS (T + 6039) (nRis k (Ns 0)) := ⟨by rw [hN]; exact hI.rise hk5, hD.1, by rw [hD.2]; omega⟩
      refine pair_mk ?_ ?_ (c_X3_rise_ok l G b ad v pd rv Ns nx u hv0 hnx hv1 hu6 k hk5 hF hf) (hm) rfl (va_up_self _ _ _).symm (hC.rcd hM (Nat.le_add_right T 6039)) <;> exact ⟨rfl, rfl, by decide, by decide⟩
    · have hf : rRis k (Ns 0) < 0 := by unfold rRis; rw [if_neg hq]; decide
      have hN : nRis k (Ns 0) = Ns 0 := if_neg hq
      rw [if_neg hq] at hm
      refine pair_mk ?_ ?_ (c_X3_rise_no l G b ad v pd rv Ns nx u hv0 hnx hv1 hu6 k hk5 hF hf) (hm) rfl (va_up_self _ _ _).symm (hCu.note0 hN) <;> exact ⟨rfl, rfl, by decide, by decide⟩
  · refine pair_mk ?_ ?_ (c_X3_rise_bad l G b ad v pd rv Ns nx u hv0 hnx hv1 hu6 e h1) (c_X4_rise_bad l G a (Ns 0) x e h1) rfl (va_up_ne _ _ (by omega)).symm (hCu.note) <;> exact ⟨rfl, rfl, by decide, by decide⟩
set_option maxHeartbeats 1000000 in
theorem pr_ticks (l : Launch) (G : GP) (b a : Nat → Nat) (ad : Nat → Nat → Nat) {T : Nat} (hT : T + 6039 < 2 ^ 31) {v pd rv : Nat → Int32} {Ns : Nat → NS} {x : MX} (h : Rl T v pd rv Ns x) (e : Int32) : PairOK l G b a ad yX3_ticks cX3_ticks 2 yX4_ticks cX4_ticks 3 [.int e] ES (T + 6039) v pd rv Ns x := by
  obtain ⟨nx, u, n, sv, C, s, hC⟩ := h
  obtain ⟨⟨hv0, hnx⟩, ⟨hv1, hu6, hu⟩, ⟨hv2, hsv⟩, ⟨hv3, hn1⟩, hPd, ⟨hrv, hrB⟩, hx2, ⟨hI, hDV, h4⟩, hH, hS⟩ := id hC
  have hT0 := hC.hT
  have hF := hI.1
  have h5 := hF.2.1
  have h6 := hF.1
  have hCu := hC.up (Nat.le_add_right T 6039)
  by_cases h1 : nI 1 ≤ e ∧ e ≤ nI 100
  · obtain ⟨t, ht1, ht2, rfl⟩ := nat_R (by decide) (by decide) h1
    have hD := hDV.ticks t
    have hM : okS (T + 6039) (mTicks t (Ns 0)) := ⟨hI.ticks t, hD.1, by rw [hD.2]; omega⟩
    refine pair_mk ?_ ?_ (c_X3_ticks_ok l G b ad v pd rv Ns nx u hv0 hnx hv1 hu6 t ⟨ht1, ht2⟩ hF (by rw [hD.2]; omega)) (c_X4_ticks_ok l G a (Ns 0) x u False hu hT0 hu6 t ⟨ht1, ht2⟩ hF) rfl (va_up_self _ _ _).symm (hC.rcd hM (Nat.le_add_right T 6039)) <;> exact ⟨rfl, rfl, by decide, by decide⟩
  · refine pair_mk ?_ ?_ (c_X3_ticks_bad l G b ad v pd rv Ns nx u hv0 hnx hv1 hu6 e h1) (c_X4_ticks_bad l G a (Ns 0) x e h1) rfl (va_up_ne _ _ (by omega)).symm (hCu.note) <;> exact ⟨rfl, rfl, by decide, by decide⟩
set_option maxHeartbeats 1000000 in
theorem pr_ofDeal (l : Launch) (G : GP) (b a : Nat → Nat) (ad : Nat → Nat → Nat) {T : Nat} (hT : T + 6039 < 2 ^ 31) {v pd rv : Nat → Int32} {Ns : Nat → NS} {x : MX} (h : Rl T v pd rv Ns x) (e w : Int32) : PairOK l G b a ad yX3_ofDeal cX3_ofDeal 3 yX4_ofDeal cX4_ofDeal 3 [.int e, .int w] ES (T + 6039) v pd rv Ns x := by
  obtain ⟨nx, u, n, sv, C, s, hC⟩ := h
  obtain ⟨⟨hv0, hnx⟩, ⟨hv1, hu6, hu⟩, ⟨hv2, hsv⟩, ⟨hv3, hn1⟩, hPd, ⟨hrv, hrB⟩, hx2, ⟨hI, hDV, h4⟩, hH, hS⟩ := id hC
  have hT0 := hC.hT
  have hF := hI.1
  have h5 := hF.2.1
  have h6 := hF.1
  have hCu := hC.up (Nat.le_add_right T 6039)
  by_cases h1 : 0 ≤ e ∧ e < nI (Ns 0 5)
  · obtain ⟨d, hd, rfl⟩ := nat_0 (by omega) h1
    by_cases h2 : nI 0 ≤ w ∧ w ≤ nI 8
    · obtain ⟨k, -, hk, rfl⟩ := nat_R (by decide) (by decide) h2
      refine pair_mk ?_ ?_ (c_X3_ofDeal_ok l G b ad v pd rv Ns d hd hF k hk) (c_X4_ofDeal_ok l G a (Ns 0) x d hd hF k hk) rfl rfl (hCu) <;> exact ⟨rfl, rfl, by decide, by decide⟩
    · refine pair_mk ?_ ?_ (c_X3_ofDeal_bad2 l G b ad v pd rv Ns d hd hF w h2) (c_X4_ofDeal_bad2 l G a (Ns 0) x d hd hF w h2) rfl rfl (hCu) <;> exact ⟨rfl, rfl, by decide, by decide⟩
  · refine pair_mk ?_ ?_ (c_X3_ofDeal_bad1 l G b ad v pd rv Ns e h1 w) (c_X4_ofDeal_bad1 l G a (Ns 0) x e h5 h1 w) rfl rfl (hCu) <;> exact ⟨rfl, rfl, by decide, by decide⟩
set_option maxHeartbeats 1000000 in
theorem pr_at (l : Launch) (G : GP) (b a : Nat → Nat) (ad : Nat → Nat → Nat) {T : Nat} (hT : T + 6039 < 2 ^ 31) {v pd rv : Nat → Int32} {Ns : Nat → NS} {x : MX} (h : Rl T v pd rv Ns x) (e w : Int32) : PairOK l G b a ad yX3_at cX3_at 3 yX4_at cX4_at 3 [.int e, .int w] ES (T + 6039) v pd rv Ns x := by
  obtain ⟨nx, u, n, sv, C, s, hC⟩ := h
  obtain ⟨⟨hv0, hnx⟩, ⟨hv1, hu6, hu⟩, ⟨hv2, hsv⟩, ⟨hv3, hn1⟩, hPd, ⟨hrv, hrB⟩, hx2, ⟨hI, hDV, h4⟩, hH, hS⟩ := id hC
  have hT0 := hC.hT
  have hF := hI.1
  have h5 := hF.2.1
  have h6 := hF.1
  have hCu := hC.up (Nat.le_add_right T 6039)
  by_cases h1 : (0 ≤ e ∧ e < nI (Ns 0 5)) ∧ (nI 0 ≤ w ∧ w ≤ nI 3)
  · obtain ⟨d, hd, rfl⟩ := nat_0 (by omega) h1.1
    obtain ⟨k, -, hk, rfl⟩ := nat_R (by decide) (by decide) h1.2
    refine pair_mk ?_ ?_ (c_X3_at_ok l G b ad v pd rv Ns d hd hF k (by omega)) (c_X4_at_ok l G a (Ns 0) x d hd hF k (by omega)) rfl rfl (hCu) <;> exact ⟨rfl, rfl, by decide, by decide⟩
  · refine pair_mk ?_ ?_ (c_X3_at_bad l G b ad v pd rv Ns e w h1) (c_X4_at_bad l G a (Ns 0) x e w h5 h1) rfl rfl (hCu) <;> exact ⟨rfl, rfl, by decide, by decide⟩
set_option maxHeartbeats 1000000 in
theorem pr_message (l : Launch) (G : GP) (b a : Nat → Nat) (ad : Nat → Nat → Nat) {T : Nat} (hT : T + 6039 < 2 ^ 31) {v pd rv : Nat → Int32} {Ns : Nat → NS} {x : MX} (h : Rl T v pd rv Ns x) (e w : Int32) : PairOK l G b a ad yX3_message cX3_message 3 yX4_message cX4_message 3 [.int e, .int w] ES (T + 6039) v pd rv Ns x := by
  obtain ⟨nx, u, n, sv, C, s, hC⟩ := h
  obtain ⟨⟨hv0, hnx⟩, ⟨hv1, hu6, hu⟩, ⟨hv2, hsv⟩, ⟨hv3, hn1⟩, hPd, ⟨hrv, hrB⟩, hx2, ⟨hI, hDV, h4⟩, hH, hS⟩ := id hC
  have hT0 := hC.hT
  have hF := hI.1
  have h5 := hF.2.1
  have h6 := hF.1
  have hCu := hC.up (Nat.le_add_right T 6039)
  by_cases h1 : 0 ≤ e ∧ e < nI (Ns 0 6)
  · obtain ⟨p, hp, rfl⟩ := nat_0 (by omega) h1
    by_cases h2 : nI 0 ≤ w ∧ w ≤ nI 3
    · obtain ⟨k, -, hk, rfl⟩ := nat_R (by decide) (by decide) h2
      refine pair_mk ?_ ?_ (c_X3_message_ok l G b ad v pd rv Ns p hp hF k (by omega)) (c_X4_message_ok l G a (Ns 0) x p hp hF k (by omega)) rfl rfl (hCu) <;> exact ⟨rfl, rfl, by decide, by decide⟩
    · refine pair_mk ?_ ?_ (c_X3_message_bad2 l G b ad v pd rv Ns p hp hF w h2) (c_X4_message_bad2 l G a (Ns 0) x p hp hF w h2) rfl rfl (hCu) <;> exact ⟨rfl, rfl, by decide, by decide⟩
  · refine pair_mk ?_ ?_ (c_X3_message_bad1 l G b ad v pd rv Ns e h1 w) (c_X4_message_bad1 l G a (Ns 0) x e h6 h1 w) rfl rfl (hCu) <;> exact ⟨rfl, rfl, by decide, by decide⟩
set_option maxHeartbeats 1000000 in
theorem pr_who (l : Launch) (G : GP) (b a : Nat → Nat) (ad : Nat → Nat → Nat) {T : Nat} (hT : T + 6039 < 2 ^ 31) {v pd rv : Nat → Int32} {Ns : Nat → NS} {x : MX} (h : Rl T v pd rv Ns x) (e w : Int32) : PairOK l G b a ad yX3_who cX3_who 3 yX4_who cX4_who 3 [.int e, .int w] ES (T + 6039) v pd rv Ns x := by
  obtain ⟨nx, u, n, sv, C, s, hC⟩ := h
  obtain ⟨⟨hv0, hnx⟩, ⟨hv1, hu6, hu⟩, ⟨hv2, hsv⟩, ⟨hv3, hn1⟩, hPd, ⟨hrv, hrB⟩, hx2, ⟨hI, hDV, h4⟩, hH, hS⟩ := id hC
  have hT0 := hC.hT
  have hF := hI.1
  have h5 := hF.2.1
  have h6 := hF.1
  have hCu := hC.up (Nat.le_add_right T 6039)
  by_cases h1 : nI 0 ≤ e ∧ e ≤ nI 4
  · obtain ⟨d, -, hd, rfl⟩ := nat_R (by decide) (by decide) h1
    have hm : ∀ p, p < Ns 0 6 → Ns 0 (150 + 4 * p + 3) < 2 ^ 31 := fun p hp => by have := (hI.2.1 p hp).2.2.2.1; omega
    by_cases h2 : nI 0 ≤ w ∧ w ≤ nI 4
    · obtain ⟨k, -, hk, rfl⟩ := nat_R (by decide) (by decide) h2
      refine pair_mk ?_ ?_ (c_X3_who_ok l G b ad v pd rv Ns d k (by omega) (by omega) hF hm) (c_X4_who_ok l G a (Ns 0) x d k (by omega) (by omega) hF hm) rfl rfl (hCu) <;> exact ⟨rfl, rfl, by decide, by decide⟩
    · refine pair_mk ?_ ?_ (c_X3_who_bad2 l G b ad v pd rv Ns d (by omega) w h2) (c_X4_who_bad2 l G a (Ns 0) x d (by omega) w h2) rfl rfl (hCu) <;> exact ⟨rfl, rfl, by decide, by decide⟩
  · refine pair_mk ?_ ?_ (c_X3_who_bad1 l G b ad v pd rv Ns e h1 w) (c_X4_who_bad1 l G a (Ns 0) x e h1 w) rfl rfl (hCu) <;> exact ⟨rfl, rfl, by decide, by decide⟩
set_option maxHeartbeats 1000000 in
theorem pr_count (l : Launch) (G : GP) (b a : Nat → Nat) (ad : Nat → Nat → Nat) {T : Nat} (hT : T + 6039 < 2 ^ 31) {v pd rv : Nat → Int32} {Ns : Nat → NS} {x : MX} (h : Rl T v pd rv Ns x) (e : Int32) : PairOK l G b a ad yX3_count cX3_count 2 yX4_count cX4_count 2 [.int e] ES (T + 6039) v pd rv Ns x := by
  obtain ⟨nx, u, n, sv, C, s, hC⟩ := h
  obtain ⟨⟨hv0, hnx⟩, ⟨hv1, hu6, hu⟩, ⟨hv2, hsv⟩, ⟨hv3, hn1⟩, hPd, ⟨hrv, hrB⟩, hx2, ⟨hI, hDV, h4⟩, hH, hS⟩ := id hC
  have hT0 := hC.hT
  have hF := hI.1
  have h5 := hF.2.1
  have h6 := hF.1
  have hCu := hC.up (Nat.le_add_right T 6039)
  by_cases h1 : nI 0 ≤ e ∧ e ≤ nI 13
  · obtain ⟨k, -, hk, rfl⟩ := nat_R (by decide) (by decide) h1
    by_cases k5 : k = 5
    · subst k5
      refine pair_mk ?_ ?_ (c_X3_count_5 l G b ad v pd rv Ns) (c_X4_count_ok l G a (Ns 0) x 5 (by decide) hF) (by rw [if_neg (by decide), if_pos rfl, hn1, hv3]) rfl (hCu) <;> exact ⟨rfl, rfl, by decide, by decide⟩
    · by_cases k6 : k = 6
      · subst k6
        refine pair_mk ?_ ?_ (c_X3_count_6 l G b ad v pd rv Ns) (c_X4_count_ok l G a (Ns 0) x 6 (by decide) hF) (by rw [if_neg (by decide), if_neg (by decide), if_pos rfl, hu, hv1]) rfl (hCu) <;> exact ⟨rfl, rfl, by decide, by decide⟩
      · refine pair_mk ?_ ?_ (c_X3_count_ok l G b ad v pd rv Ns k (by omega) k5 k6 hF hDV) (c_X4_count_ok l G a (Ns 0) x k (by omega) hF) (by by_cases q : k < 5; (rw [if_pos q, if_pos q]); (rw [if_neg q, if_neg k5, if_neg k6, if_neg q])) rfl (hCu) <;> exact ⟨rfl, rfl, by decide, by decide⟩
  · refine pair_mk ?_ ?_ (c_X3_count_bad l G b ad v pd rv Ns e h1) (c_X4_count_bad l G a (Ns 0) x e h1) rfl rfl (hCu) <;> exact ⟨rfl, rfl, by decide, by decide⟩
set_option maxHeartbeats 1000000 in
theorem pr_sure (l : Launch) (G : GP) (b a : Nat → Nat) (ad : Nat → Nat → Nat) {T : Nat} (hT : T + 6039 < 2 ^ 31) {v pd rv : Nat → Int32} {Ns : Nat → NS} {x : MX} (h : Rl T v pd rv Ns x) (e : Int32) : PairOK l G b a ad yX3_sure cX3_sure 2 yX4_sure cX4_sure 3 [.int e] ES (T + 6039) v pd rv Ns x := by
  obtain ⟨nx, u, n, sv, C, s, hC⟩ := h
  obtain ⟨⟨hv0, hnx⟩, ⟨hv1, hu6, hu⟩, ⟨hv2, hsv⟩, ⟨hv3, hn1⟩, hPd, ⟨hrv, hrB⟩, hx2, ⟨hI, hDV, h4⟩, hH, hS⟩ := id hC
  have hT0 := hC.hT
  have hF := hI.1
  have h5 := hF.2.1
  have h6 := hF.1
  have hCu := hC.up (Nat.le_add_right T 6039)
  by_cases h1 : 0 ≤ e ∧ e < nI (Ns 0 5)
  · obtain ⟨d, hd, rfl⟩ := nat_0 (by omega) h1
    refine pair_mk ?_ ?_ (c_X3_sure_ok l G b ad v pd rv Ns d hd hF) (c_X4_sure_ok l G a (Ns 0) x d hd hF) rfl rfl (hCu) <;> exact ⟨rfl, rfl, by decide, by decide⟩
  · refine pair_mk ?_ ?_ (c_X3_sure_bad1 l G b ad v pd rv Ns e h1) (c_X4_sure_bad1 l G a (Ns 0) x e h5 h1) rfl rfl (hCu) <;> exact ⟨rfl, rfl, by decide, by decide⟩
set_option maxHeartbeats 1000000 in
theorem pr_couldAsk (l : Launch) (G : GP) (b a : Nat → Nat) (ad : Nat → Nat → Nat) {T : Nat} (hT : T + 6039 < 2 ^ 31) {v pd rv : Nat → Int32} {Ns : Nat → NS} {x : MX} (h : Rl T v pd rv Ns x) (e : Int32) : PairOK l G b a ad yX3_couldAsk cX3_couldAsk 2 yX4_couldAsk cX4_couldAsk 4 [.int e] ES (T + 6039) v pd rv Ns x := by
  obtain ⟨nx, u, n, sv, C, s, hC⟩ := h
  obtain ⟨⟨hv0, hnx⟩, ⟨hv1, hu6, hu⟩, ⟨hv2, hsv⟩, ⟨hv3, hn1⟩, hPd, ⟨hrv, hrB⟩, hx2, ⟨hI, hDV, h4⟩, hH, hS⟩ := id hC
  have hT0 := hC.hT
  have hF := hI.1
  have h5 := hF.2.1
  have h6 := hF.1
  have hCu := hC.up (Nat.le_add_right T 6039)
  by_cases h1 : 0 ≤ e ∧ e < nI (Ns 0 5)
  · obtain ⟨d, hd, rfl⟩ := nat_0 (by omega) h1
    refine pair_mk ?_ ?_ (c_X3_couldAsk_ok l G b ad v pd rv Ns d hd hF) (c_X4_couldAsk_ok l G a (Ns 0) x d hd hF) rfl rfl (hCu) <;> exact ⟨rfl, rfl, by decide, by decide⟩
  · refine pair_mk ?_ ?_ (c_X3_couldAsk_bad1 l G b ad v pd rv Ns e h1) (c_X4_couldAsk_bad1 l G a (Ns 0) x e h5 h1) rfl rfl (hCu) <;> exact ⟨rfl, rfl, by decide, by decide⟩
set_option maxHeartbeats 1000000 in
theorem pr_settledIn (l : Launch) (G : GP) (b a : Nat → Nat) (ad : Nat → Nat → Nat) {T : Nat} (hT : T + 6039 < 2 ^ 31) {v pd rv : Nat → Int32} {Ns : Nat → NS} {x : MX} (h : Rl T v pd rv Ns x) (e : Int32) : PairOK l G b a ad yX3_settledIn cX3_settledIn 3 yX4_settledIn cX4_settledIn 3 [.int e] ES (T + 6039) v pd rv Ns x := by
  obtain ⟨nx, u, n, sv, C, s, hC⟩ := h
  obtain ⟨⟨hv0, hnx⟩, ⟨hv1, hu6, hu⟩, ⟨hv2, hsv⟩, ⟨hv3, hn1⟩, hPd, ⟨hrv, hrB⟩, hx2, ⟨hI, hDV, h4⟩, hH, hS⟩ := id hC
  have hT0 := hC.hT
  have hF := hI.1
  have h5 := hF.2.1
  have h6 := hF.1
  have hCu := hC.up (Nat.le_add_right T 6039)
  by_cases h1 : 0 ≤ e ∧ e < nI (Ns 0 5)
  · obtain ⟨d, hd, rfl⟩ := nat_0 (by omega) h1
    refine pair_mk ?_ ?_ (c_X3_settledIn_ok l G b ad v pd rv Ns d hd hI) (c_X4_settledIn_ok l G a (Ns 0) x d hd hI) rfl (by rw [va_uu]; exact (va_up_ne _ _ (by decide)).symm) (by rw [va_uu]; exact hCu.trial) <;> exact ⟨rfl, rfl, by decide, by decide⟩
  · refine pair_mk ?_ ?_ (c_X3_settledIn_bad1 l G b ad v pd rv Ns e h1) (c_X4_settledIn_bad1 l G a (Ns 0) x e h5 h1) rfl rfl (hCu) <;> exact ⟨rfl, rfl, by decide, by decide⟩
set_option maxHeartbeats 1000000 in
theorem pr_underwayIn (l : Launch) (G : GP) (b a : Nat → Nat) (ad : Nat → Nat → Nat) {T : Nat} (hT : T + 6039 < 2 ^ 31) {v pd rv : Nat → Int32} {Ns : Nat → NS} {x : MX} (h : Rl T v pd rv Ns x) (e : Int32) : PairOK l G b a ad yX3_underwayIn cX3_underwayIn 3 yX4_underwayIn cX4_underwayIn 3 [.int e] ES (T + 6039) v pd rv Ns x := by
  obtain ⟨nx, u, n, sv, C, s, hC⟩ := h
  obtain ⟨⟨hv0, hnx⟩, ⟨hv1, hu6, hu⟩, ⟨hv2, hsv⟩, ⟨hv3, hn1⟩, hPd, ⟨hrv, hrB⟩, hx2, ⟨hI, hDV, h4⟩, hH, hS⟩ := id hC
  have hT0 := hC.hT
  have hF := hI.1
  have h5 := hF.2.1
  have h6 := hF.1
  have hCu := hC.up (Nat.le_add_right T 6039)
  by_cases h1 : nI 1 ≤ e ∧ e ≤ nI 50
  · obtain ⟨t, ht1, ht2, rfl⟩ := nat_R (by decide) (by decide) h1
    refine pair_mk ?_ ?_ (c_X3_underwayIn_ok l G b ad v pd rv Ns t ⟨ht1, ht2⟩ hI) (c_X4_underwayIn_ok l G a (Ns 0) x t ⟨ht1, ht2⟩ hI) rfl (va_up_ne _ _ (by decide)).symm (hCu.trial) <;> exact ⟨rfl, rfl, by decide, by decide⟩
  · refine pair_mk ?_ ?_ (c_X3_underwayIn_bad l G b ad v pd rv Ns e h1) (c_X4_underwayIn_bad l G a (Ns 0) x e h1) rfl rfl (hCu) <;> exact ⟨rfl, rfl, by decide, by decide⟩
set_option maxHeartbeats 1000000 in
theorem pr_worstLoss (l : Launch) (G : GP) (b a : Nat → Nat) (ad : Nat → Nat → Nat) {T : Nat} (hT : T + 6039 < 2 ^ 31) {v pd rv : Nat → Int32} {Ns : Nat → NS} {x : MX} (h : Rl T v pd rv Ns x) (e w : Int32) : PairOK l G b a ad yX3_worstLoss cX3_worstLoss 7 yX4_worstLoss cX4_worstLoss 8 [.int e, .int w] ES (T + 6039) v pd rv Ns x := by
  obtain ⟨nx, u, n, sv, C, s, hC⟩ := h
  obtain ⟨⟨hv0, hnx⟩, ⟨hv1, hu6, hu⟩, ⟨hv2, hsv⟩, ⟨hv3, hn1⟩, hPd, ⟨hrv, hrB⟩, hx2, ⟨hI, hDV, h4⟩, hH, hS⟩ := id hC
  have hT0 := hC.hT
  have hF := hI.1
  have h5 := hF.2.1
  have h6 := hF.1
  have hCu := hC.up (Nat.le_add_right T 6039)
  by_cases h1 : 0 ≤ e ∧ e < nI (Ns 0 5)
  · obtain ⟨d, hd, rfl⟩ := nat_0 (by omega) h1
    by_cases h2 : nI 0 ≤ w ∧ w ≤ nI 1
    · obtain ⟨k, -, hk, rfl⟩ := nat_R (by decide) (by decide) h2
      obtain ⟨ms, hms, hst, hbe⟩ := wq_ex (d := d) (N := Ns 0)
      refine pair_mk ?_ ?_ (c_X3_worstLoss_ok l G b ad v pd rv Ns d hd hI k ms (by omega) hms hst hbe) (c_X4_worstLoss_ok l G a (Ns 0) x d hd hI k (by omega)) rfl (va_up_ne _ _ (by decide)).symm (hCu.trial) <;> exact ⟨rfl, rfl, by decide, by decide⟩
    · refine pair_mk ?_ ?_ (c_X3_worstLoss_bad2 l G b ad v pd rv Ns d hd hI w h2) (c_X4_worstLoss_bad2 l G a (Ns 0) x d hd hF w h2) rfl rfl (hCu) <;> exact ⟨rfl, rfl, by decide, by decide⟩
  · refine pair_mk ?_ ?_ (c_X3_worstLoss_bad1 l G b ad v pd rv Ns e h1 w) (c_X4_worstLoss_bad1 l G a (Ns 0) x e h5 h1 w) rfl rfl (hCu) <;> exact ⟨rfl, rfl, by decide, by decide⟩

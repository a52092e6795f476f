/-! ===== the calls on both: texts, undo, slots ===== -/
theorem RC.wipe {T nx u n sv : Nat} {C : Nat → Nat} {s : AS} {v pd rv : Nat → Int32} {Ns : Nat → NS} {x : MX} (h : RC T nx u n sv C s v pd rv Ns x) : RC T nx u 0 sv C s (upd v 3 (nI 0)) pd rv Ns (sx x 1 (nI 0)) := by
  obtain ⟨h1, h2, h3, h4, h5, h6, h7, h8, h9, h10⟩ := h
  exact ⟨h1, h2, h3, ⟨rfl, rfl⟩, ⟨Nat.zero_le _, fun j hj => absurd hj (Nat.not_lt_zero _), fun j hj => absurd hj (Nat.not_lt_zero _), fun j hj => absurd hj (Nat.not_lt_zero _)⟩, h6, h7, h8, h9, h10⟩
theorem RC.rd {T nx u n sv : Nat} {C : Nat → Nat} {s s' : AS} {v pd rv rv' : Nat → Int32} {Ns : Nat → NS} {x : MX} (h : RC T nx u n sv C s v pd rv Ns x) (e : rv' = rvO s') (hs : rB s') : RC T nx u n sv C s' v pd rv' Ns x := by
  obtain ⟨h1, h2, h3, h4, h5, h6, h7, h8, h9, h10⟩ := h
  exact ⟨h1, h2, h3, h4, h5, ⟨e, hs⟩, h7, h8, h9, h10⟩
theorem cE_60 {C : Nat → Nat} {n kf : Nat} {s : AS} (hkf : endR C n s kf) (h : kf = n) (h60 : n ≤ 60) : cE C n + 1 ≤ 60 := by
  rcases Nat.eq_zero_or_pos n with z | z
  · subst z
    exact Nat.le_of_ble_eq_true rfl
  · have h0 := hkf.2.1 0 (by omega)
    have hC : ¬ C 0 = 59 := by
      intro y
      have e : tk (rg C s 0) (C 0) = none := by
        rw [y]
        show (if (59 : Nat) = 59 then tkE (rg C s 0) else _) = none
        rw [if_pos rfl]
        exact if_neg (fun q => by rcases q with q | q | q; exact absurd (show (0 : Nat) = 1 from q.1) (by decide); exact absurd (show (0 : Nat) = 2 from q.1) (by decide); exact absurd (show (0 : Nat) = 5 from q) (by decide))
      rw [e] at h0
      exact absurd h0 (by decide)
    have key : ∀ i, cE C (i + 1) ≤ i := by
      intro i
      induction i with
      | zero => rw [cE, if_neg hC]; exact Nat.le_refl _
      | succ i ih => rw [cE]; split <;> omega
    have := key (n - 1)
    rw [show n - 1 + 1 = n by omega] at this
    omega
theorem or_t4 : ∀ sv, sv < 4 → ∀ s, s < 2 → sv ||| 2 ^ s < 4 := by decide
theorem or_tb : ∀ sv, sv < 4 → ∀ s, s < 2 → ∀ t, t < 2 → ((sv ||| 2 ^ s).testBit t = true ↔ (t = s ∨ sv.testBit t = true)) := by decide
theorem hcp_in {b k : Nat} {N : NS} {h : Nat → Int32} (hk : k < 390) : hcp b 390 N h (b + k) = nI (N k) := by
  unfold hcp
  rw [if_pos (by omega), show b + k - b = k by omega]
theorem hcp_out {b j : Nat} {N : NS} {h : Nat → Int32} (hj : j < b ∨ b + 390 ≤ j) : hcp b 390 N h j = h j := by
  unfold hcp
  exact if_neg (by omega)
theorem PadR.app {n k X : Nat} {C : Nat → Nat} {pd mp : Nat → Int32} (h : PadR n C pd mp) (hk : ch 8 X = some k) (hf : n + k ≤ 60) : PadR (n + k) (fun j => if j < n then C j else X / 256 ^ (n + k - 1 - j) % 256) (cP X n k k pd) (cP X n k k mp) := by
  obtain ⟨h1, h2, h3, h4⟩ := h
  have hb := (ch_le 8 X k hk).2
  have key : ∀ f : Nat → Int32, (∀ j, j < n → f j = nI (C j)) → ∀ j, j < n + k → cP X n k k f j = nI (if j < n then C j else X / 256 ^ (n + k - 1 - j) % 256) := by
    intro f hf j hj
    unfold cP
    by_cases q : j < n
    · rw [if_neg (by omega), if_pos q]; exact hf j q
    · rw [if_pos (by omega), if_neg q]
  refine ⟨hf, key pd h2, key mp h3, fun j hj => ?_⟩
  show 33 ≤ (if j < n then C j else X / 256 ^ (n + k - 1 - j) % 256) ∧ (if j < n then C j else X / 256 ^ (n + k - 1 - j) % 256) < 127
  by_cases q : j < n
  · rw [if_pos q]; exact h4 j q
  · rw [if_neg q]
    have := hb (n + k - 1 - j) (by omega)
    omega
set_option maxHeartbeats 1000000 in
theorem pr_put (l : Launch) (G : GP) (b a : Nat → Nat) (ad : Nat → Nat → Nat) {T : Nat} (hT : T + 6039 < 2 ^ 31) {v pd rv : Nat → Int32} {Ns : Nat → NS} {x : MX} (h : Rl T v pd rv Ns x) (z : Int64) : PairOK l G b a ad yX3_put cX3_put 5 yX4_put cX4_put 7 [.long z] ES (T + 6039) v pd rv Ns x := by
  obtain ⟨nx, u, n, sv, C, s, hC⟩ := h
  obtain ⟨⟨hv0, hnx⟩, ⟨hv1, hu6, hu⟩, ⟨hv2, hsv⟩, ⟨hv3, hn1⟩, hPd, ⟨hrv, hrB⟩, hx2, ⟨hI, hDV, h4⟩, hH, hS⟩ := id hC
  have hT0 := hC.hT
  have hF := hI.1
  have h5 := hF.2.1
  have h6 := hF.1
  have hCu := hC.up (Nat.le_add_right T 6039)
  obtain ⟨X, hX, rfl⟩ : ∃ X : Nat, X < 2 ^ 64 ∧ z = nL X := ⟨z.toUInt64.toNat, z.toUInt64.toNat_lt, (nL_of z).symm⟩
  by_cases hk : (ch 8 X).getD 0 = 0
  · refine pair_mk ?_ ?_ (c_X3_put_bad l G b ad v pd rv Ns n hv3 hPd.1 X hX hk) (c_X4_put_bad l G a (Ns 0) x n hn1 hPd.1 X hX hk) rfl rfl (hCu) <;> exact ⟨rfl, rfl, by decide, by decide⟩
  · obtain ⟨k, hk1, hk0⟩ : ∃ k, ch 8 X = some k ∧ 0 < k := by
      cases hc : ch 8 X with
      | none => exact absurd (by rw [hc]; rfl) hk
      | some k => exact ⟨k, rfl, by rw [hc] at hk; exact Nat.pos_of_ne_zero hk⟩
    by_cases hf : n + k ≤ 60
    · have hR : RC (T + 6039) nx u (n + k) sv (fun j => if j < n then C j else X / 256 ^ (n + k - 1 - j) % 256) s (upd v 3 (nI (n + k))) (cP X n k k pd) rv Ns (sx (ax x 4 (cP X n k k (x.2 4))) 1 (nI (n + k))) := by
        obtain ⟨g1, g2, g3, g4, g5, g6, g7, g8, g9, g10⟩ := hCu
        refine ⟨g1, g2, g3, ⟨rfl, rfl⟩, ?_, g6, g7, g8, ?_, ?_⟩
        · show PadR _ _ _ ((ax x 4 (cP X n k k (x.2 4))).2 4)
          rw [ax_s]
          exact g5.app hk1 hf
        · show HistR _ _ _ ((ax x 4 (cP X n k k (x.2 4))).2 1) _
          rw [ax_n (by decide)]; exact g9
        · show SavR _ _ ((ax x 4 (cP X n k k (x.2 4))).2 2) ((ax x 4 (cP X n k k (x.2 4))).2 3) _
          rw [ax_n (by decide), ax_n (by decide)]; exact g10
      refine pair_mk ?_ ?_ (c_X3_put_ok l G b ad v pd rv Ns n hv3 hPd.1 X hX k hk1 hk0 hf) (c_X4_put_ok l G a (Ns 0) x n hn1 hPd.1 X hX k hk1 hk0 hf) rfl rfl (hR) <;> exact ⟨rfl, rfl, by decide, by decide⟩
    · refine pair_mk ?_ ?_ (c_X3_put_full l G b ad v pd rv Ns n hv3 hPd.1 X hX k hk1 hk0 (by omega)) (c_X4_put_full l G a (Ns 0) x n hn1 hPd.1 X hX k hk1 hk0 (by omega)) rfl rfl (hCu) <;> exact ⟨rfl, rfl, by decide, by decide⟩
set_option maxHeartbeats 1000000 in
theorem pr_wipe (l : Launch) (G : GP) (b a : Nat → Nat) (ad : Nat → Nat → Nat) {T : Nat} (hT : T + 6039 < 2 ^ 31) {v pd rv : Nat → Int32} {Ns : Nat → NS} {x : MX} (h : Rl T v pd rv Ns x) : PairOK l G b a ad yX3_wipe cX3_wipe 2 yX4_wipe cX4_wipe 2 [] ES (T + 6039) v pd rv Ns x := by
  obtain ⟨nx, u, n, sv, C, s, hC⟩ := h
  obtain ⟨⟨hv0, hnx⟩, ⟨hv1, hu6, hu⟩, ⟨hv2, hsv⟩, ⟨hv3, hn1⟩, hPd, ⟨hrv, hrB⟩, hx2, ⟨hI, hDV, h4⟩, hH, hS⟩ := id hC
  have hT0 := hC.hT
  have hF := hI.1
  have h5 := hF.2.1
  have h6 := hF.1
  have hCu := hC.up (Nat.le_add_right T 6039)
  refine pair_mk ?_ ?_ (c_X3_wipe l G b ad v pd rv Ns n hv3) (c_X4_wipe l G a (Ns 0) x n hn1) rfl rfl (hCu.wipe) <;> exact ⟨rfl, rfl, by decide, by decide⟩
set_option maxHeartbeats 1000000 in
theorem pr_fault (l : Launch) (G : GP) (b a : Nat → Nat) (ad : Nat → Nat → Nat) {T : Nat} (hT : T + 6039 < 2 ^ 31) {v pd rv : Nat → Int32} {Ns : Nat → NS} {x : MX} (h : Rl T v pd rv Ns x) : PairOK l G b a ad yX3_fault cX3_fault 1 yX4_fault cX4_fault 1 [] ES (T + 6039) v pd rv Ns x := by
  obtain ⟨nx, u, n, sv, C, s, hC⟩ := h
  obtain ⟨⟨hv0, hnx⟩, ⟨hv1, hu6, hu⟩, ⟨hv2, hsv⟩, ⟨hv3, hn1⟩, hPd, ⟨hrv, hrB⟩, hx2, ⟨hI, hDV, h4⟩, hH, hS⟩ := id hC
  have hT0 := hC.hT
  have hF := hI.1
  have h5 := hF.2.1
  have h6 := hF.1
  have hCu := hC.up (Nat.le_add_right T 6039)
  have hC127 : ∀ j, j < n → C j < 127 := fun j hj => (hPd.2.2.2 j hj).2
  have hPM : PadM x C n := ⟨hn1, hPd.1, hPd.2.2.1, hPd.2.2.2⟩
  obtain ⟨kf, hkf⟩ := endR_ex C n s
  have hkl := hkf.1
  subst hrv
  have hm := c_X4_fault l G a (Ns 0) x C n hPM (x.1 3) (x.1 4) (x.1 5) (x.2 5)
  rw [tX_0] at hm
  have er : (if (fF C n (x.2 5)).2.2.1 = 0 then (-6 : Int32) else nI (fF C n (x.2 5)).2.1) = foR C n s kf := by
    unfold foR
    rcases read_eq (O := x.2 5) hPd.1 hkf with ⟨g1, g2, -⟩ | ⟨g1, g2, g3⟩
    · rw [if_pos g1, if_pos g2]
    · rw [if_neg g1, if_neg g2, g3]
  refine pair_mk ?_ ?_ (c_X3_fault l G b ad v pd Ns s hrB C n hv3 hPd.1 hPd.2.1 hC127 kf hkf) (hm) er rfl (hCu.tx.rd rfl (rg_b hC127 hrB kf hkl)) <;> exact ⟨rfl, rfl, by decide, by decide⟩
set_option maxHeartbeats 1000000 in
theorem pr_carryOut (l : Launch) (G : GP) (b a : Nat → Nat) (ad : Nat → Nat → Nat) {T : Nat} (hT : T + 6039 < 2 ^ 31) {v pd rv : Nat → Int32} {Ns : Nat → NS} {x : MX} (h : Rl T v pd rv Ns x) : PairOK l G b a ad yX3_carryOut cX3_carryOut 2 yX4_carryOut cX4_carryOut 2 [] ES (T + 6039) v pd rv Ns x := by
  obtain ⟨nx, u, n, sv, C, s, hC⟩ := h
  obtain ⟨⟨hv0, hnx⟩, ⟨hv1, hu6, hu⟩, ⟨hv2, hsv⟩, ⟨hv3, hn1⟩, hPd, ⟨hrv, hrB⟩, hx2, ⟨hI, hDV, h4⟩, hH, hS⟩ := id hC
  have hT0 := hC.hT
  have hF := hI.1
  have h5 := hF.2.1
  have h6 := hF.1
  have hCu := hC.up (Nat.le_add_right T 6039)
  have hC127 : ∀ j, j < n → C j < 127 := fun j hj => (hPd.2.2.2 j hj).2
  have hPM : PadM x C n := ⟨hn1, hPd.1, hPd.2.2.1, hPd.2.2.2⟩
  obtain ⟨kf, hkf⟩ := endR_ex C n s
  have hkl := hkf.1
  subst hrv
  rcases read_eq (O := x.2 5) hPd.1 hkf with ⟨g1, g2, g3, -⟩ | ⟨g1, g2, g3⟩
  · have hs2 := rg_b hC127 hrB kf hkl
    obtain ⟨kg, hkg⟩ := endR_ex C n (rg C s kf)
    rcases read_eq (O := x.2 5) hPd.1 hkg with ⟨-, -, -, g4⟩ | ⟨g4, -⟩
    · have hor : ∀ j, ∃ o : OQ, j < cE C n + 1 → ∀ i, i ≤ n → (i = n ∨ C i = 59) → cE C i = j → oFit o (rg C (rg C s kf) i) ∧ stOr (fF C n (x.2 5)).2.2.2 j o := by
        intro j
        by_cases q : j < cE C n + 1
        · obtain ⟨iz, f1, -, f3⟩ := stO_ex (C := C) n j (Nat.le_of_lt q)
          obtain ⟨f4, f5⟩ := f3 q
          obtain ⟨o, o1, o2⟩ := g4 iz f1 f4
          refine ⟨o, fun _ i hi1 hi2 hi3 => ?_⟩
          obtain rfl := cE_inj hi2 f4 hi1 f1 (hi3.trans f5.symm)
          exact ⟨o1, by rw [← f5]; exact o2⟩
        · exact ⟨(0, 0, 0), fun z => absurd z q⟩
      obtain ⟨OR, hOR⟩ := Classical.axiomOfChoice hor
      have hcl := cE_le (C := C) n
      have hOR1 : ∀ i, i ≤ n → (i = n ∨ C i = 59) → oFit (OR (cE C i)) (rg C (rg C s kf) i) := fun i hi1 hi2 => (hOR (cE C i) (Nat.lt_succ_of_le (cE_mono hi1)) i hi1 hi2 rfl).1
      have hOR2 : ∀ j, j < cE C n + 1 → okO (OR j) ∧ stOr (fF C n (x.2 5)).2.2.2 j (OR j) := by
        intro j hj
        obtain ⟨iz, f1, -, f3⟩ := stO_ex (C := C) n j (Nat.le_of_lt hj)
        obtain ⟨f4, f5⟩ := f3 hj
        have q := hOR j hj iz f1 f4 f5
        exact ⟨q.1.1, q.2⟩
      obtain ⟨ks, hks⟩ := endO_ex OR (Ns 0) (cE C n + 1)
      obtain ⟨iz, hiz⟩ := stO_ex (C := C) n ks hks.1
      have hfin := fin_ok hI hDV (fun j hj => (hOR2 j hj).1) hks
      have hM : okS (T + 6039) (finO OR (Ns 0) (cE C n + 1) ks) := ⟨hfin.1, hfin.2.1, by have := hfin.2.2; have := hPd.1; omega⟩
      have hks' : endO OR (Ns 0) (fF C n (x.2 5)).1 ks := by rw [g3]; exact hks
      have hm := c_X4_carryOut_ok l G a (Ns 0) x C n hPM (x.1 3) (x.1 4) (x.1 5) (x.2 5) g1 u hu hu6 hT0 hI (by rw [g3]; exact cE_60 hkf g2.1 hPd.1) OR (fun j hj => (hOR2 j (by rw [← g3]; exact hj)).1) (fun j hj => (hOR2 j (by rw [← g3]; exact hj)).2) ks hks'
      rw [tX_0] at hm
      have hR := (((hC.rd (rv' := rvO (rg C (rg C s kf) iz)) rfl (rg_b hC127 hs2 iz hiz.1)).tx (r := nI ((fF C n (x.2 5)).1)) (p := nI ((fF C n (x.2 5)).2.1)) (w := nI ((fF C n (x.2 5)).2.2.1)) (O := (fF C n (x.2 5)).2.2.2)).wipe).rcd hM (Nat.le_add_right T 6039)
      have hx2' : (tX (nI ((fF C n (x.2 5)).1)) (nI ((fF C n (x.2 5)).2.1)) (nI ((fF C n (x.2 5)).2.2.1)) ((fF C n (x.2 5)).2.2.2) x).1 2 = nI 0 := hx2
      have hx2'' : (sx (tX (nI ((fF C n (x.2 5)).1)) (nI ((fF C n (x.2 5)).2.1)) (nI ((fF C n (x.2 5)).2.2.1)) ((fF C n (x.2 5)).2.2.2) x) 1 (nI 0)).1 2 = nI 0 := hx2
      rw [rcd_x hx2'] at hm
      rw [rcd_x hx2''] at hR
      refine pair_mk ?_ ?_ (c_X3_carryOut_ok l G b ad v pd Ns s hrB C n hv3 hPd.1 hPd.2.1 hC127 kf hkf nx u hv0 hnx hv1 hu6 g2 OR hOR1 hI ks hks iz hiz) hm rfl (by rw [g3]; exact (va_up_self _ _ _).symm) (hR.xc ?_ ?_ ?_ ?_ ?_ ?_ ?_)
      · exact ⟨rfl, rfl, by decide, by decide⟩
      · exact ⟨rfl, rfl, by decide, by decide⟩
      · rfl
      · rfl
      · show nI 0 = _
        exact hx2.symm
      · rfl
      · rfl
      · rfl
      · rfl
    · exact absurd g1 g4
  · have hm := c_X4_carryOut_bad l G a (Ns 0) x C n hPM (x.1 3) (x.1 4) (x.1 5) (x.2 5) g1 (by rw [g3]; have := hPd.1; omega)
    rw [tX_0] at hm
    refine pair_mk ?_ ?_ (c_X3_carryOut_bad l G b ad v pd Ns s hrB C n hv3 hPd.1 hPd.2.1 hC127 kf hkf g2) (hm) rfl rfl (hCu.tx.rd rfl (rg_b hC127 hrB kf hkl)) <;> exact ⟨rfl, rfl, by decide, by decide⟩
set_option maxHeartbeats 1000000 in
theorem pr_undo (l : Launch) (G : GP) (b a : Nat → Nat) (ad : Nat → Nat → Nat) {T : Nat} (hT : T + 6039 < 2 ^ 31) {v pd rv : Nat → Int32} {Ns : Nat → NS} {x : MX} (h : Rl T v pd rv Ns x) : PairOK l G b a ad yX3_undo cX3_undo 1 yX4_undo cX4_undo 2 [] ES (T + 6039) v pd rv Ns x := by
  obtain ⟨nx, u, n, sv, C, s, hC⟩ := h
  obtain ⟨⟨hv0, hnx⟩, ⟨hv1, hu6, hu⟩, ⟨hv2, hsv⟩, ⟨hv3, hn1⟩, hPd, ⟨hrv, hrB⟩, hx2, ⟨hI, hDV, h4⟩, hH, hS⟩ := id hC
  have hT0 := hC.hT
  have hF := hI.1
  have h5 := hF.2.1
  have h6 := hF.1
  have hCu := hC.up (Nat.le_add_right T 6039)
  by_cases h0 : u = 0
  · refine pair_mk ?_ ?_ (c_X3_undo_bad l G b ad v pd rv Ns (by rw [hv1, h0])) (c_X4_undo_bad l G a (Ns 0) x (by rw [hu, h0])) rfl rfl (hCu) <;> exact ⟨rfl, rfl, by decide, by decide⟩
  · have hi : hix nx u (u - 1) = 2 + (if nx = 0 then 6 else nx - 1) := by
      unfold hix
      by_cases q : nx = 0
      · rw [if_pos q]; omega
      · rw [if_neg q]; omega
    obtain ⟨hok, hk⟩ := hH (u - 1) (by omega)
    rw [hi] at hok hk
    have hR : RC T (if nx = 0 then 6 else nx - 1) (u - 1) n sv C s (upd (upd v 0 (nI (if nx = 0 then 6 else nx - 1))) 1 (nI (u - 1))) pd rv (va_up Ns 0 (Ns (2 + (if nx = 0 then 6 else nx - 1)))) (sx x 0 (nI (u - 1))) := by
      obtain ⟨g1, g2, g3, g4, g5, g6, g7, g8, g9, g10⟩ := hC
      refine ⟨⟨rfl, by split <;> omega⟩, ⟨rfl, by omega, rfl⟩, g3, g4, g5, g6, g7, by rw [va_up_self]; exact hok, ?_, g10.ns (fun t ht => va_up_ne _ _ (by omega))⟩
      intro j hj
      have hi2 : hix (if nx = 0 then 6 else nx - 1) (u - 1) j = hix nx u j := by
        unfold hix
        by_cases q : nx = 0
        · rw [if_pos q]; omega
        · rw [if_neg q]; omega
      rw [hi2, va_up_ne _ _ (by have := hix_lo (nx := nx) (u := u) (j := j); omega)]
      exact g9 j (by omega)
    refine pair_mk ?_ ?_ (c_X3_undo_ok l G b ad v pd rv Ns nx u hv0 hnx hv1 hu6 (by omega)) (c_X4_undo_ok l G a (Ns 0) x _ u hu (by omega) hu6 hk) rfl (va_up_self _ _ _).symm (hR.up (Nat.le_add_right T 6039)) <;> exact ⟨rfl, rfl, by decide, by decide⟩
set_option maxHeartbeats 1000000 in
theorem pr_save (l : Launch) (G : GP) (b a : Nat → Nat) (ad : Nat → Nat → Nat) {T : Nat} (hT : T + 6039 < 2 ^ 31) {v pd rv : Nat → Int32} {Ns : Nat → NS} {x : MX} (h : Rl T v pd rv Ns x) (e : Int32) : PairOK l G b a ad yX3_save cX3_save 2 yX4_save cX4_save 3 [.int e] ES (T + 6039) v pd rv Ns x := by
  obtain ⟨nx, u, n, sv, C, s, hC⟩ := h
  obtain ⟨⟨hv0, hnx⟩, ⟨hv1, hu6, hu⟩, ⟨hv2, hsv⟩, ⟨hv3, hn1⟩, hPd, ⟨hrv, hrB⟩, hx2, ⟨hI, hDV, h4⟩, hH, hS⟩ := id hC
  have hT0 := hC.hT
  have hF := hI.1
  have h5 := hF.2.1
  have h6 := hF.1
  have hCu := hC.up (Nat.le_add_right T 6039)
  by_cases h1 : nI 0 ≤ e ∧ e ≤ nI 1
  · obtain ⟨k, -, hk, rfl⟩ := nat_R (by decide) (by decide) h1
    have hk2 : k < 2 := by omega
    have hR : RC T nx u n (sv ||| 2 ^ k) C s (upd v 2 (nI (sv ||| 2 ^ k))) pd rv (va_up Ns (9 + k) (Ns 0)) (ax (ax x 2 (hcp (k * 390) 390 (Ns 0) (x.2 2))) 3 (upd (x.2 3) k (nI 1))) := by
      obtain ⟨g1, g2, g3, g4, g5, g6, g7, g8, g9, g10⟩ := hC
      refine ⟨g1, g2, ⟨rfl, or_t4 sv hsv k hk2⟩, g4, ?_, g6, g7, ?_, ?_, ?_⟩
      · rw [ax_n (by decide), ax_n (by decide)]; exact g5
      · rw [va_up_ne _ _ (by omega)]; exact g8
      · rw [ax_n (by decide), ax_n (by decide)]
        exact g9.ns (fun j hj => va_up_ne _ _ (by have := hix_lo (nx := nx) (u := u) (j := j); omega))
      · rw [ax_n (by decide), ax_s, ax_s]
        intro t ht
        obtain ⟨f1, f2⟩ := g10 t ht
        have hb := or_tb sv hsv k hk2 t ht
        by_cases q : t = k
        · subst q
          refine ⟨fun _ => ⟨if_pos rfl, by rw [va_up_self]; exact g8, fun j hj => by rw [va_up_self]; exact hcp_in hj⟩, fun z => absurd (hb.mpr (Or.inl rfl)) z⟩
        · have e9 : 9 + t ≠ 9 + k := by omega
          refine ⟨fun z => ?_, fun z => ?_⟩
          · have z2 : sv.testBit t = true := by rcases hb.mp z with y | y; exact absurd y q; exact y
            obtain ⟨f3, f4, f5⟩ := f1 z2
            refine ⟨(if_neg q).trans f3, by rw [va_up_ne _ _ e9]; exact f4, fun j hj => ?_⟩
            rw [va_up_ne _ _ e9, hcp_out (by omega)]
            exact f5 j hj
          · exact (if_neg q).trans (f2 (fun y => z (hb.mpr (Or.inr y))))
    refine pair_mk ?_ ?_ (c_X3_save_ok l G b ad v pd rv Ns sv hv2 k hk2) (c_X4_save_ok l G a (Ns 0) x k hk2) rfl (va_up_ne _ _ (by omega)).symm (hR.up (Nat.le_add_right T 6039)) <;> exact ⟨rfl, rfl, by decide, by decide⟩
  · refine pair_mk ?_ ?_ (c_X3_save_bad l G b ad v pd rv Ns e h1) (c_X4_save_bad l G a (Ns 0) x e h1) rfl rfl (hCu) <;> exact ⟨rfl, rfl, by decide, by decide⟩
set_option maxHeartbeats 1000000 in
theorem pr_restore (l : Launch) (G : GP) (b a : Nat → Nat) (ad : Nat → Nat → Nat) {T : Nat} (hT : T + 6039 < 2 ^ 31) {v pd rv : Nat → Int32} {Ns : Nat → NS} {x : MX} (h : Rl T v pd rv Ns x) (e : Int32) : PairOK l G b a ad yX3_restore cX3_restore 2 yX4_restore cX4_restore 3 [.int e] ES (T + 6039) v pd rv Ns x := by
  obtain ⟨nx, u, n, sv, C, s, hC⟩ := h
  obtain ⟨⟨hv0, hnx⟩, ⟨hv1, hu6, hu⟩, ⟨hv2, hsv⟩, ⟨hv3, hn1⟩, hPd, ⟨hrv, hrB⟩, hx2, ⟨hI, hDV, h4⟩, hH, hS⟩ := id hC
  have hT0 := hC.hT
  have hF := hI.1
  have h5 := hF.2.1
  have h6 := hF.1
  have hCu := hC.up (Nat.le_add_right T 6039)
  by_cases h1 : nI 0 ≤ e ∧ e ≤ nI 1
  · obtain ⟨k, -, hk, rfl⟩ := nat_R (by decide) (by decide) h1
    have hk2 : k < 2 := by omega
    obtain ⟨f1, f2⟩ := hS k hk2
    by_cases hb : sv.testBit k = true
    · obtain ⟨f3, f4, f5⟩ := f1 hb
      refine pair_mk ?_ ?_ (c_X3_restore_ok l G b ad v pd rv Ns nx u hv0 hnx hv1 hu6 sv hv2 hsv k hk2 hb (by have := f4.2.2; omega)) (c_X4_restore_ok l G a (Ns 0) x u False hu hT0 hu6 _ k hk2 f3 f5) rfl (va_up_self _ _ _).symm (hC.rcd (f4.up (Nat.le_add_right T 6039)) (Nat.le_add_right T 6039)) <;> exact ⟨rfl, rfl, by decide, by decide⟩
    · refine pair_mk ?_ ?_ (c_X3_restore_none l G b ad v pd rv Ns sv hv2 hsv k hk2 hb) (c_X4_restore_none l G a (Ns 0) x k hk2 (f2 hb)) rfl rfl (hCu) <;> exact ⟨rfl, rfl, by decide, by decide⟩
  · refine pair_mk ?_ ?_ (c_X3_restore_bad l G b ad v pd rv Ns e h1) (c_X4_restore_bad l G a (Ns 0) x e h1) rfl rfl (hCu) <;> exact ⟨rfl, rfl, by decide, by decide⟩

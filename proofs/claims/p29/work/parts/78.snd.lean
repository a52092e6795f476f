/-! ===== pure: what is sent to many -/
theorem mSend_n8 {k d f t : Nat} {N : NS} (hf : f < 5) : mSend k d f t N 8 = if N 6 = 60 then N 8 + 1 else N 8 := by
  unfold mSend
  split
  · rw [un_s]
  · rw [un_n (by omega), un_n (by omega), un_n (by omega), un_n (by omega), un_n (by omega), un_n (by omega)]
theorem mSend_sf {k d f t : Nat} {N : NS} (hf : f < 5) : mSend k d f t N (25 + f) = N (25 + f) + 1 := by
  unfold mSend
  split
  · rw [un_n (by omega), un_s]
  · rw [un_n (by omega), un_n (by omega), un_n (by omega), un_n (by omega), un_n (by omega), un_s]
theorem mSend_so {k d f t g : Nat} {N : NS} (hg : g < 5) (h : g ≠ f) (hf : f < 5) : mSend k d f t N (25 + g) = N (25 + g) := by
  unfold mSend
  split
  · rw [un_n (by omega), un_n (by omega)]
  · rw [un_n (by omega), un_n (by omega), un_n (by omega), un_n (by omega), un_n (by omega), un_n (by omega)]
theorem sa_c6 {k d f S : Nat} {M : NS} (hf : f < 5) (h6 : M 6 ≤ 60) : ∀ n, sa k d f S n M 6 = M 6 + pcn S n - (M 6 + pcn S n - 60)
  | 0 => by rw [sa, pcn]; omega
  | n + 1 => by
    have ih := sa_c6 (k := k) (d := d) (S := S) hf h6 n
    by_cases hb : S.testBit n = true
    · rw [sa, if_pos hb, mSend_n6 hf, ih, pcn_s1 hb]
      split <;> omega
    · rw [sa, if_neg hb, ih, pcn_s0 hb]
theorem sa_c8 {k d f S : Nat} {M : NS} (hf : f < 5) (h6 : M 6 ≤ 60) : ∀ n, sa k d f S n M 8 = M 8 + (M 6 + pcn S n - 60)
  | 0 => by rw [sa, pcn]; omega
  | n + 1 => by
    have ih := sa_c8 (k := k) (d := d) (S := S) hf h6 n
    have i6 := sa_c6 (k := k) (d := d) (S := S) hf h6 n
    by_cases hb : S.testBit n = true
    · rw [sa, if_pos hb, mSend_n8 hf, ih, i6, pcn_s1 hb]
      split <;> omega
    · rw [sa, if_neg hb, ih, pcn_s0 hb]
theorem sa_sf {k d f S : Nat} {M : NS} (hf : f < 5) : ∀ n, sa k d f S n M (25 + f) = M (25 + f) + pcn S n
  | 0 => by rw [sa, pcn]; omega
  | n + 1 => by
    have ih := sa_sf (k := k) (d := d) (S := S) (M := M) hf n
    by_cases hb : S.testBit n = true
    · rw [sa, if_pos hb, mSend_sf hf, ih, pcn_s1 hb]; omega
    · rw [sa, if_neg hb, ih, pcn_s0 hb]
theorem sa_old {k d f S j : Nat} {M : NS} (hf : f < 5) (h1 : 150 ≤ j) (h2 : j < 150 + 4 * M 6) : ∀ n, sa k d f S n M j = M j
  | 0 => rfl
  | n + 1 => by
    have ih := sa_old (k := k) (d := d) (S := S) hf h1 h2 n
    have hg := sa_6ge (k := k) (d := d) (S := S) (N := M) hf n
    rw [sa]
    split
    · rw [mSend_old hf h1 (by omega), ih]
    · exact ih
theorem sa_new {k d f S : Nat} {M : NS} (hf : f < 5) (h6 : M 6 ≤ 60) : ∀ n c, c < n → S.testBit c = true → M 6 + pcn S c < 60 → M 6 + pcn S c < sa k d f S n M 6 ∧ sa k d f S n M (150 + 4 * (M 6 + pcn S c) + 0) = k ∧ sa k d f S n M (150 + 4 * (M 6 + pcn S c) + 1) = d ∧ sa k d f S n M (150 + 4 * (M 6 + pcn S c) + 2) = f ∧ sa k d f S n M (150 + 4 * (M 6 + pcn S c) + 3) = c
  | 0, c, hc, _, _ => absurd hc (Nat.not_lt_zero c)
  | n + 1, c, hc, hb, hl => by
    have i6 := sa_c6 (k := k) (d := d) (S := S) hf h6 n
    by_cases e : c = n
    · subst e
      have e6 : sa k d f S c M 6 = M 6 + pcn S c := by omega
      have hne : ¬ sa k d f S c M 6 = 60 := by omega
      rw [sa, if_pos hb]
      refine ⟨?_, ?_, ?_, ?_, ?_⟩
      · rw [mSend_n6 hf, if_neg hne]; omega
      · rw [← e6]; exact mSend_s0 hne
      · rw [← e6]; exact mSend_s1 hne
      · rw [← e6]; exact mSend_s2 hne
      · rw [← e6]; exact mSend_s3 hne
    · obtain ⟨g0, g1, g2, g3, g4⟩ := sa_new (k := k) (d := d) hf h6 n c (by omega) hb hl
      rw [sa]
      split
      · refine ⟨Nat.lt_of_lt_of_le g0 (mSend_6ge hf), ?_, ?_, ?_, ?_⟩
        · rw [mSend_old hf (by omega) (by omega), g1]
        · rw [mSend_old hf (by omega) (by omega), g2]
        · rw [mSend_old hf (by omega) (by omega), g3]
        · rw [mSend_old hf (by omega) (by omega), g4]
      · exact ⟨g0, g1, g2, g3, g4⟩
theorem snt2_sa {k d f S : Nat} {M : NS} (hf : f < 5) (h6 : M 6 ≤ 60) : snt2 (sa k d f S 4 M) (M 6) k d f S := fun c hc hb hl => sa_new hf h6 4 c hc hb hl
theorem pcn_pos {S : Nat} (hS : S < 16) (h : S ≠ 0) : 0 < pcn S 4 := by
  obtain ⟨c, hc, hb⟩ := nz4 hS h
  have h1 := pcn_s1 hb
  have h2 := pcn_mono (S := S) (a := c + 1) (b := 4) (by omega)
  omega
/-- what a new deal says -/
theorem opn_f {N : NS} (hI : Inv N) (hV : VI N) {S : Nat} (hS : S < 16) (h5 : ¬ N 5 = 8) : mOpen S N 5 = N 5 + 1 ∧ mOpen S N (30 + 14 * N 5 + 0) = S ∧ mOpen S N (30 + 14 * N 5 + 1) = 0 ∧ mOpen S N (30 + 14 * N 5 + 2) = N 4 ∧ mOpen S N 4 = N 4 ∧ cOf (N 5) 0 (mOpen S N) = S ∧ snt2 (mOpen S N) (N 6) 0 (N 5) 4 S := by
  have hF := hI.1
  have h8 := hF.2.1
  have h58 : N 5 < 8 := by omega
  obtain ⟨u1, u4, u5⟩ := hV.2 (N 5) (Nat.le_refl _) h58
  have u0 := hI.2.2.2 (N 5) (Nat.le_refl _) h58
  have ua : ∀ c, c < 4 → N (30 + 14 * N 5 + (6 + c)) = 0 := fun c hc => hI.2.2.1 (N 5) c h58 hc (by rw [u0]; exact Nat.zero_testBit c)
  have hM6 : un (un (un N 5 (N 5 + 1)) (30 + 14 * N 5 + 0) S) (30 + 14 * N 5 + 2) (N 4) 6 ≤ 60 := by rw [un_n (by omega), un_n (by omega), un_n (by omega)]; exact hF.1
  have rd : ∀ j, j ≠ 6 → j ≠ 8 → (j < 25 ∨ (30 ≤ j ∧ j < 150)) → mOpen S N j = un (un (un N 5 (N 5 + 1)) (30 + 14 * N 5 + 0) S) (30 + 14 * N 5 + 2) (N 4) j := fun j a b c => sa_n (by decide) hM6 a b c 4
  have e0 : mOpen S N (30 + 14 * N 5 + 0) = S := by rw [rd _ (by omega) (by omega) (by omega), un_n (by omega), un_s]
  have ea : ∀ c, c < 4 → mOpen S N (30 + 14 * N 5 + (6 + c)) = 0 := fun c hc => by rw [rd _ (by omega) (by omega) (by omega), un_n (by omega), un_n (by omega), un_n (by omega)]; exact ua c hc
  refine ⟨?_, e0, ?_, ?_, ?_, ?_, ?_⟩
  · rw [rd _ (by omega) (by omega) (by omega), un_n (by omega), un_n (by omega), un_s]
  · rw [rd _ (by omega) (by omega) (by omega), un_n (by omega), un_n (by omega), un_n (by omega)]; exact u1
  · rw [rd _ (by omega) (by omega) (by omega), un_s]
  · rw [rd _ (by omega) (by omega) (by omega), un_n (by omega), un_n (by omega), un_n (by omega)]
  · refine eq4 cOf_lt hS (fun c hc => ?_)
    rw [cOf_t hc, e0, ea c hc]
    simp
  · have h := snt2_sa (k := 0) (d := N 5) (f := 4) (S := S) (M := un (un (un N 5 (N 5 + 1)) (30 + 14 * N 5 + 0) S) (30 + 14 * N 5 + 2) (N 4)) (by decide) hM6
    rw [show un (un (un N 5 (N 5 + 1)) (30 + 14 * N 5 + 0) S) (30 + 14 * N 5 + 2) (N 4) 6 = N 6 by rw [un_n (by omega), un_n (by omega), un_n (by omega)]] at h
    exact h
theorem Inv.hm {N : NS} (h : Inv N) : ∀ p, p < N 6 → N (150 + 4 * p + 3) < 2 ^ 31 := fun p hp => by have := (h.2.1 p hp).2.2.2.1; omega

/-! ===== pure: what all that is told agrees in ===== -/
theorem eq4 {S T : Nat} (hS : S < 16) (hT : T < 16) (h : ∀ c, c < 4 → (S.testBit c = true ↔ T.testBit c = true)) : S = T := by
  apply Nat.eq_of_testBit_eq
  intro c
  by_cases hc : c < 4
  · exact Bool.eq_iff_iff.mpr (h c hc)
  · have q : (16 : Nat) ≤ 2 ^ c := Nat.pow_le_pow_right (n := 2) (i := 4) (by decide) (by omega)
    rw [Nat.testBit_lt_two_pow (Nat.lt_of_lt_of_le hS q), Nat.testBit_lt_two_pow (Nat.lt_of_lt_of_le hT q)]
theorem nz4 {S : Nat} (hS : S < 16) (h : ¬ S = 0) : ∃ c, c < 4 ∧ S.testBit c = true := by
  apply Classical.byContradiction
  intro q
  refine h (eq4 hS (by decide) (fun c hc => ⟨fun z => absurd ⟨c, hc, z⟩ q, fun z => ?_⟩))
  rw [Nat.zero_testBit] at z; cases z
theorem ze4 {S : Nat} (hS : S < 16) (h : ∀ c, c < 4 → ¬ S.testBit c = true) : S = 0 := Classical.byContradiction (fun q => by
  obtain ⟨c, hc, z⟩ := nz4 hS q
  exact h c hc z)
def aI (d : Nat) (N : NS) : Nat → Nat
  | 0 => 0
  | n + 1 => aI d N n ||| cOf d n N
theorem aI_lt {d : Nat} {N : NS} : ∀ n, aI d N n < 16
  | 0 => Nat.succ_pos 15
  | n + 1 => by
    rw [aI]
    exact Nat.or_lt_two_pow (n := 4) (aI_lt n) cOf_lt
theorem aI_t {d c : Nat} {N : NS} (hc : c < 4) : ∀ n, (aI d N n).testBit c = true ↔ ((N (30 + 14 * d + 0)).testBit c = true ∧ N (30 + 14 * d + (6 + c)) < n)
  | 0 => by rw [aI, Nat.zero_testBit]; simp
  | n + 1 => by
    rw [aI, Nat.testBit_or, Bool.or_eq_true, aI_t hc n, cOf_t hc]
    constructor
    · rintro (z | z)
      · exact ⟨z.1, by omega⟩
      · exact ⟨z.1, by omega⟩
    · rintro ⟨z1, z2⟩
      by_cases q : N (30 + 14 * d + (6 + c)) = n
      · exact Or.inr ⟨z1, q⟩
      · exact Or.inl ⟨z1, by omega⟩
theorem and_nI (a b : Nat) : nI a &&& nI b = nI (a &&& b) := by
  apply Int32.toBitVec_inj.1
  show BitVec.ofNat 32 a &&& BitVec.ofNat 32 b = BitVec.ofNat 32 (a &&& b)
  apply BitVec.eq_of_getLsbD_eq
  intro i hi
  simp [hi]
theorem aI_dis {d n : Nat} {N : NS} : nI (aI d N n) &&& nI (cOf d n N) = nI 0 := by
  rw [and_nI, ze4 (S := aI d N n &&& cOf d n N) (Nat.lt_of_le_of_lt Nat.and_le_right cOf_lt) (fun c hc z => ?_)]
  rw [Nat.testBit_and, Bool.and_eq_true, aI_t hc, cOf_t hc] at z
  omega
theorem aI_4 {d : Nat} {N : NS} (hF : FI N) (hd : d < 8) : aI d N 4 = N (30 + 14 * d + 0) :=
  eq4 (aI_lt 4) (hF.f0 hd) (fun c hc => (aI_t hc 4).trans ⟨fun z => z.1, fun z => ⟨z, hF.f6 hd hc⟩⟩)
theorem DK.p {N : NS} {d : Nat} (h : DK N d) (hF : FI N) (hd : d < 8) (hp : ¬ cOf d 2 N = 0) : (N (30 + 14 * d + 1) = 1 ∨ N (30 + 14 * d + 1) = 3) ∧ cOf d 3 N = 0 ∧ N (30 + 14 * d + 4) = N (30 + 14 * d + 0) := by
  obtain ⟨c, hc, z⟩ := nz4 cOf_lt hp
  obtain ⟨hS, ha⟩ := (cOf_t hc).mp z
  obtain ⟨h1, h2, h3, -, -⟩ := h
  have hst := (h3 c hc hS).1 ha
  have hv := h2.1 hst
  refine ⟨hst, ze4 cOf_lt (fun e he y => ?_), hv⟩
  obtain ⟨yS, ya⟩ := (cOf_t he).mp y
  rcases (h3 e he yS).2.2.2.1 ya with q | ⟨c', -, k2, -, k4, -⟩
  · omega
  · rw [hv, k2] at k4; cases k4
theorem DK.rc {N : NS} {d : Nat} (h : DK N d) (hF : FI N) (hd : d < 8) : N (30 + 14 * d + 5) &&& (15 ^^^ cOf d 2 N) = 0 := by
  refine ze4 (and_lt16 (hF.f5 hd)) (fun c hc z => ?_)
  rw [bit_an hc] at z
  exact z.2 ((cOf_t hc).mpr ⟨h.1.2.2 c z.1, ((h.2.2.1 c hc (h.1.2.2 c z.1)).2.1 z.1)⟩)
theorem DK.vt {N : NS} {d : Nat} (h : DK N d) (hF : FI N) (hd : d < 8) : N (30 + 14 * d + 4) &&& (15 ^^^ N (30 + 14 * d + 0)) = 0 := by
  refine ze4 (and_lt16 (hF.f4 hd)) (fun c hc z => ?_)
  rw [bit_an hc] at z
  exact z.2 (h.1.2.1 c z.1)
theorem DK.all {N : NS} {d : Nat} (h : DK N d) (hF : FI N) (hd : d < 8) (h2 : ¬ N (30 + 14 * d + 1) = 2) : (N (30 + 14 * d + 1) = 1 ∨ N (30 + 14 * d + 1) = 3) ↔ N (30 + 14 * d + 4) = N (30 + 14 * d + 0) := by
  have hs := hF.f1 hd
  refine ⟨h.2.1.1, fun z => ?_⟩
  by_cases q : N (30 + 14 * d + 1) = 0
  · exact absurd z (h.2.1.2.1 q)
  · omega
theorem dw0 {d : Nat} {N : NS} : dwI 0 N (d + 1) = dwI 0 N d + (if ¬ cOf d 2 N = 0 then 1 else 0) := by
  rw [dwI]
  by_cases q : cOf d 2 N = 0 <;> simp [q]
theorem dw1 {d : Nat} {N : NS} : dwI 1 N (d + 1) = dwI 1 N d + (if ¬ cOf d 3 N = 0 then 1 else 0) := by
  rw [dwI]
  by_cases q : cOf d 3 N = 0 <;> simp [q]
theorem dw2 {d : Nat} {N : NS} : dwI 2 N (d + 1) = dwI 2 N d + (if ¬ cOf d 2 N = 0 ∧ ¬ cOf d 3 N = 0 then 1 else 0) := by
  rw [dwI]
  simp
theorem dw_le {q : Nat} {N : NS} : ∀ d, dwI q N d ≤ d
  | 0 => Nat.le_refl _
  | d + 1 => by rw [dwI]; have := dw_le (q := q) (N := N) d; split <;> omega
def snI (N : NS) : Nat → Nat
  | 0 => 0
  | w + 1 => snI N w + N (25 + w)
def udI (N : NS) : Nat → Nat
  | 0 => 0
  | w + 1 => udI N w + utI w N (N 6)
theorem illI_le {N : NS} (hF : FI N) : ∀ w, w ≤ 5 → illI N w ≤ w
  | 0, _ => Nat.le_refl _
  | w + 1, h => by rw [illI]; have := illI_le hF w (by omega); have := hF.il (w := w) (by omega); omega
theorem utI_le {w : Nat} {N : NS} : ∀ m, utI w N m ≤ m
  | 0 => Nat.le_refl _
  | m + 1 => by rw [utI]; have := utI_le (w := w) (N := N) m; split <;> omega
theorem ut5 {N : NS} : ∀ m, (∀ p, p < m → N (150 + 4 * p + 3) < 5) → utI 0 N m + utI 1 N m + utI 2 N m + utI 3 N m + utI 4 N m = m
  | 0, _ => rfl
  | m + 1, h => by
    have ih := ut5 m (fun p hp => h p (by omega))
    have ht := h m (by omega)
    rw [utI, utI, utI, utI, utI]
    rcases (show N (150 + 4 * m + 3) = 0 ∨ N (150 + 4 * m + 3) = 1 ∨ N (150 + 4 * m + 3) = 2 ∨ N (150 + 4 * m + 3) = 3 ∨ N (150 + 4 * m + 3) = 4 by omega) with q | q | q | q | q <;> simp only [q] <;> simp <;> omega
theorem ud5 {N : NS} (h : ∀ p, p < N 6 → N (150 + 4 * p + 3) < 5) : udI N 5 = N 6 := by
  have := ut5 (N 6) h
  simp only [udI]
  omega
theorem ud_le {N : NS} (h6 : N 6 ≤ 60) : ∀ w, udI N w ≤ 60 * w
  | 0 => Nat.zero_le _
  | w + 1 => by rw [udI]; have := ud_le h6 w; have := utI_le (w := w) (N := N) (N 6); omega

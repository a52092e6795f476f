theorem cE_n {C : Nat → Nat} {p : Nat} : ∀ {q : Nat}, p ≤ q → n59 C p q → cE C q = cE C p := by
  intro q h
  induction q with
  | zero => intro _; obtain rfl : p = 0 := by omega
            rfl
  | succ q ih =>
    intro hn
    rcases Nat.lt_or_ge q p with z | z
    · obtain rfl : p = q + 1 := by omega
      rfl
    · rw [cE, if_neg (hn q z (by omega))]
      exact ih z (fun j h1 h2 => hn j h1 (by omega))
def stOr (O : Nat → Int32) (j : Nat) (o : OQ) : Prop := O (3 * j) = nI o.1 ∧ O (3 * j + 1) = nI o.2.1 ∧ (o.1 = 119 → O (3 * j + 2) = nI o.2.2)
/-- a text read up to a place -/
def AG (C : Nat → Nat) (n : Nat) (s : AS) (q : FQ) : Prop :=
  (q.2.2.1 = 0 ∧ q.1 = cE C q.2.1 + 1 ∧ (∀ i, i < q.2.1 → C i = 59 → ∃ o, oFit o (rg C s i) ∧ stOr q.2.2.2 (cE C i) o) ∧ ∃ o, gooA C n s q.2.1 o ∧ stOr q.2.2.2 (cE C q.2.1) o) ∨ (q.2.2.1 = 1 ∧ badA C n s q.2.1)
theorem AG.start {C : Nat → Nat} {n : Nat} {s : AS} {O : Nat → Int32} : AG C n s (1, (rdF C n 0 0 O).2.1, (rdF C n 0 0 O).1, (rdF C n 0 0 O).2.2) := by
  obtain ⟨h1, h2, h3, h4⟩ := rd_all (C := C) (n := n) (r := 0) (p := 0) (s := s) (O := O) (Nat.zero_le _) (fun j hj => absurd hj (Nat.not_lt_zero _)) rfl
  rcases h4 with ⟨w0, o, g, s0, s1, s2⟩ | ⟨w1, b⟩
  · have hc : cE C (rdF C n 0 0 O).2.1 = 0 := cE_n (Nat.zero_le _) h3
    refine Or.inl ⟨w0, by show 1 = cE C (rdF C n 0 0 O).2.1 + 1; rw [hc], fun i hi h59 => absurd h59 (h3 i (Nat.zero_le _) hi), o, g, ?_⟩
    show stOr (rdF C n 0 0 O).2.2 (cE C (rdF C n 0 0 O).2.1) o
    rw [hc]
    exact ⟨s0, s1, s2⟩
  · exact Or.inr ⟨w1, b⟩
theorem AG.step {C : Nat → Nat} {n : Nat} {s : AS} {q : FQ} (h : AG C n s q) (h0 : q.2.2.1 = 0) (hp : q.2.1 < n) (h59 : C q.2.1 = 59) : AG C n s (fS C n q) ∧ q.2.1 + 1 ≤ (fS C n q).2.1 := by
  obtain ⟨r, p, w, O⟩ := q
  simp only [] at h0 hp h59
  rcases h with ⟨_, hr, hi, o, ⟨g1, g2, g3, g4, g5⟩, hs⟩ | ⟨w1, _⟩
  · simp only [] at hr hi g1 g2 g3 g4 g5 hs
    have ht : tk (rg C s p) (C p) = some (0, (rg C s p).2) := by
      show (if C p = 59 then tkE (rg C s p) else _) = _
      rw [if_pos h59]
      exact if_pos g3
    obtain ⟨hS, hk⟩ := rg_s g2 ht
    have hcp : cE C (p + 1) = cE C p + 1 := by rw [cE, if_pos h59]
    obtain ⟨e1, e2, e3, e4⟩ := rd_all (C := C) (n := n) (r := r) (p := p + 1) (s := s) (O := O) (by omega) hk (by rw [hS])
    refine ⟨?_, e2⟩
    rcases e4 with ⟨w0, o2, g, s0, s1, s2⟩ | ⟨w1, b⟩
    · have hc : cE C (rdF C n r (p + 1) O).2.1 = r := by rw [cE_n e2 e3, hcp, ← hr]
      have keep : ∀ j o, j < r → stOr O j o → stOr (rdF C n r (p + 1) O).2.2 j o := fun j o hj z => ⟨by rw [e1 _ (by omega)]; exact z.1, by rw [e1 _ (by omega)]; exact z.2.1, fun y => by rw [e1 _ (by omega)]; exact z.2.2 y⟩
      refine Or.inl ⟨w0, ?_, ?_, o2, g, ?_⟩
      · show r + 1 = cE C (rdF C n r (p + 1) O).2.1 + 1
        rw [hc]
      · intro i (hi2 : i < (rdF C n r (p + 1) O).2.1) h592
        show ∃ o, oFit o (rg C s i) ∧ stOr (rdF C n r (p + 1) O).2.2 (cE C i) o
        rcases Nat.lt_trichotomy i p with z | z | z
        · obtain ⟨o3, f1, f2⟩ := hi i z h592
          exact ⟨o3, f1, keep _ _ (by have := cE_mono (C := C) (Nat.le_of_lt z); omega) f2⟩
        · subst z
          exact ⟨o, g5, keep _ _ (by omega) hs⟩
        · exact absurd h592 (e3 i (by omega) hi2)
      · show stOr (rdF C n r (p + 1) O).2.2 (cE C (rdF C n r (p + 1) O).2.1) o2
        rw [hc]
        exact ⟨s0, s1, s2⟩
    · exact Or.inr ⟨w1, b⟩
  · simp only [] at w1
    omega
theorem AG.run {C : Nat → Nat} {n : Nat} {s : AS} : ∀ (k : Nat) (q : FQ), AG C n s q → (q.2.2.1 = 0 → n < q.2.1 + k) → AG C n s (fR C n k q) ∧ ¬ ((fR C n k q).2.2.1 = 0 ∧ (fR C n k q).2.1 < n)
  | 0, q, h, hf => ⟨h, fun z => by have z1 : q.2.2.1 = 0 := z.1; have z2 : q.2.1 < n := z.2; have := hf z1; omega⟩
  | k + 1, q, h, hf => by
    by_cases c1 : q.2.2.1 = 0 ∧ q.2.1 < n
    · by_cases c2 : C q.2.1 = 59
      · have e : fR C n (k + 1) q = fR C n k (fS C n q) := by rw [fR, if_pos c1, if_pos c2]
        obtain ⟨g1, g2⟩ := h.step c1.1 c1.2 c2
        rw [e]
        exact AG.run k _ g1 (fun _ => by have := hf c1.1; omega)
      · have e : fR C n (k + 1) q = (q.1, q.2.1, 1, q.2.2.2) := by rw [fR, if_pos c1, if_neg c2]
        rw [e]
        refine ⟨Or.inr ⟨rfl, ?_⟩, fun z => absurd z.1 Nat.one_ne_zero⟩
        rcases h with ⟨_, _, _, o, ⟨g1, g2, g3, g4, g5⟩, _⟩ | ⟨w1, _⟩
        · exact ⟨g1, g2, fun y => g4 y c2, fun y => by have y2 : q.2.1 = n := y; omega⟩
        · omega
    · have e : fR C n (k + 1) q = q := by rw [fR, if_neg c1]
      rw [e]
      exact ⟨h, c1⟩
/-- the model's reading and the reader's end -/
theorem read_eq {C : Nat → Nat} {n kf : Nat} {s : AS} {O : Nat → Int32} (h60 : n ≤ 60) (hkf : endR C n s kf) :
    ((fF C n O).2.2.1 = 0 ∧ (kf = n ∧ mE (rg C s kf)) ∧ (fF C n O).1 = cE C n + 1 ∧ ∀ i, i ≤ n → (i = n ∨ C i = 59) → ∃ o, oFit o (rg C s i) ∧ stOr (fF C n O).2.2.2 (cE C i) o) ∨ (¬ (fF C n O).2.2.1 = 0 ∧ ¬ (kf = n ∧ mE (rg C s kf)) ∧ (fF C n O).2.1 = kf) := by
  obtain ⟨h, hst⟩ := AG.run (C := C) (n := n) (s := s) 61 _ (AG.start (O := O)) (fun _ => by show n < (rdF C n 0 0 O).2.1 + 61; omega)
  obtain ⟨k1, k2, k3⟩ := hkf
  have hF : fR C n 61 (1, (rdF C n 0 0 O).2.1, (rdF C n 0 0 O).1, (rdF C n 0 0 O).2.2) = fF C n O := rfl
  rw [hF] at h hst
  rcases h with ⟨w0, hr, hi, o, ⟨g1, g2, g3, g4, g5⟩, hs⟩ | ⟨w1, b1, b2, b3, b4⟩
  · have hp : (fF C n O).2.1 = n := by have : ¬ (fF C n O).2.1 < n := fun z => hst ⟨w0, z⟩; omega
    rw [hp] at hr hi g2 g3 g5 hs
    have hk : kf = n := by
      rcases k3 with z | z
      · exact z
      · rcases Nat.lt_or_ge kf n with y | y
        · exact absurd (g2 kf y) z
        · omega
    refine Or.inl ⟨w0, ⟨hk, by rw [hk]; exact g3⟩, hr, fun i h1 h2 => ?_⟩
    rcases Nat.lt_or_ge i n with z | z
    · exact hi i z (by rcases h2 with y | y; omega; exact y)
    · obtain rfl : i = n := by omega
      exact ⟨o, g5, hs⟩
  · have hk : (fF C n O).2.1 = kf := by
      rcases Nat.lt_trichotomy (fF C n O).2.1 kf with z | z | z
      · have := k2 _ z
        rw [b3 (by omega)] at this
        exact absurd this (by decide)
      · exact z
      · rcases k3 with y | y
        · omega
        · exact absurd (b2 kf z) y
    refine Or.inr ⟨by omega, fun z => ?_, hk⟩
    rw [hk] at b4
    exact b4 z.1 z.2

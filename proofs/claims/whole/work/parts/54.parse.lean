/-! ===== both readings say the same ===== -/
def okP (C : Nat → Nat) (s : AS) (i : Nat) : Prop := ∀ j, j < i → (tk (rg C s j) (C j)).isSome = true
def n59 (C : Nat → Nat) (p q : Nat) : Prop := ∀ j, p ≤ j → j < q → ¬ C j = 59
def badA (C : Nat → Nat) (n : Nat) (s : AS) (q : Nat) : Prop := q ≤ n ∧ okP C s q ∧ (q < n → tk (rg C s q) (C q) = none) ∧ (q = n → ¬ mE (rg C s q))
def gooA (C : Nat → Nat) (n : Nat) (s : AS) (q : Nat) (o : OQ) : Prop := q ≤ n ∧ okP C s q ∧ mE (rg C s q) ∧ (q < n → ¬ C q = 59 → tk (rg C s q) (C q) = none) ∧ oFit o (rg C s q)
theorem rg_s {C : Nat → Nat} {s s' : AS} {i : Nat} (hk : okP C s i) (h : tk (rg C s i) (C i) = some s') : rg C s (i + 1) = s' ∧ okP C s (i + 1) := by
  refine ⟨?_, fun j hj => ?_⟩
  · show (tk (rg C s i) (C i)).getD (rg C s i) = s'
    rw [h]; rfl
  · rcases Nat.lt_or_ge j i with q | q
    · exact hk j q
    · obtain rfl : j = i := by omega
      rw [h]; rfl
theorem n59_s {C : Nat → Nat} {p q : Nat} (h : n59 C p q) (hq : ¬ C q = 59) : n59 C p (q + 1) := by
  intro j h1 h2
  rcases Nat.lt_or_ge j q with z | z
  · exact h j h1 z
  · obtain rfl : j = q := by omega
    exact hq
theorem sg_n {C : Nat → Nat} {n i : Nat} (h : i < n) : sg C n i = C i := if_pos h
theorem sg_z {C : Nat → Nat} {n i : Nat} (h : ¬ i < n) : sg C n i = 0 := if_neg h
theorem sg_lt {C : Nat → Nat} {n i : Nat} (h : ¬ sg C n i = 0) : i < n ∧ sg C n i = C i := by
  by_cases q : i < n
  · exact ⟨q, if_pos q⟩
  · exact absurd (if_neg q) h
/-- the end of a state which may not end and takes no sign -/
theorem badA.of {C : Nat → Nat} {n q : Nat} {s : AS} (hq : q ≤ n) (hk : okP C s q) (hE : ¬ mE (rg C s q)) (ht : q < n → ¬ C q = 59 → tk (rg C s q) (C q) = none) : badA C n s q := by
  refine ⟨hq, hk, fun h => ?_, fun _ => hE⟩
  by_cases h59 : C q = 59
  · show (if C q = 59 then tkE (rg C s q) else _) = none
    rw [if_pos h59]
    exact if_neg hE
  · exact ht h h59
theorem tk_L {lt : Nat} {v : Int32} {w c : Nat} (hc : ¬ c = 59) : tk (0, lt, v, w) c = tkL (0, lt, v, w) c := if_neg hc
theorem nI_pos0 {k : Nat} (h0 : 0 < k) (h : k < 2 ^ 31) : ¬ nI k ≤ 0 := fun z => by
  rw [Int32.le_iff_toInt_le, nI_toInt h, show (0 : Int32).toInt = 0 by decide] at z
  omega
/-- the clerks -/
theorem rd_cm {C : Nat → Nat} {n : Nat} {s : AS} {w : Nat} : ∀ (f q k K p : Nat), 4 ≤ f + k → k < 4 → 2 ^ k ≤ K → K < 2 ^ (k + 1) → q ≤ n → okP C s q → n59 C p q → rg C s q = (1, 111, nI K, w) →
    n59 C p (cmu C n f q k K).1 ∧ q ≤ (cmu C n f q k K).1 ∧ gooA C n s (cmu C n f q k K).1 (111, (cmu C n f q k K).2, 0) := by
  intro f
  induction f with
  | zero => intro q k K p h1 h2; omega
  | succ f ih =>
    intro q k K p h1 h2 h3 h4 hq hk hn hS
    have hK16 : K < 16 := Nat.lt_of_lt_of_le h4 (Nat.pow_le_pow_right (n := 2) (by decide) (show k + 1 ≤ 4 by omega))
    have hK0 : 0 < K := Nat.lt_of_lt_of_le (Nat.two_pow_pos k) h3
    rw [cmu]
    by_cases z : k + 1 + 48 ≤ sg C n q ∧ sg C n q ≤ 3 + 48
    · rw [if_pos z]
      obtain ⟨hqn, hqc⟩ := sg_lt (C := C) (n := n) (i := q) (by omega)
      rw [hqc] at z ⊢
      have hb : K < 2 ^ (C q - 48) := Nat.lt_of_lt_of_le h4 (Nat.pow_le_pow_right (n := 2) (by decide) (by omega))
      have hb16 : 2 ^ (C q - 48) ≤ 2 ^ 3 := Nat.pow_le_pow_right (by decide) (by omega)
      have ht : tk (rg C s q) (C q) = some (1, 111, nI (K ||| 2 ^ (C q - 48)), w) := by
        rw [hS]
        show (if C q = 59 then _ else tkR (1, 111, nI K, w) (C q)) = _
        rw [if_neg (by omega)]
        unfold tkR
        rw [if_pos ⟨by omega, nI_lt hb (by omega)⟩]
        show some (1, 111, nI K ||| nI (2 ^ (C q - 48)), w) = _
        rw [or_nI]
      obtain ⟨hS2, hk2⟩ := rg_s hk ht
      have hor : K ||| 2 ^ (C q - 48) < 2 ^ (C q - 48 + 1) := Nat.or_lt_two_pow (Nat.lt_of_lt_of_le hb (Nat.pow_le_pow_right (by decide) (by omega))) (Nat.pow_lt_pow_right (by decide) (by omega))
      have := ih (q + 1) (C q - 48) (K ||| 2 ^ (C q - 48)) p (by omega) (by omega) Nat.right_le_or hor (by omega) hk2 (n59_s hn (by omega)) hS2
      exact ⟨this.1, by omega, this.2.2⟩
    · rw [if_neg z]
      refine ⟨hn, Nat.le_refl _, hq, hk, ?_, ?_, ?_⟩
      · rw [hS]; exact Or.inl ⟨rfl, nI_pos0 hK0 (by omega)⟩
      · intro hqn h59
        rw [sg_n hqn] at z
        rw [hS]
        show (if C q = 59 then _ else tkR (1, 111, nI K, w) (C q)) = _
        rw [if_neg h59]
        unfold tkR
        refine if_neg (fun y => ?_)
        obtain ⟨y1, y2⟩ := y
        have y6 : 2 ^ (C q - 48) ≤ 2 ^ 3 := Nat.pow_le_pow_right (by decide) (by omega)
        have y3 : K < 2 ^ (C q - 48) := (nI_ltI (by omega) (by omega)).mp y2
        have y4 : 2 ^ k < 2 ^ (C q - 48) := Nat.lt_of_le_of_lt h3 y3
        have y5 : k < C q - 48 := (Nat.pow_lt_pow_iff_right (by decide)).mp y4
        omega
      · rw [hS]; exact ⟨Or.inl ⟨rfl, hK0, hK16⟩, rfl, rfl, fun y => absurd y (show ¬ (111 : Nat) = 119 by decide)⟩
/-- what one order's reading says of the reader -/
def RDS (C : Nat → Nat) (n : Nat) (s : AS) (r p : Nat) (O : Nat → Int32) (R : Nat × Nat × (Nat → Int32)) : Prop :=
  (∀ j, j < 3 * r → R.2.2 j = O j) ∧ p ≤ R.2.1 ∧ n59 C p R.2.1 ∧ ((R.1 = 0 ∧ ∃ o, gooA C n s R.2.1 o ∧ R.2.2 (3 * r) = nI o.1 ∧ R.2.2 (3 * r + 1) = nI o.2.1 ∧ (o.1 = 119 → R.2.2 (3 * r + 2) = nI o.2.2)) ∨ (R.1 = 1 ∧ badA C n s R.2.1))
theorem upd_o {f : Nat → Int32} {k j : Nat} {x : Int32} (h : j ≠ k) : upd f k x j = f j := if_neg h
theorem upd_k {f : Nat → Int32} {k : Nat} {x : Int32} : upd f k x k = x := if_pos rfl
theorem n59_1 {C : Nat → Nat} {p : Nat} (h : ¬ C p = 59) : n59 C p (p + 1) := fun j h1 h2 => by
  obtain rfl : j = p := by omega
  exact h

/-! ===== both readings say the same ===== -/
def okP (C : Nat → Nat) (s : AS) (i : Nat) : Prop := ∀ j, j < i → (tk (rg C s j) (C j)).isSome = true
def n59 (C : Nat → Nat) (p q : Nat) : Prop := ∀ j, p ≤ j → j < q → ¬ C j = 59
def badA (C : Nat → Nat) (n : Nat) (s : AS) (q : Nat) : Prop := q ≤ n ∧ okP C s q ∧ (q < n → tk (rg C s q) (C q) = none) ∧ (q = n → ¬ mE (rg C s q))
def gooA (C : Nat → Nat) (n : Nat) (s : AS) (q : Nat) (o : OQ) : Prop := q ≤ n ∧ okP C s q ∧ mE (rg C s q) ∧ (q < n → ¬ C q = 59 → tk (rg C s q) (C q) = none) ∧ oFit o (rg C s q)
theorem rg_s {C : Nat → Nat} {s s' : AS} {i : Nat} (hk : okP C s i) (h : tk (rg C s i) (C i) = some s') : rg C s (i + 1) = s' ∧ okP C s (i + 1) := by
  refine ⟨?_, fun j hj => ?_⟩
  · show (tk (rg C s i) (C i)).getD (rg C s i) = s'
    rw [h]; rfl
  · rcases Nat.lt_or_ge j i with q | q
    · exact hk j q
    · obtain rfl : j = i := by omega
      rw [h]; rfl
theorem n59_s {C : Nat → Nat} {p q : Nat} (h : n59 C p q) (hq : ¬ C q = 59) : n59 C p (q + 1) := by
  intro j h1 h2
  rcases Nat.lt_or_ge j q with z | z
  · exact h j h1 z
  · obtain rfl : j = q := by omega
    exact hq
theorem sg_n {C : Nat → Nat} {n i : Nat} (h : i < n) : sg C n i = C i := if_pos h
theorem sg_z {C : Nat → Nat} {n i : Nat} (h : ¬ i < n) : sg C n i = 0 := if_neg h
theorem sg_lt {C : Nat → Nat} {n i : Nat} (h : ¬ sg C n i = 0) : i < n ∧ sg C n i = C i := by
  by_cases q : i < n
  · exact ⟨q, if_pos q⟩
  · exact absurd (if_neg q) h
/-- the end of a state which may not end and takes no sign -/
theorem badA.of {C : Nat → Nat} {n q : Nat} {s : AS} (hq : q ≤ n) (hk : okP C s q) (hE : ¬ mE (rg C s q)) (ht : q < n → ¬ C q = 59 → tk (rg C s q) (C q) = none) : badA C n s q := by
  refine ⟨hq, hk, fun h => ?_, fun _ => hE⟩
  by_cases h59 : C q = 59
  · show (if C q = 59 then tkE (rg C s q) else _) = none
    rw [if_pos h59]
    exact if_neg hE
  · exact ht h h59
theorem tk_L {lt : Nat} {v : Int32} {w c : Nat} (hc : ¬ c = 59) : tk (0, lt, v, w) c = tkL (0, lt, v, w) c := if_neg hc
theorem nI_pos0 {k : Nat} (h0 : 0 < k) (h : k < 2 ^ 31) : ¬ nI k ≤ 0 := fun z => by
  rw [Int32.le_iff_toInt_le, nI_toInt h, show (0 : Int32).toInt = 0 by decide] at z
  omega
/-- the clerks -/
theorem rd_cm {C : Nat → Nat} {n : Nat} {s : AS} {w : Nat} : ∀ (f q k K p : Nat), 4 ≤ f + k → k < 4 → 2 ^ k ≤ K → K < 2 ^ (k + 1) → q ≤ n → okP C s q → n59 C p q → rg C s q = (1, 111, nI K, w) →
    n59 C p (cmu C n f q k K).1 ∧ q ≤ (cmu C n f q k K).1 ∧ gooA C n s (cmu C n f q k K).1 (111, (cmu C n f q k K).2, 0) := by
  intro f
  induction f with
  | zero => intro q k K p h1 h2; omega
  | succ f ih =>
    intro q k K p h1 h2 h3 h4 hq hk hn hS
    have hK16 : K < 16 := Nat.lt_of_lt_of_le h4 (Nat.pow_le_pow_right (n := 2) (by decide) (show k + 1 ≤ 4 by omega))
    have hK0 : 0 < K := Nat.lt_of_lt_of_le (Nat.two_pow_pos k) h3
    rw [cmu]
    by_cases z : k + 1 + 48 ≤ sg C n q ∧ sg C n q ≤ 3 + 48
    · rw [if_pos z]
      obtain ⟨hqn, hqc⟩ := sg_lt (C := C) (n := n) (i := q) (by omega)
      rw [hqc] at z ⊢
      have hb : K < 2 ^ (C q - 48) := Nat.lt_of_lt_of_le h4 (Nat.pow_le_pow_right (n := 2) (by decide) (by omega))
      have hb16 : 2 ^ (C q - 48) ≤ 2 ^ 3 := Nat.pow_le_pow_right (by decide) (by omega)
      have ht : tk (rg C s q) (C q) = some (1, 111, nI (K ||| 2 ^ (C q - 48)), w) := by
        rw [hS]
        show (if C q = 59 then _ else tkR (1, 111, nI K, w) (C q)) = _
        rw [if_neg (by omega)]
        unfold tkR
        rw [if_pos ⟨by omega, nI_lt hb (by omega)⟩]
        show some (1, 111, nI K ||| nI (2 ^ (C q - 48)), w) = _
        rw [or_nI]
      obtain ⟨hS2, hk2⟩ := rg_s hk ht
      have hor : K ||| 2 ^ (C q - 48) < 2 ^ (C q - 48 + 1) := Nat.or_lt_two_pow (Nat.lt_of_lt_of_le hb (Nat.pow_le_pow_right (by decide) (by omega))) (Nat.pow_lt_pow_right (by decide) (by omega))
      have := ih (q + 1) (C q - 48) (K ||| 2 ^ (C q - 48)) p (by omega) (by omega) Nat.right_le_or hor (by omega) hk2 (n59_s hn (by omega)) hS2
      exact ⟨this.1, by omega, this.2.2⟩
    · rw [if_neg z]
      refine ⟨hn, Nat.le_refl _, hq, hk, ?_, ?_, ?_⟩
      · rw [hS]; exact Or.inl ⟨rfl, nI_pos0 hK0 (by omega)⟩
      · intro hqn h59
        have hqn' : q < n := hqn
        rw [sg_n hqn'] at z
        show tk (rg C s q) (C q) = none
        rw [hS]
        show (if C q = 59 then _ else tkR (1, 111, nI K, w) (C q)) = _
        rw [if_neg h59]
        unfold tkR
        refine if_neg (fun y => ?_)
        obtain ⟨y1, y2⟩ : (48 ≤ C q ∧ C q ≤ 51) ∧ nI K < nI (2 ^ (C q - 48)) := y
        have y6 : 2 ^ (C q - 48) ≤ 2 ^ 3 := Nat.pow_le_pow_right (by decide) (by omega)
        have y3 : K < 2 ^ (C q - 48) := (nI_ltI (by omega) (by omega)).mp y2
        have y4 : 2 ^ k < 2 ^ (C q - 48) := Nat.lt_of_le_of_lt h3 y3
        have y5 : k < C q - 48 := (Nat.pow_lt_pow_iff_right (by decide)).mp y4
        omega
      · rw [hS]; exact ⟨Or.inl ⟨rfl, hK0, hK16⟩, rfl, rfl, fun y => absurd y (show ¬ (111 : Nat) = 119 by decide)⟩
/-- what one order's reading says of the reader -/
def RDS (C : Nat → Nat) (n : Nat) (s : AS) (r p : Nat) (O : Nat → Int32) (R : Nat × Nat × (Nat → Int32)) : Prop :=
  (∀ j, j < 3 * r → R.2.2 j = O j) ∧ p ≤ R.2.1 ∧ n59 C p R.2.1 ∧ ((R.1 = 0 ∧ ∃ o, gooA C n s R.2.1 o ∧ R.2.2 (3 * r) = nI o.1 ∧ R.2.2 (3 * r + 1) = nI o.2.1 ∧ (o.1 = 119 → R.2.2 (3 * r + 2) = nI o.2.2)) ∨ (R.1 = 1 ∧ badA C n s R.2.1))
theorem upd_o {f : Nat → Int32} {k j : Nat} {x : Int32} (h : j ≠ k) : upd f k x j = f j := if_neg h
theorem upd_k {f : Nat → Int32} {k : Nat} {x : Int32} : upd f k x k = x := if_pos rfl
theorem n59_1 {C : Nat → Nat} {p : Nat} (h : ¬ C p = 59) : n59 C p (p + 1) := fun j h1 h2 => by
  obtain rfl : j = p := by omega
  exact h
theorem rd_o {C : Nat → Nat} {n r p : Nat} {s : AS} {O : Nat → Int32} (hk : okP C s p) (hS0 : (rg C s p).1 = 0) (hc : sg C n p = 111) : RDS C n s r p O (rdF C n r p O) := by
  obtain ⟨hpn, hpc⟩ := sg_lt (C := C) (n := n) (i := p) (by omega)
  rw [hc] at hpc
  obtain ⟨w, ht⟩ : ∃ w, tk (rg C s p) (C p) = some (1, 111, 0, w) := by
    refine ⟨(rg C s p).2.2.2, ?_⟩
    rw [← hpc]
    show (if 111 = 59 then _ else if (rg C s p).1 = 0 then tkL (rg C s p) 111 else _) = _
    rw [if_neg (by decide), if_pos hS0]
    rfl
  obtain ⟨hS1, hk1⟩ := rg_s hk ht
  have hn1 : n59 C p (p + 1) := n59_1 (by omega)
  by_cases hd : 48 ≤ sg C n (p + 1) ∧ sg C n (p + 1) ≤ 51
  · obtain ⟨h1n, h1c⟩ := sg_lt (C := C) (n := n) (i := p + 1) (by omega)
    have e : rdF C n r p O = (0, (cmu C n 4 (p + 2) (sg C n (p + 1) - 48) (2 ^ (sg C n (p + 1) - 48))).1, upd (upd O (3 * r) (nI 111)) (3 * r + 1) (nI (cmu C n 4 (p + 2) (sg C n (p + 1) - 48) (2 ^ (sg C n (p + 1) - 48))).2)) := by simp only [rdF, hc, hd, and_self, reduceIte]
    rw [e, h1c]
    rw [h1c] at hd
    have hb : 2 ^ (C (p + 1) - 48) ≤ 2 ^ 3 := Nat.pow_le_pow_right (by decide) (by omega)
    have ht2 : tk (rg C s (p + 1)) (C (p + 1)) = some (1, 111, nI (2 ^ (C (p + 1) - 48)), w) := by
      rw [hS1]
      show (if C (p + 1) = 59 then _ else tkR (1, 111, 0, w) (C (p + 1))) = _
      rw [if_neg (by omega)]
      unfold tkR
      rw [if_pos ⟨hd, nI_lt (a := 0) (Nat.two_pow_pos _) (by omega)⟩]
      show some (1, 111, nI 0 ||| nI (2 ^ (C (p + 1) - 48)), w) = _
      rw [or_nI, Nat.zero_or]
    obtain ⟨hS2, hk2⟩ := rg_s hk1 ht2
    have g := rd_cm (n := n) 4 (p + 2) (C (p + 1) - 48) (2 ^ (C (p + 1) - 48)) p (by omega) (by omega) (Nat.le_refl _) (Nat.pow_lt_pow_right (by decide) (by omega)) (by omega) hk2 (n59_s hn1 (by omega)) hS2
    refine ⟨fun j hj => ?_, by have := g.2.1; show p ≤ (cmu C n 4 (p + 2) (C (p + 1) - 48) (2 ^ (C (p + 1) - 48))).1; omega, g.1, Or.inl ⟨rfl, _, g.2.2, ?_, ?_, fun z => absurd z (show ¬ (111 : Nat) = 119 by decide)⟩⟩
    · show upd (upd O (3 * r) _) (3 * r + 1) _ j = O j
      rw [upd_o (by omega), upd_o (by omega)]
    · show upd (upd O (3 * r) _) (3 * r + 1) _ (3 * r) = _
      rw [upd_o (by omega), upd_k]
    · exact upd_k
  · have e : rdF C n r p O = (1, p + 1, upd (upd O (3 * r) (nI 111)) (3 * r + 1) (nI 0)) := by simp only [rdF, hc, hd, reduceIte]
    rw [e]
    refine ⟨fun j hj => ?_, Nat.le_succ p, hn1, Or.inr ⟨rfl, badA.of hpn hk1 ?_ ?_⟩⟩
    · show upd (upd O (3 * r) _) (3 * r + 1) _ j = O j
      rw [upd_o (by omega), upd_o (by omega)]
    · rw [hS1]
      show ¬ ((1 = 1 ∧ ¬ (0 : Int32) ≤ 0) ∨ (1 = 2 ∧ ¬ (0 : Int32) < 0) ∨ 1 = 5)
      decide
    · intro h1 h59
      rw [sg_n h1] at hd
      rw [hS1]
      show (if C (p + 1) = 59 then _ else tkR (1, 111, 0, w) (C (p + 1))) = _
      rw [if_neg h59]
      exact if_neg (fun z => hd z.1)
theorem rd_n {C : Nat → Nat} {n r p c : Nat} {s : AS} {O : Nat → Int32} (hk : okP C s p) (hS0 : (rg C s p).1 = 0) (hc : sg C n p = c) (hL : c = 100 ∨ c = 108 ∨ c = 116) : RDS C n s r p O (rdF C n r p O) := by
  obtain ⟨hpn, hpc⟩ := sg_lt (C := C) (n := n) (i := p) (by omega)
  rw [hc] at hpc
  have hc1 : ¬ sg C n p = 111 := by omega
  have hc2 : sg C n p = 100 ∨ sg C n p = 108 ∨ sg C n p = 116 := by omega
  obtain ⟨w, ht⟩ : ∃ w, tk (rg C s p) (C p) = some (2, c, -1, w) := by
    refine ⟨(rg C s p).2.2.2, ?_⟩
    rw [← hpc]
    show (if c = 59 then _ else if (rg C s p).1 = 0 then tkL (rg C s p) c else _) = _
    rw [if_neg (by omega), if_pos hS0]
    unfold tkL
    rw [if_neg (by omega), if_pos hL]
  obtain ⟨hS1, hk1⟩ := rg_s hk ht
  have hn1 : n59 C p (p + 1) := n59_1 (by omega)
  have hne : ¬ c = 119 := by omega
  by_cases hd : 48 ≤ sg C n (p + 1) ∧ sg C n (p + 1) ≤ 57
  · obtain ⟨h1n, h1c⟩ := sg_lt (C := C) (n := n) (i := p + 1) (by omega)
    have e : rdF C n r p O = (0, n2p C n (p + 2) (sg C n (p + 1) - 48), upd (upd O (3 * r) (nI (sg C n p))) (3 * r + 1) (nI (n2v C n (p + 2) (sg C n (p + 1) - 48)))) := by
      unfold rdF
      rw [if_neg hc1, if_pos hc2, if_pos hd]
    rw [e, h1c, hc]
    rw [h1c] at hd
    have ht2 : tk (rg C s (p + 1)) (C (p + 1)) = some (2, c, nI (C (p + 1) - 48), w) := by
      rw [hS1]
      show (if C (p + 1) = 59 then _ else tkD (2, c, -1, w) (C (p + 1))) = _
      rw [if_neg (by omega)]
      exact tkD_0 hd (by decide) (by decide) (by decide)
    obtain ⟨hS2, hk2⟩ := rg_s hk1 ht2
    have hn2 : n59 C p (p + 2) := n59_s hn1 (by omega)
    have hst : ∀ V : Nat, ∀ j, j < 3 * r → upd (upd O (3 * r) (nI c)) (3 * r + 1) (nI V) j = O j := fun V j hj => by rw [upd_o (by omega), upd_o (by omega)]
    have hs0 : ∀ V : Nat, upd (upd O (3 * r) (nI c)) (3 * r + 1) (nI V) (3 * r) = nI c := fun V => by rw [upd_o (by omega), upd_k]
    by_cases z : n2c C n (p + 2) (C (p + 1) - 48)
    · obtain ⟨z1, z2, z3⟩ := z
      have hq : n2p C n (p + 2) (C (p + 1) - 48) = p + 3 := if_pos ⟨z1, z2, z3⟩
      have hv : n2v C n (p + 2) (C (p + 1) - 48) = 10 * (C (p + 1) - 48) + sg C n (p + 2) - 48 := if_pos ⟨z1, z2, z3⟩
      obtain ⟨h2n, h2c⟩ := sg_lt (C := C) (n := n) (i := p + 2) (by omega)
      rw [hq, hv, h2c]
      rw [h2c] at z2 z3
      have ht3 : tk (rg C s (p + 2)) (C (p + 2)) = some (2, c, nI (10 * (C (p + 1) - 48) + C (p + 2) - 48), w) := by
        rw [hS2]
        show (if C (p + 2) = 59 then _ else tkD (2, c, nI (C (p + 1) - 48), w) (C (p + 2))) = _
        rw [if_neg (by omega), tkD_1 ⟨z2, z3⟩ (fun y => by have := (nI_eq0 (by omega)).mp y; omega) (nI_le (by omega) (by decide)) (nI_pos' (by omega)), pk_mul, nI_add]
        rw [show (C (p + 1) - 48) * 10 + (C (p + 2) - 48) = 10 * (C (p + 1) - 48) + C (p + 2) - 48 by omega]
      obtain ⟨hS3, hk3⟩ := rg_s hk2 ht3
      refine ⟨hst _, by show p ≤ p + 3; omega, n59_s hn2 (by omega), Or.inl ⟨rfl, (c, 10 * (C (p + 1) - 48) + C (p + 2) - 48, 0), ⟨by show p + 3 ≤ n; omega, hk3, ?_, ?_, ?_⟩, hs0 _, upd_k, fun y => absurd y hne⟩⟩
      · show mE (rg C s (p + 3)); rw [hS3]; exact Or.inr (Or.inl ⟨rfl, nI_pos (by omega)⟩)
      · intro (h3 : p + 3 < n) (h59 : ¬ C (p + 3) = 59)
        show tk (rg C s (p + 3)) (C (p + 3)) = none
        rw [hS3]
        show (if C (p + 3) = 59 then _ else tkD (2, c, nI (10 * (C (p + 1) - 48) + C (p + 2) - 48), w) (C (p + 3))) = _
        rw [if_neg h59]
        refine if_neg (fun y => ?_)
        have := (nI_leI (a := 10 * (C (p + 1) - 48) + C (p + 2) - 48) (b := 9) (by omega) (by decide)).mp y.2.2
        omega
      · show oFit _ (rg C s (p + 3)); rw [hS3]; exact ⟨Or.inr (Or.inl ⟨hL, by show 10 * (C (p + 1) - 48) + C (p + 2) - 48 ≤ 99; omega⟩), rfl, rfl, fun y => absurd y hne⟩
    · have hq : n2p C n (p + 2) (C (p + 1) - 48) = p + 2 := if_neg z
      have hv : n2v C n (p + 2) (C (p + 1) - 48) = C (p + 1) - 48 := if_neg z
      rw [hq, hv]
      refine ⟨hst _, by show p ≤ p + 2; omega, hn2, Or.inl ⟨rfl, (c, C (p + 1) - 48, 0), ⟨by show p + 2 ≤ n; omega, hk2, ?_, ?_, ?_⟩, hs0 _, upd_k, fun y => absurd y hne⟩⟩
      · show mE (rg C s (p + 2)); rw [hS2]; exact Or.inr (Or.inl ⟨rfl, nI_pos (by omega)⟩)
      · intro (h3 : p + 2 < n) (h59 : ¬ C (p + 2) = 59)
        show tk (rg C s (p + 2)) (C (p + 2)) = none
        rw [hS2]
        show (if C (p + 2) = 59 then _ else tkD (2, c, nI (C (p + 1) - 48), w) (C (p + 2))) = _
        rw [if_neg h59]
        refine if_neg (fun y => z ?_)
        refine ⟨?_, by rw [sg_n h3]; exact y.1.1, by rw [sg_n h3]; exact y.1.2⟩
        rcases Nat.eq_zero_or_pos (C (p + 1) - 48) with k0 | k0
        · exact absurd (show nI (C (p + 1) - 48) = 0 by rw [k0]; rfl) y.2.1
        · exact k0
      · show oFit _ (rg C s (p + 2)); rw [hS2]; exact ⟨Or.inr (Or.inl ⟨hL, by show C (p + 1) - 48 ≤ 99; omega⟩), rfl, rfl, fun y => absurd y hne⟩
  · have e : rdF C n r p O = (1, p + 1, upd (upd O (3 * r) (nI (sg C n p))) (3 * r + 1) (nI (sg C n (p + 1)) - nI 48)) := by
      unfold rdF
      rw [if_neg hc1, if_pos hc2, if_neg hd]
    rw [e]
    refine ⟨fun j hj => ?_, Nat.le_succ p, hn1, Or.inr ⟨rfl, badA.of hpn hk1 ?_ ?_⟩⟩
    · show upd (upd O (3 * r) _) (3 * r + 1) _ j = O j
      rw [upd_o (by omega), upd_o (by omega)]
    · rw [hS1]
      show ¬ ((2 = 1 ∧ ¬ (-1 : Int32) ≤ 0) ∨ (2 = 2 ∧ ¬ (-1 : Int32) < 0) ∨ 2 = 5)
      decide
    · intro h1 h59
      rw [sg_n h1] at hd
      rw [hS1]
      show (if C (p + 1) = 59 then _ else tkD (2, c, -1, w) (C (p + 1))) = _
      rw [if_neg h59]
      exact if_neg (fun z => hd z.1)

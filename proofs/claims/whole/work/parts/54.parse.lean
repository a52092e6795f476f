/-! ===== both readings say the same ===== -/
def okP (C : Nat → Nat) (s : AS) (i : Nat) : Prop := ∀ j, j < i → (tk (rg C s j) (C j)).isSome = true
def n59 (C : Nat → Nat) (p q : Nat) : Prop := ∀ j, p ≤ j → j < q → ¬ C j = 59
def badA (C : Nat → Nat) (n : Nat) (s : AS) (q : Nat) : Prop := q ≤ n ∧ okP C s q ∧ (q < n → tk (rg C s q) (C q) = none) ∧ (q = n → ¬ mE (rg C s q))
def gooA (C : Nat → Nat) (n : Nat) (s : AS) (q : Nat) (o : OQ) : Prop := q ≤ n ∧ okP C s q ∧ mE (rg C s q) ∧ (q < n → ¬ C q = 59 → tk (rg C s q) (C q) = none) ∧ oFit o (rg C s q)
theorem rg_s {C : Nat → Nat} {s s' : AS} {i : Nat} (hk : okP C s i) (h : tk (rg C s i) (C i) = some s') : rg C s (i + 1) = s' ∧ okP C s (i + 1) := by
  refine ⟨?_, fun j hj => ?_⟩
  · show (tk (rg C s i) (C i)).getD (rg C s i) = s'
    rw [h]; rfl
  · rcases Nat.lt_or_ge j i with q | q
    · exact hk j q
    · obtain rfl : j = i := by omega
      rw [h]; rfl
theorem n59_s {C : Nat → Nat} {p q : Nat} (h : n59 C p q) (hq : ¬ C q = 59) : n59 C p (q + 1) := by
  intro j h1 h2
  rcases Nat.lt_or_ge j q with z | z
  · exact h j h1 z
  · obtain rfl : j = q := by omega
    exact hq
theorem sg_n {C : Nat → Nat} {n i : Nat} (h : i < n) : sg C n i = C i := if_pos h
theorem sg_z {C : Nat → Nat} {n i : Nat} (h : ¬ i < n) : sg C n i = 0 := if_neg h
theorem sg_lt {C : Nat → Nat} {n i : Nat} (h : ¬ sg C n i = 0) : i < n ∧ sg C n i = C i := by
  by_cases q : i < n
  · exact ⟨q, if_pos q⟩
  · exact absurd (if_neg q) h
/-- the end of a state which may not end and takes no sign -/
theorem badA.of {C : Nat → Nat} {n q : Nat} {s : AS} (hq : q ≤ n) (hk : okP C s q) (hE : ¬ mE (rg C s q)) (ht : q < n → ¬ C q = 59 → tk (rg C s q) (C q) = none) : badA C n s q := by
  refine ⟨hq, hk, fun h => ?_, fun _ => hE⟩
  by_cases h59 : C q = 59
  · show (if C q = 59 then tkE (rg C s q) else _) = none
    rw [if_pos h59]
    exact if_neg hE
  · exact ht h h59
theorem tk_L {lt : Nat} {v : Int32} {w c : Nat} (hc : ¬ c = 59) : tk (0, lt, v, w) c = tkL (0, lt, v, w) c := if_neg hc
theorem nI_pos0 {k : Nat} (h0 : 0 < k) (h : k < 2 ^ 31) : ¬ nI k ≤ 0 := fun z => by
  rw [Int32.le_iff_toInt_le, nI_toInt h, show (0 : Int32).toInt = 0 by decide] at z
  omega
/-- the clerks -/
theorem rd_cm {C : Nat → Nat} {n : Nat} {s : AS} {w : Nat} : ∀ (f q k K p : Nat), 4 ≤ f + k → k < 4 → 2 ^ k ≤ K → K < 2 ^ (k + 1) → q ≤ n → okP C s q → n59 C p q → rg C s q = (1, 111, nI K, w) →
    n59 C p (cmu C n f q k K).1 ∧ q ≤ (cmu C n f q k K).1 ∧ gooA C n s (cmu C n f q k K).1 (111, (cmu C n f q k K).2, 0) := by
  intro f
  induction f with
  | zero => intro q k K p h1 h2; omega
  | succ f ih =>
    intro q k K p h1 h2 h3 h4 hq hk hn hS
    have hK16 : K < 16 := Nat.lt_of_lt_of_le h4 (Nat.pow_le_pow_right (n := 2) (by decide) (show k + 1 ≤ 4 by omega))
    have hK0 : 0 < K := Nat.lt_of_lt_of_le (Nat.two_pow_pos k) h3
    rw [cmu]
    by_cases z : k + 1 + 48 ≤ sg C n q ∧ sg C n q ≤ 3 + 48
    · rw [if_pos z]
      obtain ⟨hqn, hqc⟩ := sg_lt (C := C) (n := n) (i := q) (by omega)
      rw [hqc] at z ⊢
      have hb : K < 2 ^ (C q - 48) := Nat.lt_of_lt_of_le h4 (Nat.pow_le_pow_right (n := 2) (by decide) (by omega))
      have hb16 : 2 ^ (C q - 48) ≤ 2 ^ 3 := Nat.pow_le_pow_right (by decide) (by omega)
      have ht : tk (rg C s q) (C q) = some (1, 111, nI (K ||| 2 ^ (C q - 48)), w) := by
        rw [hS]
        show (if C q = 59 then _ else tkR (1, 111, nI K, w) (C q)) = _
        rw [if_neg (by omega)]
        unfold tkR
        rw [if_pos ⟨by omega, nI_lt hb (by omega)⟩]
        show some (1, 111, nI K ||| nI (2 ^ (C q - 48)), w) = _
        rw [or_nI]
      obtain ⟨hS2, hk2⟩ := rg_s hk ht
      have hor : K ||| 2 ^ (C q - 48) < 2 ^ (C q - 48 + 1) := Nat.or_lt_two_pow (Nat.lt_of_lt_of_le hb (Nat.pow_le_pow_right (by decide) (by omega))) (Nat.pow_lt_pow_right (by decide) (by omega))
      have := ih (q + 1) (C q - 48) (K ||| 2 ^ (C q - 48)) p (by omega) (by omega) Nat.right_le_or hor (by omega) hk2 (n59_s hn (by omega)) hS2
      exact ⟨this.1, by omega, this.2.2⟩
    · rw [if_neg z]
      refine ⟨hn, Nat.le_refl _, hq, hk, ?_, ?_, ?_⟩
      · rw [hS]; exact Or.inl ⟨rfl, nI_pos0 hK0 (by omega)⟩
      · intro hqn h59
        have hqn' : q < n := hqn
        rw [sg_n hqn'] at z
        show tk (rg C s q) (C q) = none
        rw [hS]
        show (if C q = 59 then _ else tkR (1, 111, nI K, w) (C q)) = _
        rw [if_neg h59]
        unfold tkR
        refine if_neg (fun y => ?_)
        obtain ⟨y1, y2⟩ : (48 ≤ C q ∧ C q ≤ 51) ∧ nI K < nI (2 ^ (C q - 48)) := y
        have y6 : 2 ^ (C q - 48) ≤ 2 ^ 3 := Nat.pow_le_pow_right (by decide) (by omega)
        have y3 : K < 2 ^ (C q - 48) := (nI_ltI (by omega) (by omega)).mp y2
        have y4 : 2 ^ k < 2 ^ (C q - 48) := Nat.lt_of_le_of_lt h3 y3
        have y5 : k < C q - 48 := (Nat.pow_lt_pow_iff_right (by decide)).mp y4
        omega
      · rw [hS]; exact ⟨Or.inl ⟨rfl, hK0, hK16⟩, rfl, rfl, fun y => absurd y (show ¬ (111 : Nat) = 119 by decide)⟩
/-- what one order's reading says of the reader -/
def RDS (C : Nat → Nat) (n : Nat) (s : AS) (r p : Nat) (O : Nat → Int32) (R : Nat × Nat × (Nat → Int32)) : Prop :=
  (∀ j, j < 3 * r → R.2.2 j = O j) ∧ p ≤ R.2.1 ∧ n59 C p R.2.1 ∧ ((R.1 = 0 ∧ ∃ o, gooA C n s R.2.1 o ∧ R.2.2 (3 * r) = nI o.1 ∧ R.2.2 (3 * r + 1) = nI o.2.1 ∧ (o.1 = 119 → R.2.2 (3 * r + 2) = nI o.2.2)) ∨ (R.1 = 1 ∧ badA C n s R.2.1))
theorem upd_o {f : Nat → Int32} {k j : Nat} {x : Int32} (h : j ≠ k) : upd f k x j = f j := if_neg h
theorem upd_k {f : Nat → Int32} {k : Nat} {x : Int32} : upd f k x k = x := if_pos rfl
theorem n59_1 {C : Nat → Nat} {p : Nat} (h : ¬ C p = 59) : n59 C p (p + 1) := fun j h1 h2 => by
  obtain rfl : j = p := by omega
  exact h
theorem rd_o {C : Nat → Nat} {n r p : Nat} {s : AS} {O : Nat → Int32} (hk : okP C s p) (hS0 : (rg C s p).1 = 0) (hc : sg C n p = 111) : RDS C n s r p O (rdF C n r p O) := by
  obtain ⟨hpn, hpc⟩ := sg_lt (C := C) (n := n) (i := p) (by omega)
  rw [hc] at hpc
  obtain ⟨w, ht⟩ : ∃ w, tk (rg C s p) (C p) = some (1, 111, 0, w) := by
    refine ⟨(rg C s p).2.2.2, ?_⟩
    rw [← hpc]
    show (if 111 = 59 then _ else if (rg C s p).1 = 0 then tkL (rg C s p) 111 else _) = _
    rw [if_neg (by decide), if_pos hS0]
    rfl
  obtain ⟨hS1, hk1⟩ := rg_s hk ht
  have hn1 : n59 C p (p + 1) := n59_1 (by omega)
  by_cases hd : 48 ≤ sg C n (p + 1) ∧ sg C n (p + 1) ≤ 51
  · obtain ⟨h1n, h1c⟩ := sg_lt (C := C) (n := n) (i := p + 1) (by omega)
    have e : rdF C n r p O = (0, (cmu C n 4 (p + 2) (sg C n (p + 1) - 48) (2 ^ (sg C n (p + 1) - 48))).1, upd (upd O (3 * r) (nI 111)) (3 * r + 1) (nI (cmu C n 4 (p + 2) (sg C n (p + 1) - 48) (2 ^ (sg C n (p + 1) - 48))).2)) := by simp only [rdF, hc, hd, and_self, reduceIte]
    rw [e, h1c]
    rw [h1c] at hd
    have hb : 2 ^ (C (p + 1) - 48) ≤ 2 ^ 3 := Nat.pow_le_pow_right (by decide) (by omega)
    have ht2 : tk (rg C s (p + 1)) (C (p + 1)) = some (1, 111, nI (2 ^ (C (p + 1) - 48)), w) := by
      rw [hS1]
      show (if C (p + 1) = 59 then _ else tkR (1, 111, 0, w) (C (p + 1))) = _
      rw [if_neg (by omega)]
      unfold tkR
      rw [if_pos ⟨hd, nI_lt (a := 0) (Nat.two_pow_pos _) (by omega)⟩]
      show some (1, 111, nI 0 ||| nI (2 ^ (C (p + 1) - 48)), w) = _
      rw [or_nI, Nat.zero_or]
    obtain ⟨hS2, hk2⟩ := rg_s hk1 ht2
    have g := rd_cm (n := n) 4 (p + 2) (C (p + 1) - 48) (2 ^ (C (p + 1) - 48)) p (by omega) (by omega) (Nat.le_refl _) (Nat.pow_lt_pow_right (by decide) (by omega)) (by omega) hk2 (n59_s hn1 (by omega)) hS2
    refine ⟨fun j hj => ?_, by have := g.2.1; show p ≤ (cmu C n 4 (p + 2) (C (p + 1) - 48) (2 ^ (C (p + 1) - 48))).1; omega, g.1, Or.inl ⟨rfl, _, g.2.2, ?_, ?_, fun z => absurd z (show ¬ (111 : Nat) = 119 by decide)⟩⟩
    · show upd (upd O (3 * r) _) (3 * r + 1) _ j = O j
      rw [upd_o (by omega), upd_o (by omega)]
    · show upd (upd O (3 * r) _) (3 * r + 1) _ (3 * r) = _
      rw [upd_o (by omega), upd_k]
    · exact upd_k
  · have e : rdF C n r p O = (1, p + 1, upd (upd O (3 * r) (nI 111)) (3 * r + 1) (nI 0)) := by simp only [rdF, hc, hd, reduceIte]
    rw [e]
    refine ⟨fun j hj => ?_, Nat.le_succ p, hn1, Or.inr ⟨rfl, badA.of hpn hk1 ?_ ?_⟩⟩
    · show upd (upd O (3 * r) _) (3 * r + 1) _ j = O j
      rw [upd_o (by omega), upd_o (by omega)]
    · rw [hS1]
      show ¬ ((1 = 1 ∧ ¬ (0 : Int32) ≤ 0) ∨ (1 = 2 ∧ ¬ (0 : Int32) < 0) ∨ 1 = 5)
      decide
    · intro h1 h59
      rw [sg_n h1] at hd
      rw [hS1]
      show (if C (p + 1) = 59 then _ else tkR (1, 111, 0, w) (C (p + 1))) = _
      rw [if_neg h59]
      exact if_neg (fun z => hd z.1)
theorem rd_n {C : Nat → Nat} {n r p c : Nat} {s : AS} {O : Nat → Int32} (hk : okP C s p) (hS0 : (rg C s p).1 = 0) (hc : sg C n p = c) (hL : c = 100 ∨ c = 108 ∨ c = 116) : RDS C n s r p O (rdF C n r p O) := by
  obtain ⟨hpn, hpc⟩ := sg_lt (C := C) (n := n) (i := p) (by omega)
  rw [hc] at hpc
  have hc1 : ¬ sg C n p = 111 := by omega
  have hc2 : sg C n p = 100 ∨ sg C n p = 108 ∨ sg C n p = 116 := by omega
  obtain ⟨w, ht⟩ : ∃ w, tk (rg C s p) (C p) = some (2, c, -1, w) := by
    refine ⟨(rg C s p).2.2.2, ?_⟩
    rw [← hpc]
    show (if c = 59 then _ else if (rg C s p).1 = 0 then tkL (rg C s p) c else _) = _
    rw [if_neg (by omega), if_pos hS0]
    unfold tkL
    rw [if_neg (by omega), if_pos hL]
  obtain ⟨hS1, hk1⟩ := rg_s hk ht
  have hn1 : n59 C p (p + 1) := n59_1 (by omega)
  have hne : ¬ c = 119 := by omega
  by_cases hd : 48 ≤ sg C n (p + 1) ∧ sg C n (p + 1) ≤ 57
  · obtain ⟨h1n, h1c⟩ := sg_lt (C := C) (n := n) (i := p + 1) (by omega)
    have e : rdF C n r p O = (0, n2p C n (p + 2) (sg C n (p + 1) - 48), upd (upd O (3 * r) (nI (sg C n p))) (3 * r + 1) (nI (n2v C n (p + 2) (sg C n (p + 1) - 48)))) := by
      unfold rdF
      rw [if_neg hc1, if_pos hc2, if_pos hd]
    rw [e, h1c, hc]
    rw [h1c] at hd
    have ht2 : tk (rg C s (p + 1)) (C (p + 1)) = some (2, c, nI (C (p + 1) - 48), w) := by
      rw [hS1]
      show (if C (p + 1) = 59 then _ else tkD (2, c, -1, w) (C (p + 1))) = _
      rw [if_neg (by omega)]
      exact tkD_0 hd (by decide) (by decide) (by decide)
    obtain ⟨hS2, hk2⟩ := rg_s hk1 ht2
    have hn2 : n59 C p (p + 2) := n59_s hn1 (by omega)
    have hst : ∀ V : Nat, ∀ j, j < 3 * r → upd (upd O (3 * r) (nI c)) (3 * r + 1) (nI V) j = O j := fun V j hj => by rw [upd_o (by omega), upd_o (by omega)]
    have hs0 : ∀ V : Nat, upd (upd O (3 * r) (nI c)) (3 * r + 1) (nI V) (3 * r) = nI c := fun V => by rw [upd_o (by omega), upd_k]
    by_cases z : n2c C n (p + 2) (C (p + 1) - 48)
    · obtain ⟨z1, z2, z3⟩ := z
      have hq : n2p C n (p + 2) (C (p + 1) - 48) = p + 3 := if_pos ⟨z1, z2, z3⟩
      have hv : n2v C n (p + 2) (C (p + 1) - 48) = 10 * (C (p + 1) - 48) + sg C n (p + 2) - 48 := if_pos ⟨z1, z2, z3⟩
      obtain ⟨h2n, h2c⟩ := sg_lt (C := C) (n := n) (i := p + 2) (by omega)
      rw [hq, hv, h2c]
      rw [h2c] at z2 z3
      have ht3 : tk (rg C s (p + 2)) (C (p + 2)) = some (2, c, nI (10 * (C (p + 1) - 48) + C (p + 2) - 48), w) := by
        rw [hS2]
        show (if C (p + 2) = 59 then _ else tkD (2, c, nI (C (p + 1) - 48), w) (C (p + 2))) = _
        rw [if_neg (by omega), tkD_1 ⟨z2, z3⟩ (fun y => by have := (nI_eq0 (by omega)).mp y; omega) (nI_le (by omega) (by decide)) (nI_pos' (by omega)), pk_mul, nI_add]
        rw [show (C (p + 1) - 48) * 10 + (C (p + 2) - 48) = 10 * (C (p + 1) - 48) + C (p + 2) - 48 by omega]
      obtain ⟨hS3, hk3⟩ := rg_s hk2 ht3
      refine ⟨hst _, by show p ≤ p + 3; omega, n59_s hn2 (by omega), Or.inl ⟨rfl, (c, 10 * (C (p + 1) - 48) + C (p + 2) - 48, 0), ⟨by show p + 3 ≤ n; omega, hk3, ?_, ?_, ?_⟩, hs0 _, upd_k, fun y => absurd y hne⟩⟩
      · show mE (rg C s (p + 3)); rw [hS3]; exact Or.inr (Or.inl ⟨rfl, nI_pos (by omega)⟩)
      · intro (h3 : p + 3 < n) (h59 : ¬ C (p + 3) = 59)
        show tk (rg C s (p + 3)) (C (p + 3)) = none
        rw [hS3]
        show (if C (p + 3) = 59 then _ else tkD (2, c, nI (10 * (C (p + 1) - 48) + C (p + 2) - 48), w) (C (p + 3))) = _
        rw [if_neg h59]
        refine if_neg (fun y => ?_)
        have := (nI_leI (a := 10 * (C (p + 1) - 48) + C (p + 2) - 48) (b := 9) (by omega) (by decide)).mp y.2.2
        omega
      · show oFit _ (rg C s (p + 3)); rw [hS3]; exact ⟨Or.inr (Or.inl ⟨hL, by show 10 * (C (p + 1) - 48) + C (p + 2) - 48 ≤ 99; omega⟩), rfl, rfl, fun y => absurd y hne⟩
    · have hq : n2p C n (p + 2) (C (p + 1) - 48) = p + 2 := if_neg z
      have hv : n2v C n (p + 2) (C (p + 1) - 48) = C (p + 1) - 48 := if_neg z
      rw [hq, hv]
      refine ⟨hst _, by show p ≤ p + 2; omega, hn2, Or.inl ⟨rfl, (c, C (p + 1) - 48, 0), ⟨by show p + 2 ≤ n; omega, hk2, ?_, ?_, ?_⟩, hs0 _, upd_k, fun y => absurd y hne⟩⟩
      · show mE (rg C s (p + 2)); rw [hS2]; exact Or.inr (Or.inl ⟨rfl, nI_pos (by omega)⟩)
      · intro (h3 : p + 2 < n) (h59 : ¬ C (p + 2) = 59)
        show tk (rg C s (p + 2)) (C (p + 2)) = none
        rw [hS2]
        show (if C (p + 2) = 59 then _ else tkD (2, c, nI (C (p + 1) - 48), w) (C (p + 2))) = _
        rw [if_neg h59]
        refine if_neg (fun y => z ?_)
        refine ⟨?_, by rw [sg_n h3]; exact y.1.1, by rw [sg_n h3]; exact y.1.2⟩
        rcases Nat.eq_zero_or_pos (C (p + 1) - 48) with k0 | k0
        · exact absurd (show nI (C (p + 1) - 48) = 0 by rw [k0]; rfl) y.2.1
        · exact k0
      · show oFit _ (rg C s (p + 2)); rw [hS2]; exact ⟨Or.inr (Or.inl ⟨hL, by show C (p + 1) - 48 ≤ 99; omega⟩), rfl, rfl, fun y => absurd y hne⟩
  · have e : rdF C n r p O = (1, p + 1, upd (upd O (3 * r) (nI (sg C n p))) (3 * r + 1) (nI (sg C n (p + 1)) - nI 48)) := by
      unfold rdF
      rw [if_neg hc1, if_pos hc2, if_neg hd]
    rw [e]
    refine ⟨fun j hj => ?_, Nat.le_succ p, hn1, Or.inr ⟨rfl, badA.of hpn hk1 ?_ ?_⟩⟩
    · show upd (upd O (3 * r) _) (3 * r + 1) _ j = O j
      rw [upd_o (by omega), upd_o (by omega)]
    · rw [hS1]
      show ¬ ((2 = 1 ∧ ¬ (-1 : Int32) ≤ 0) ∨ (2 = 2 ∧ ¬ (-1 : Int32) < 0) ∨ 2 = 5)
      decide
    · intro h1 h59
      rw [sg_n h1] at hd
      rw [hS1]
      show (if C (p + 1) = 59 then _ else tkD (2, c, -1, w) (C (p + 1))) = _
      rw [if_neg h59]
      exact if_neg (fun z => hd z.1)
theorem mE_no {e lt w : Nat} {v : Int32} (h1 : ¬ e = 1) (h2 : ¬ e = 2) (h5 : ¬ e = 5) : ¬ mE (e, lt, v, w) := by
  rintro (z | z | z)
  · exact h1 z.1
  · exact h2 z.1
  · exact h5 z
theorem tk_5 {lt w c : Nat} {v : Int32} (h : ¬ c = 59) : tk (5, lt, v, w) c = none := if_neg h
theorem rd_s {C : Nat → Nat} {n r p c : Nat} {s : AS} {O : Nat → Int32} (hk : okP C s p) (hS0 : (rg C s p).1 = 0) (hc : sg C n p = c) (hL : c = 114 ∨ c = 120) : RDS C n s r p O (rdF C n r p O) := by
  obtain ⟨hpn, hpc⟩ := sg_lt (C := C) (n := n) (i := p) (by omega)
  rw [hc] at hpc
  have hc1 : ¬ sg C n p = 111 := by omega
  have hc2 : ¬ (sg C n p = 100 ∨ sg C n p = 108 ∨ sg C n p = 116) := by omega
  have hc3 : sg C n p = 114 ∨ sg C n p = 120 := by omega
  have hne : ¬ c = 119 := by omega
  obtain ⟨v, w, ht⟩ : ∃ v w, tk (rg C s p) (C p) = some (3, c, v, w) := by
    refine ⟨(rg C s p).2.2.1, (rg C s p).2.2.2, ?_⟩
    rw [← hpc]
    show (if c = 59 then _ else if (rg C s p).1 = 0 then tkL (rg C s p) c else _) = _
    rw [if_neg (by omega), if_pos hS0]
    unfold tkL
    rw [if_neg (by omega), if_neg (by omega), if_pos (by omega)]
  obtain ⟨hS1, hk1⟩ := rg_s hk ht
  have hn1 : n59 C p (p + 1) := n59_1 (by omega)
  by_cases hd : 48 ≤ sg C n (p + 1) ∧ sg C n (p + 1) ≤ 52
  · obtain ⟨h1n, h1c⟩ := sg_lt (C := C) (n := n) (i := p + 1) (by omega)
    have e : rdF C n r p O = (0, p + 2, upd (upd O (3 * r) (nI (sg C n p))) (3 * r + 1) (nI (sg C n (p + 1) - 48))) := by
      unfold rdF
      rw [if_neg hc1, if_neg hc2, if_pos hc3, if_pos hd]
    rw [e, h1c, hc]
    rw [h1c] at hd
    have ht2 : tk (rg C s (p + 1)) (C (p + 1)) = some (5, c, nI (C (p + 1) - 48), w) := by
      rw [hS1]
      show (if C (p + 1) = 59 then _ else tkS (3, c, v, w) (C (p + 1))) = _
      rw [if_neg (by omega)]
      exact tkS_0 hne hd
    obtain ⟨hS2, hk2⟩ := rg_s hk1 ht2
    refine ⟨fun j hj => by show upd (upd O (3 * r) _) (3 * r + 1) _ j = O j; rw [upd_o (by omega), upd_o (by omega)], by show p ≤ p + 2; omega, n59_s hn1 (by omega), Or.inl ⟨rfl, (c, C (p + 1) - 48, 0), ⟨by show p + 2 ≤ n; omega, hk2, ?_, ?_, ?_⟩, by show upd (upd O (3 * r) _) (3 * r + 1) _ (3 * r) = _; rw [upd_o (by omega), upd_k], upd_k, fun y => absurd y hne⟩⟩
    · show mE (rg C s (p + 2)); rw [hS2]; exact Or.inr (Or.inr rfl)
    · intro (h3 : p + 2 < n) (h59 : ¬ C (p + 2) = 59)
      show tk (rg C s (p + 2)) (C (p + 2)) = none
      rw [hS2]; exact tk_5 h59
    · show oFit _ (rg C s (p + 2)); rw [hS2]; exact ⟨Or.inr (Or.inr (Or.inl ⟨hL, by show C (p + 1) - 48 < 5; omega⟩)), rfl, rfl, fun y => absurd y hne⟩
  · have e : rdF C n r p O = (1, p + 1, upd (upd O (3 * r) (nI (sg C n p))) (3 * r + 1) (nI (sg C n (p + 1)) - nI 48)) := by
      unfold rdF
      rw [if_neg hc1, if_neg hc2, if_pos hc3, if_neg hd]
    rw [e]
    refine ⟨fun j hj => ?_, Nat.le_succ p, hn1, Or.inr ⟨rfl, badA.of hpn hk1 ?_ ?_⟩⟩
    · show upd (upd O (3 * r) _) (3 * r + 1) _ j = O j
      rw [upd_o (by omega), upd_o (by omega)]
    · rw [hS1]
      exact mE_no (by decide) (by decide) (by decide)
    · intro h1 h59
      rw [sg_n h1] at hd
      rw [hS1]
      show (if C (p + 1) = 59 then _ else tkS (3, c, v, w) (C (p + 1))) = _
      rw [if_neg h59]
      exact tkS_no (by rw [if_neg hne]; exact hd)
theorem rd_w {C : Nat → Nat} {n r p : Nat} {s : AS} {O : Nat → Int32} (hk : okP C s p) (hS0 : (rg C s p).1 = 0) (hc : sg C n p = 119) : RDS C n s r p O (rdF C n r p O) := by
  obtain ⟨hpn, hpc⟩ := sg_lt (C := C) (n := n) (i := p) (by omega)
  rw [hc] at hpc
  obtain ⟨v, w, ht⟩ : ∃ v w, tk (rg C s p) (C p) = some (3, 119, v, w) := by
    refine ⟨(rg C s p).2.2.1, (rg C s p).2.2.2, ?_⟩
    rw [← hpc]
    show (if 119 = 59 then _ else if (rg C s p).1 = 0 then tkL (rg C s p) 119 else _) = _
    rw [if_neg (by decide), if_pos hS0]
    rfl
  obtain ⟨hS1, hk1⟩ := rg_s hk ht
  have hn1 : n59 C p (p + 1) := n59_1 (by omega)
  by_cases hd : 48 ≤ sg C n (p + 1) ∧ sg C n (p + 1) ≤ 51
  · obtain ⟨h1n, h1c⟩ := sg_lt (C := C) (n := n) (i := p + 1) (by omega)
    have hd' : 48 ≤ C (p + 1) ∧ C (p + 1) ≤ 51 := by rw [← h1c]; exact hd
    have ht2 : tk (rg C s (p + 1)) (C (p + 1)) = some (4, 119, nI (C (p + 1) - 48), w) := by
      rw [hS1]
      show (if C (p + 1) = 59 then _ else tkS (3, 119, v, w) (C (p + 1))) = _
      rw [if_neg (by omega)]
      exact tkS_1 rfl hd'
    obtain ⟨hS2, hk2⟩ := rg_s hk1 ht2
    have hn2 : n59 C p (p + 2) := n59_s hn1 (by omega)
    have hend : ∀ x : Nat, x ≤ 1 → (sg C n (p + 2) = 43 ∧ x = 1 ∨ sg C n (p + 2) = 45 ∧ x = 0) → RDS C n s r p O (0, p + 3, upd (upd (upd O (3 * r) (nI 119)) (3 * r + 1) (nI (C (p + 1) - 48))) (3 * r + 2) (nI x)) := by
      intro x hx1 hx
      obtain ⟨h2n, h2c⟩ := sg_lt (C := C) (n := n) (i := p + 2) (by omega)
      have ht3 : tk (rg C s (p + 2)) (C (p + 2)) = some (5, 119, nI (C (p + 1) - 48), x) := by
        rw [hS2]
        show (if C (p + 2) = 59 then _ else tkW (4, 119, nI (C (p + 1) - 48), w) (C (p + 2))) = _
        rw [if_neg (by omega)]
        unfold tkW
        rcases hx with ⟨y1, y2⟩ | ⟨y1, y2⟩
        · rw [if_pos (by omega), y2]
        · rw [if_neg (by omega), if_pos (by omega), y2]
      obtain ⟨hS3, hk3⟩ := rg_s hk2 ht3
      refine ⟨fun j hj => by show upd (upd (upd O (3 * r) _) (3 * r + 1) _) (3 * r + 2) _ j = O j; rw [upd_o (by omega), upd_o (by omega), upd_o (by omega)], by show p ≤ p + 3; omega, n59_s hn2 (by omega), Or.inl ⟨rfl, (119, C (p + 1) - 48, x), ⟨by show p + 3 ≤ n; omega, hk3, ?_, ?_, ?_⟩, by show upd (upd (upd O (3 * r) _) (3 * r + 1) _) (3 * r + 2) _ (3 * r) = _; rw [upd_o (by omega), upd_o (by omega), upd_k], by show upd (upd (upd O (3 * r) _) (3 * r + 1) _) (3 * r + 2) _ (3 * r + 1) = _; rw [upd_o (by omega), upd_k], fun _ => upd_k⟩⟩
      · show mE (rg C s (p + 3)); rw [hS3]; exact Or.inr (Or.inr rfl)
      · intro (h3 : p + 3 < n) (h59 : ¬ C (p + 3) = 59)
        show tk (rg C s (p + 3)) (C (p + 3)) = none
        rw [hS3]; exact tk_5 h59
      · show oFit _ (rg C s (p + 3)); rw [hS3]; exact ⟨Or.inr (Or.inr (Or.inr ⟨rfl, by show C (p + 1) - 48 < 4; omega, hx1⟩)), rfl, rfl, fun _ => rfl⟩
    by_cases h43 : sg C n (p + 2) = 43
    · have e : rdF C n r p O = (0, p + 3, upd (upd (upd O (3 * r) (nI 119)) (3 * r + 1) (nI (C (p + 1) - 48))) (3 * r + 2) (nI 1)) := by simp only [rdF, hc, hd, h43, h1c, hd', and_self, reduceIte, Nat.reduceEqDiff, or_self]
      rw [e]; exact hend 1 (by decide) (Or.inl ⟨h43, rfl⟩)
    by_cases h45 : sg C n (p + 2) = 45
    · have e : rdF C n r p O = (0, p + 3, upd (upd (upd O (3 * r) (nI 119)) (3 * r + 1) (nI (C (p + 1) - 48))) (3 * r + 2) (nI 0)) := by simp only [rdF, hc, hd, h45, h1c, hd', and_self, reduceIte, Nat.reduceEqDiff, or_self]
      rw [e]; exact hend 0 (by decide) (Or.inr ⟨h45, rfl⟩)
    have e : rdF C n r p O = (1, p + 2, upd (upd (upd O (3 * r) (nI 119)) (3 * r + 1) (nI (C (p + 1) - 48))) (3 * r + 2) (nI 0)) := by simp only [rdF, hc, hd, h43, h45, h1c, hd', and_self, reduceIte, Nat.reduceEqDiff, or_self]
    rw [e]
    refine ⟨fun j hj => by show upd (upd (upd O (3 * r) _) (3 * r + 1) _) (3 * r + 2) _ j = O j; rw [upd_o (by omega), upd_o (by omega), upd_o (by omega)], by show p ≤ p + 2; omega, hn2, Or.inr ⟨rfl, badA.of (by show p + 2 ≤ n; omega) hk2 ?_ ?_⟩⟩
    · show ¬ mE (rg C s (p + 2))
      rw [hS2]
      exact mE_no (by decide) (by decide) (by decide)
    · intro (h1 : p + 2 < n) (h59 : ¬ C (p + 2) = 59)
      rw [sg_n h1] at h43 h45
      show tk (rg C s (p + 2)) (C (p + 2)) = none
      rw [hS2]
      show (if C (p + 2) = 59 then _ else tkW (4, 119, nI (C (p + 1) - 48), w) (C (p + 2))) = _
      rw [if_neg h59]
      unfold tkW
      rw [if_neg h43, if_neg h45]
  · have e : rdF C n r p O = (1, p + 1, upd (upd (upd O (3 * r) (nI 119)) (3 * r + 1) (nI (sg C n (p + 1)) - nI 48)) (3 * r + 2) (nI 0)) := by simp only [rdF, hc, hd, reduceIte, Nat.reduceEqDiff, or_self]
    rw [e]
    refine ⟨fun j hj => by show upd (upd (upd O (3 * r) _) (3 * r + 1) _) (3 * r + 2) _ j = O j; rw [upd_o (by omega), upd_o (by omega), upd_o (by omega)], Nat.le_succ p, hn1, Or.inr ⟨rfl, badA.of hpn hk1 ?_ ?_⟩⟩
    · rw [hS1]
      exact mE_no (by decide) (by decide) (by decide)
    · intro h1 h59
      rw [sg_n h1] at hd
      rw [hS1]
      show (if C (p + 1) = 59 then _ else tkS (3, 119, v, w) (C (p + 1))) = _
      rw [if_neg h59]
      exact tkS_no (by rw [if_pos rfl]; exact hd)
theorem rd_x {C : Nat → Nat} {n r p : Nat} {s : AS} {O : Nat → Int32} (hp : p ≤ n) (hk : okP C s p) (hS0 : (rg C s p).1 = 0) (h1 : ¬ sg C n p = 111) (h2 : ¬ (sg C n p = 100 ∨ sg C n p = 108 ∨ sg C n p = 116)) (h3 : ¬ (sg C n p = 114 ∨ sg C n p = 120)) (h4 : ¬ sg C n p = 119) : RDS C n s r p O (rdF C n r p O) := by
  have e : rdF C n r p O = (1, p, upd O (3 * r) (nI (sg C n p))) := by
    unfold rdF
    rw [if_neg h1, if_neg h2, if_neg h3, if_neg h4]
  rw [e]
  refine ⟨fun j hj => by show upd O (3 * r) _ j = O j; rw [upd_o (by omega)], Nat.le_refl p, fun j h5 h6 => absurd h6 (by show ¬ j < p; omega), Or.inr ⟨rfl, badA.of hp hk ?_ ?_⟩⟩
  · show ¬ mE (rg C s p)
    rintro (z | z | z)
    · rw [hS0] at z; exact absurd z.1 (by decide)
    · rw [hS0] at z; exact absurd z.1 (by decide)
    · rw [hS0] at z; exact absurd z (by decide)
  · intro (h5 : p < n) (h59 : ¬ C p = 59)
    rw [sg_n h5] at h1 h2 h3 h4
    show (if C p = 59 then _ else if (rg C s p).1 = 0 then tkL (rg C s p) (C p) else _) = none
    rw [if_neg h59, if_pos hS0]
    exact tkL_no (by omega)
theorem rd_all {C : Nat → Nat} {n r p : Nat} {s : AS} {O : Nat → Int32} (hp : p ≤ n) (hk : okP C s p) (hS0 : (rg C s p).1 = 0) : RDS C n s r p O (rdF C n r p O) := by
  by_cases h1 : sg C n p = 111
  · exact rd_o hk hS0 h1
  by_cases h2 : sg C n p = 100 ∨ sg C n p = 108 ∨ sg C n p = 116
  · exact rd_n hk hS0 rfl h2
  by_cases h3 : sg C n p = 114 ∨ sg C n p = 120
  · exact rd_s hk hS0 rfl h3
  by_cases h4 : sg C n p = 119
  · exact rd_w hk hS0 h4
  exact rd_x hp hk hS0 h1 h2 h3 h4

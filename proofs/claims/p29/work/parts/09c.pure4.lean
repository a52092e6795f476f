/-! ===== pure: rounds, answers of the questions ===== -/
def mRnds : Nat → NS → NS
  | 0, N => N
  | t + 1, N => mRound (mRnds t N)
theorem Inv.rnds {N : NS} (h : Inv N) : ∀ t, Inv (mRnds t N)
  | 0 => h
  | t + 1 => (Inv.rnds h t).rnd
def elB (d k : Nat) (N : NS) : Nat → Bool
  | 0 => decide (¬ N 14 = 1 ∧ ¬ N (30 + 14 * d + 1) = 0)
  | c + 1 => elB d k N c || decide (N 3 = 1 ∧ ¬ c = k ∧ (N (30 + 14 * d + 0)).testBit c = true ∧ ¬ N (10 + c) = 1 ∧ ¬ N (30 + 14 * d + (6 + c)) = 1)
theorem elB_0 {d k : Nat} {N : NS} : elB d k N 0 = true ↔ (¬ N 14 = 1 ∧ ¬ N (30 + 14 * d + 1) = 0) := decide_eq_true_iff
theorem elB_s {d k c : Nat} {N : NS} : elB d k N (c + 1) = true ↔ (elB d k N c = true ∨ (N 3 = 1 ∧ ¬ c = k ∧ (N (30 + 14 * d + 0)).testBit c = true ∧ ¬ N (10 + c) = 1 ∧ ¬ N (30 + 14 * d + (6 + c)) = 1)) := by
  rw [elB, Bool.or_eq_true, decide_eq_true_iff]
def caB (d k : Nat) (N : NS) : Bool := elB d k N 4 && decide (¬ N (10 + k) = 1 ∧ (N (30 + 14 * d + 0)).testBit k = true ∧ N (30 + 14 * d + (6 + k)) = 1)
theorem caB_i {d k : Nat} {N : NS} : caB d k N = true ↔ (elB d k N 4 = true ∧ ¬ N (10 + k) = 1 ∧ (N (30 + 14 * d + 0)).testBit k = true ∧ N (30 + 14 * d + (6 + k)) = 1) := by
  rw [caB, Bool.and_eq_true, decide_eq_true_iff]
def cqI (d : Nat) (N : NS) : Nat → Nat
  | 0 => 0
  | c + 1 => cqI d N c ||| (if caB d c N = true then 2 ^ c else 0)
def ofd (d k : Nat) (N : NS) : Nat := if k < 3 then N (30 + 14 * d + k) else if k < 5 then N (30 + 14 * d + (k + 1)) else cOf d (k - 5) N
def whoF (w k : Nat) (N : NS) : Nat := if k = 0 then N (10 + w) else if k = 1 then (if w = 4 then 1 else N (15 + w)) else if k = 2 then utI w N (N 6) else if k = 3 then N (20 + w) else N (25 + w)
def suR (d : Nat) (N : NS) : Nat := if N (30 + 14 * d + 1) = 1 ∨ N (30 + 14 * d + 1) = 3 then 1 else if N (30 + 14 * d + 1) = 2 ∨ ¬ cOf d 3 N = 0 then 2 else 0
theorem inN {a k b : Nat} (h1 : a ≤ k) (h2 : k ≤ b) (hb : b < 2 ^ 31) : nI a ≤ nI k ∧ nI k ≤ nI b := ⟨nI_le h1 (by omega), nI_le h2 hb⟩
theorem in0 {k b : Nat} (h2 : k < b) (hb : b < 2 ^ 31) : 0 ≤ nI k ∧ nI k < nI b := ⟨nI_pos' (by omega), nI_lt h2 hb⟩
def vSet (v w : Int32) : Prop := (nI 0 ≤ v ∧ v ≤ nI 3) ∧ (v = nI 3 → nI 0 ≤ w ∧ w ≤ nI 1) ∧ (¬ v = nI 3 → nI 1 ≤ w ∧ w ≤ nI 50)
/-- the message p can be handed over -/
def MK (p : Nat) (N : NS) : Prop := N (150 + 4 * p) < 2 ^ 31 ∧ N (150 + 4 * p + 1) < 8 ∧ N (150 + 4 * p + 2) < 5 ∧ N (150 + 4 * p + 3) < 5 ∧ (N (150 + 4 * p + 3) = 4 → N (150 + 4 * p + 2) < 4)
theorem Inv.mk {N : NS} (h : Inv N) {p : Nat} (hp : p < N 6) : MK p N := by
  obtain ⟨g1, g2, g3, g4, g5, g6, g7, g9, g10⟩ := h.2.1 p hp
  have h8 := h.1.2.1
  refine ⟨by omega, by omega, g3, g4, fun h4 => ?_⟩
  rcases Nat.lt_or_ge (N (150 + 4 * p + 2)) 4 with q | q
  · exact q
  · exfalso
    have : ¬ N (150 + 4 * p) = 6 := fun z => by have := g10 z; omega
    have : ¬ (N (150 + 4 * p) = 1 ∨ N (150 + 4 * p) = 2 ∨ N (150 + 4 * p) = 5) := fun z => by have := g7 z; omega
    have : ¬ (N (150 + 4 * p) = 0 ∨ N (150 + 4 * p) = 3 ∨ N (150 + 4 * p) = 4) := fun z => by have := g9 z; omega
    omega
theorem rTo_le {d : Nat} : ∀ (k : Nat) (N : NS), rTo d k N ≤ k
  | 0, _ => Nat.le_refl _
  | k + 1, N => by
    rw [rTo]
    split
    · exact Nat.zero_le _
    · have := rTo_le (d := d) k (mRound N); omega
/-- the worst loss: of the first m messages, the place and the rounds of the latest end -/
def wlP (d : Nat) (N : NS) : Nat → Option (Nat × Nat)
  | 0 => none
  | m + 1 => match wlP d N m with
    | none => some (m, rTo d 201 (mLose m N))
    | some (b, q) => if q < rTo d 201 (mLose m N) then some (m, rTo d 201 (mLose m N)) else some (b, q)
def bestV (o : Option (Nat × Nat)) : Int32 := match o with
  | none => -6
  | some q => nI q.1
def latV (o : Option (Nat × Nat)) : Nat := match o with
  | none => 0
  | some q => q.2
theorem wlP_b {d : Nat} {N : NS} : ∀ (m b q : Nat), wlP d N m = some (b, q) → b < m ∧ q ≤ 201
  | 0, _, _, h => by cases h
  | m + 1, b, q, h => by
    rw [wlP] at h
    have hr := rTo_le (d := d) 201 (mLose m N)
    cases hp : wlP d N m with
    | none => rw [hp] at h; cases h; exact ⟨by omega, hr⟩
    | some z =>
      obtain ⟨b1, q1⟩ := z
      have ih := wlP_b m b1 q1 hp
      rw [hp] at h
      by_cases hc : q1 < rTo d 201 (mLose m N)
      · simp only [if_pos hc] at h; cases h; exact ⟨by omega, hr⟩
      · simp only [if_neg hc] at h; cases h; exact ⟨by omega, ih.2⟩
theorem wl_neg {d m : Nat} {N : NS} (hm : m ≤ 60) : bestV (wlP d N m) < 0 ↔ wlP d N m = none := by
  cases hp : wlP d N m with
  | none => exact ⟨fun _ => rfl, fun _ => by decide⟩
  | some z =>
    have := wlP_b m z.1 z.2 hp
    exact ⟨fun h => absurd h (nI_pos (by omega)), fun h => by cases h⟩
theorem latV_le {d m : Nat} {N : NS} : latV (wlP d N m) ≤ 201 := by
  cases hp : wlP d N m with
  | none => exact Nat.zero_le _
  | some z => exact (wlP_b m z.1 z.2 hp).2
theorem wl_up1 {d m : Nat} {N : NS} (hm : m ≤ 60) (h : bestV (wlP d N m) < 0) : wlP d N (m + 1) = some (m, rTo d 201 (mLose m N)) := by
  rw [wlP, (wl_neg hm).mp h]
theorem wl_up2 {d m : Nat} {N : NS} (hm : m ≤ 60) (h : ¬ bestV (wlP d N m) < 0) (h2 : ¬ rTo d 201 (mLose m N) ≤ latV (wlP d N m)) : wlP d N (m + 1) = some (m, rTo d 201 (mLose m N)) := by
  rw [wlP]
  cases hp : wlP d N m with
  | none => exact absurd ((wl_neg hm).mpr hp) h
  | some z => rw [hp] at h2; exact if_pos (Nat.lt_of_not_le h2)
theorem wl_no {d m : Nat} {N : NS} (hm : m ≤ 60) (h : ¬ bestV (wlP d N m) < 0) (h2 : rTo d 201 (mLose m N) ≤ latV (wlP d N m)) : wlP d N (m + 1) = wlP d N m := by
  rw [wlP]
  cases hp : wlP d N m with
  | none => exact absurd ((wl_neg hm).mpr hp) h
  | some z => rw [hp] at h2; exact if_neg (Nat.not_lt_of_le h2)
def wlR (d w : Nat) (N : NS) : Int32 := match wlP d N (N 6) with
  | none => -6
  | some q => if w = 0 then nI q.1 else nI q.2
theorem rcd_2 {u : Nat} {N : NS} {x : MX} {k : Nat} (h : k ≠ 1) : (rcd u N x).2 k = x.2 k := by
  unfold rcd recX
  split
  · exact va_up_ne _ _ h
  · rfl

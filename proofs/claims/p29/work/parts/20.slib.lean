/-! ===== a State's cells, read off the row of numbers ===== -/
def bitsI (P : Nat → Bool) : Nat → Nat
  | 0 => 0
  | c + 1 => bitsI P c ||| (if P c = true then 2 ^ c else 0)
theorem bitsI_t {P : Nat → Bool} : ∀ (n i : Nat), (bitsI P n).testBit i = (decide (i < n) && P i)
  | 0, i => by rw [bitsI, Nat.zero_testBit]; simp
  | n + 1, i => by
    rw [bitsI, Nat.testBit_or, bitsI_t n i]
    by_cases h : P n = true
    · rw [if_pos h, Nat.testBit_two_pow]
      by_cases q : n = i
      · subst q; simp [h]
      · simp only [q, decide_false, Bool.or_false]
        congr 1
        exact decide_eq_decide.mpr (by omega)
    · rw [if_neg h, Nat.zero_testBit, Bool.or_false]
      by_cases q : n = i
      · subst q; rw [Bool.not_eq_true] at h; simp [h]
      · congr 1
        exact decide_eq_decide.mpr (by omega)
theorem bitsI_lt {P : Nat → Bool} (n : Nat) : bitsI P n < 2 ^ n := by
  apply Nat.lt_pow_two_of_testBit
  intro i hi
  rw [bitsI_t]
  simp; omega
theorem bitsI_c {P Q : Nat → Bool} : ∀ (n : Nat), (∀ c, c < n → P c = Q c) → bitsI P n = bitsI Q n
  | 0, _ => rfl
  | n + 1, h => by rw [bitsI, bitsI, bitsI_c n (fun c hc => h c (by omega)), h n (by omega)]
def illS (N : NS) : Nat := bitsI (fun w => decide (N (10 + w) = 1)) 5
def unwS (N : NS) : Nat := bitsI (fun w => decide (¬ N (15 + w) = 1)) 4
theorem illS_t {N : NS} {w : Nat} (hw : w < 5) : (illS N).testBit w = true ↔ N (10 + w) = 1 := by
  rw [illS, bitsI_t]; simp [hw]
theorem unwS_t {N : NS} {w : Nat} (hw : w < 4) : (unwS N).testBit w = true ↔ ¬ N (15 + w) = 1 := by
  rw [unwS, bitsI_t]; simp [hw]
theorem illS_lt {N : NS} : illS N < 32 := bitsI_lt 5
theorem unwS_lt {N : NS} : unwS N < 16 := bitsI_lt 4
theorem cOf_b {d s : Nat} {N : NS} : ∀ n, cOfI d s N n = bitsI (fun c => decide ((N (30 + 14 * d + 0)).testBit c = true ∧ N (30 + 14 * d + (6 + c)) = s)) n
  | 0 => rfl
  | n + 1 => by rw [cOfI, bitsI, cOf_b n]; congr 1; simp only [decide_eq_true_eq]
theorem cOf_t {d s c : Nat} {N : NS} (hc : c < 4) : (cOf d s N).testBit c = true ↔ ((N (30 + 14 * d + 0)).testBit c = true ∧ N (30 + 14 * d + (6 + c)) = s) := by
  rw [cOf, cOf_b, bitsI_t]; simp [hc]
theorem cOf_hi {d s c : Nat} {N : NS} (hc : ¬ c < 4) : (cOf d s N).testBit c = false := by
  rw [cOf, cOf_b, bitsI_t]; simp [hc]
theorem cOf_lt {d s : Nat} {N : NS} : cOf d s N < 16 := cOfI_lt 4 (Nat.le_refl 4)
theorem cOf_c {d s : Nat} {N M : NS} (h0 : M (30 + 14 * d + 0) = N (30 + 14 * d + 0)) (h : ∀ c, c < 4 → M (30 + 14 * d + (6 + c)) = N (30 + 14 * d + (6 + c))) : cOf d s M = cOf d s N := by
  rw [cOf, cOf, cOf_b, cOf_b]
  refine bitsI_c 4 (fun c hc => ?_)
  rw [h0, h c hc]
theorem illS_c {N M : NS} (h : ∀ j, 10 ≤ j → j < 15 → M j = N j) : illS M = illS N := bitsI_c 5 (fun c hc => by rw [h _ (by omega) (by omega)])
theorem unwS_c {N M : NS} (h : ∀ j, 15 ≤ j → j < 19 → M j = N j) : unwS M = unwS N := bitsI_c 4 (fun c hc => by rw [h _ (by omega) (by omega)])
def sI (N : NS) : Nat → Int32 := fun k => match k with
  | 0 => nI (N 4)
  | 1 => nI (illS N)
  | 2 => nI (unwS N)
  | 3 => nI (N 5)
  | 4 => nI (N 6)
  | _ => nI (N 8)
def sF (N : NS) : Nat → Nat → Int32 := fun k j => match k with
  | 0 => nI (N j)
  | 1 => nI (N (150 + j))
  | 2 => nI (N (20 + j))
  | 3 => nI (N (25 + j))
  | 4 => nI (N (30 + 14 * j + 0))
  | 5 => nI (N (30 + 14 * j + 1))
  | 6 => nI (N (30 + 14 * j + 2))
  | 7 => nI (N (30 + 14 * j + 3))
  | 8 => nI (N (30 + 14 * j + 4))
  | 9 => nI (N (30 + 14 * j + 5))
  | 10 => nI (cOf (j / 4) (j % 4) N)
  | _ => nI (N (30 + 14 * (j / 4) + (10 + j % 4)))
abbrev sN (G : GP) (a : Nat → Nat) (N : NS) : va_W := sX G a (sI N) (sF N)
theorem HB.cellc {G : GP} {A : Nat → Prop} {H0 : Heap} {ws : va_W} {H : Heap} {locs : List Loc} (h : HB G A H0 ws H locs) (k : Nat) {b : Nat} {cA : ClassId} {n : Nat} {f g : Nat → Int32} (hk : ws[k]? = some (b, .inl (cA, n, .inl f))) (e : ∀ j, j < n → f j = g j) : HB G A H0 (ws.set k (b, .inl (cA, n, .inl g))) H locs := by
  obtain ⟨h1, h2, h3⟩ := h
  refine ⟨va_P_iff.mpr fun q hq => ?_, h2.set hk, h3⟩
  rcases List.mem_or_eq_of_mem_set hq with z | z
  · exact va_P_iff.mp h1 q z
  · subst z
    show H[b]? = some (vp_cell cA (n, .inl g))
    rw [← vpc_congr e]
    exact h1 k _ hk
set_option maxRecDepth 100000 in
theorem HB.scongr {G : GP} {A : Nat → Prop} {H0 : Heap} {a : Nat → Nat} {i i' : Nat → Int32} {f f' : Nat → Nat → Int32} {H : Heap} {locs : List Loc} (h : HB G A H0 (sX G a i f) H locs) (ei : i 0 = i' 0 ∧ i 1 = i' 1 ∧ i 2 = i' 2 ∧ i 3 = i' 3 ∧ i 4 = i' 4 ∧ i 5 = i' 5)
    (e0 : ∀ j, j < 4 → f 0 j = f' 0 j) (e1 : ∀ j, j < 240 → f 1 j = f' 1 j) (e2 : ∀ j, j < 5 → f 2 j = f' 2 j) (e3 : ∀ j, j < 5 → f 3 j = f' 3 j) (e4 : ∀ j, j < 8 → f 4 j = f' 4 j) (e5 : ∀ j, j < 8 → f 5 j = f' 5 j) (e6 : ∀ j, j < 8 → f 6 j = f' 6 j) (e7 : ∀ j, j < 8 → f 7 j = f' 7 j) (e8 : ∀ j, j < 8 → f 8 j = f' 8 j) (e9 : ∀ j, j < 8 → f 9 j = f' 9 j) (e10 : ∀ j, j < 32 → f 10 j = f' 10 j) (e11 : ∀ j, j < 32 → f 11 j = f' 11 j) : HB G A H0 (sX G a i' f') H locs := by
  obtain ⟨j0, j1, j2, j3, j4, j5⟩ := ei
  have h0 : HB G A H0 (sX G a i' f) H locs := h.eq (by unfold sX; rw [j0, j1, j2, j3, j4, j5])
  have h1 := h0.cellc 1 rfl e0
  have h2 := h1.cellc 3 rfl e1
  have h3 := h2.cellc 4 rfl e2
  have h4 := h3.cellc 5 rfl e3
  have h5 := h4.cellc 6 rfl e4
  have h6 := h5.cellc 7 rfl e5
  have h7 := h6.cellc 8 rfl e6
  have h8 := h7.cellc 9 rfl e7
  have h9 := h8.cellc 10 rfl e8
  have h10 := h9.cellc 11 rfl e9
  have h11 := h10.cellc 12 rfl e10
  have h12 := h11.cellc 13 rfl e11
  exact h12
theorem sI_un {N : NS} {k v : Nat} (h : k ≠ 4 ∧ k ≠ 5 ∧ k ≠ 6 ∧ k ≠ 8 ∧ (k < 10 ∨ 19 ≤ k)) : sI N 0 = sI (un N k v) 0 ∧ sI N 1 = sI (un N k v) 1 ∧ sI N 2 = sI (un N k v) 2 ∧ sI N 3 = sI (un N k v) 3 ∧ sI N 4 = sI (un N k v) 4 ∧ sI N 5 = sI (un N k v) 5 := by
  refine ⟨?_, ?_, ?_, ?_, ?_, ?_⟩
  · exact congrArg nI (un_n (by omega)).symm
  · exact congrArg nI (illS_c (fun j h1 h2 => un_n (by omega))).symm
  · exact congrArg nI (unwS_c (fun j h1 h2 => un_n (by omega))).symm
  · exact congrArg nI (un_n (by omega)).symm
  · exact congrArg nI (un_n (by omega)).symm
  · exact congrArg nI (un_n (by omega)).symm
set_option maxRecDepth 100000 in
theorem HB.cs0 {G : GP} {A : Nat → Prop} {H0 : Heap} {a : Nat → Nat} {N : NS} {j v : Nat} {H : Heap} {locs : List Loc} (hj : j < 4) (h : HB G A H0 (sX G a (sI N) (va_up (sF N) 0 (upd (sF N 0) j (nI v)))) H locs) : HB G A H0 (sN G a (un N (j) v)) H locs := by
  refine h.scongr (sI_un (by omega)) ?_ ?_ ?_ ?_ ?_ ?_ ?_ ?_ ?_ ?_ ?_ ?_
  · intro i hi
    show upd (sF N 0) j (nI v) i = nI (un N (j) v (i))
    by_cases z : i = j
    · subst z; rw [un_s]; exact if_pos rfl
    · rw [un_n (by omega)]; exact if_neg z
  · intro i hi
    exact congrArg nI (un_n (by omega)).symm
  · intro i hi
    exact congrArg nI (un_n (by omega)).symm
  · intro i hi
    exact congrArg nI (un_n (by omega)).symm
  · intro i hi
    exact congrArg nI (un_n (by omega)).symm
  · intro i hi
    exact congrArg nI (un_n (by omega)).symm
  · intro i hi
    exact congrArg nI (un_n (by omega)).symm
  · intro i hi
    exact congrArg nI (un_n (by omega)).symm
  · intro i hi
    exact congrArg nI (un_n (by omega)).symm
  · intro i hi
    exact congrArg nI (un_n (by omega)).symm
  · intro i hi
    exact congrArg nI (cOf_c (un_n (by omega)) (fun c hc => un_n (by omega))).symm
  · intro i hi
    exact congrArg nI (un_n (by omega)).symm
set_option maxRecDepth 100000 in
theorem HB.cs1 {G : GP} {A : Nat → Prop} {H0 : Heap} {a : Nat → Nat} {N : NS} {j v : Nat} {H : Heap} {locs : List Loc} (hj : j < 240) (h : HB G A H0 (sX G a (sI N) (va_up (sF N) 1 (upd (sF N 1) j (nI v)))) H locs) : HB G A H0 (sN G a (un N (150 + j) v)) H locs := by
  refine h.scongr (sI_un (by omega)) ?_ ?_ ?_ ?_ ?_ ?_ ?_ ?_ ?_ ?_ ?_ ?_
  · intro i hi
    exact congrArg nI (un_n (by omega)).symm
  · intro i hi
    show upd (sF N 1) j (nI v) i = nI (un N (150 + j) v (150 + i))
    by_cases z : i = j
    · subst z; rw [un_s]; exact if_pos rfl
    · rw [un_n (by omega)]; exact if_neg z
  · intro i hi
    exact congrArg nI (un_n (by omega)).symm
  · intro i hi
    exact congrArg nI (un_n (by omega)).symm
  · intro i hi
    exact congrArg nI (un_n (by omega)).symm
  · intro i hi
    exact congrArg nI (un_n (by omega)).symm
  · intro i hi
    exact congrArg nI (un_n (by omega)).symm
  · intro i hi
    exact congrArg nI (un_n (by omega)).symm
  · intro i hi
    exact congrArg nI (un_n (by omega)).symm
  · intro i hi
    exact congrArg nI (un_n (by omega)).symm
  · intro i hi
    exact congrArg nI (cOf_c (un_n (by omega)) (fun c hc => un_n (by omega))).symm
  · intro i hi
    exact congrArg nI (un_n (by omega)).symm
set_option maxRecDepth 100000 in
theorem HB.cs2 {G : GP} {A : Nat → Prop} {H0 : Heap} {a : Nat → Nat} {N : NS} {j v : Nat} {H : Heap} {locs : List Loc} (hj : j < 5) (h : HB G A H0 (sX G a (sI N) (va_up (sF N) 2 (upd (sF N 2) j (nI v)))) H locs) : HB G A H0 (sN G a (un N (20 + j) v)) H locs := by
  refine h.scongr (sI_un (by omega)) ?_ ?_ ?_ ?_ ?_ ?_ ?_ ?_ ?_ ?_ ?_ ?_
  · intro i hi
    exact congrArg nI (un_n (by omega)).symm
  · intro i hi
    exact congrArg nI (un_n (by omega)).symm
  · intro i hi
    show upd (sF N 2) j (nI v) i = nI (un N (20 + j) v (20 + i))
    by_cases z : i = j
    · subst z; rw [un_s]; exact if_pos rfl
    · rw [un_n (by omega)]; exact if_neg z
  · intro i hi
    exact congrArg nI (un_n (by omega)).symm
  · intro i hi
    exact congrArg nI (un_n (by omega)).symm
  · intro i hi
    exact congrArg nI (un_n (by omega)).symm
  · intro i hi
    exact congrArg nI (un_n (by omega)).symm
  · intro i hi
    exact congrArg nI (un_n (by omega)).symm
  · intro i hi
    exact congrArg nI (un_n (by omega)).symm
  · intro i hi
    exact congrArg nI (un_n (by omega)).symm
  · intro i hi
    exact congrArg nI (cOf_c (un_n (by omega)) (fun c hc => un_n (by omega))).symm
  · intro i hi
    exact congrArg nI (un_n (by omega)).symm
set_option maxRecDepth 100000 in
theorem HB.cs3 {G : GP} {A : Nat → Prop} {H0 : Heap} {a : Nat → Nat} {N : NS} {j v : Nat} {H : Heap} {locs : List Loc} (hj : j < 5) (h : HB G A H0 (sX G a (sI N) (va_up (sF N) 3 (upd (sF N 3) j (nI v)))) H locs) : HB G A H0 (sN G a (un N (25 + j) v)) H locs := by
  refine h.scongr (sI_un (by omega)) ?_ ?_ ?_ ?_ ?_ ?_ ?_ ?_ ?_ ?_ ?_ ?_
  · intro i hi
    exact congrArg nI (un_n (by omega)).symm
  · intro i hi
    exact congrArg nI (un_n (by omega)).symm
  · intro i hi
    exact congrArg nI (un_n (by omega)).symm
  · intro i hi
    show upd (sF N 3) j (nI v) i = nI (un N (25 + j) v (25 + i))
    by_cases z : i = j
    · subst z; rw [un_s]; exact if_pos rfl
    · rw [un_n (by omega)]; exact if_neg z
  · intro i hi
    exact congrArg nI (un_n (by omega)).symm
  · intro i hi
    exact congrArg nI (un_n (by omega)).symm
  · intro i hi
    exact congrArg nI (un_n (by omega)).symm
  · intro i hi
    exact congrArg nI (un_n (by omega)).symm
  · intro i hi
    exact congrArg nI (un_n (by omega)).symm
  · intro i hi
    exact congrArg nI (un_n (by omega)).symm
  · intro i hi
    exact congrArg nI (cOf_c (un_n (by omega)) (fun c hc => un_n (by omega))).symm
  · intro i hi
    exact congrArg nI (un_n (by omega)).symm
set_option maxRecDepth 100000 in
theorem HB.cs5 {G : GP} {A : Nat → Prop} {H0 : Heap} {a : Nat → Nat} {N : NS} {j v : Nat} {H : Heap} {locs : List Loc} (hj : j < 8) (h : HB G A H0 (sX G a (sI N) (va_up (sF N) 5 (upd (sF N 5) j (nI v)))) H locs) : HB G A H0 (sN G a (un N (30 + 14 * j + 1) v)) H locs := by
  refine h.scongr (sI_un (by omega)) ?_ ?_ ?_ ?_ ?_ ?_ ?_ ?_ ?_ ?_ ?_ ?_
  · intro i hi
    exact congrArg nI (un_n (by omega)).symm
  · intro i hi
    exact congrArg nI (un_n (by omega)).symm
  · intro i hi
    exact congrArg nI (un_n (by omega)).symm
  · intro i hi
    exact congrArg nI (un_n (by omega)).symm
  · intro i hi
    exact congrArg nI (un_n (by omega)).symm
  · intro i hi
    show upd (sF N 5) j (nI v) i = nI (un N (30 + 14 * j + 1) v (30 + 14 * i + 1))
    by_cases z : i = j
    · subst z; rw [un_s]; exact if_pos rfl
    · rw [un_n (by omega)]; exact if_neg z
  · intro i hi
    exact congrArg nI (un_n (by omega)).symm
  · intro i hi
    exact congrArg nI (un_n (by omega)).symm
  · intro i hi
    exact congrArg nI (un_n (by omega)).symm
  · intro i hi
    exact congrArg nI (un_n (by omega)).symm
  · intro i hi
    exact congrArg nI (cOf_c (un_n (by omega)) (fun c hc => un_n (by omega))).symm
  · intro i hi
    exact congrArg nI (un_n (by omega)).symm
set_option maxRecDepth 100000 in
theorem HB.cs6 {G : GP} {A : Nat → Prop} {H0 : Heap} {a : Nat → Nat} {N : NS} {j v : Nat} {H : Heap} {locs : List Loc} (hj : j < 8) (h : HB G A H0 (sX G a (sI N) (va_up (sF N) 6 (upd (sF N 6) j (nI v)))) H locs) : HB G A H0 (sN G a (un N (30 + 14 * j + 2) v)) H locs := by
  refine h.scongr (sI_un (by omega)) ?_ ?_ ?_ ?_ ?_ ?_ ?_ ?_ ?_ ?_ ?_ ?_
  · intro i hi
    exact congrArg nI (un_n (by omega)).symm
  · intro i hi
    exact congrArg nI (un_n (by omega)).symm
  · intro i hi
    exact congrArg nI (un_n (by omega)).symm
  · intro i hi
    exact congrArg nI (un_n (by omega)).symm
  · intro i hi
    exact congrArg nI (un_n (by omega)).symm
  · intro i hi
    exact congrArg nI (un_n (by omega)).symm
  · intro i hi
    show upd (sF N 6) j (nI v) i = nI (un N (30 + 14 * j + 2) v (30 + 14 * i + 2))
    by_cases z : i = j
    · subst z; rw [un_s]; exact if_pos rfl
    · rw [un_n (by omega)]; exact if_neg z
  · intro i hi
    exact congrArg nI (un_n (by omega)).symm
  · intro i hi
    exact congrArg nI (un_n (by omega)).symm
  · intro i hi
    exact congrArg nI (un_n (by omega)).symm
  · intro i hi
    exact congrArg nI (cOf_c (un_n (by omega)) (fun c hc => un_n (by omega))).symm
  · intro i hi
    exact congrArg nI (un_n (by omega)).symm
set_option maxRecDepth 100000 in
theorem HB.cs7 {G : GP} {A : Nat → Prop} {H0 : Heap} {a : Nat → Nat} {N : NS} {j v : Nat} {H : Heap} {locs : List Loc} (hj : j < 8) (h : HB G A H0 (sX G a (sI N) (va_up (sF N) 7 (upd (sF N 7) j (nI v)))) H locs) : HB G A H0 (sN G a (un N (30 + 14 * j + 3) v)) H locs := by
  refine h.scongr (sI_un (by omega)) ?_ ?_ ?_ ?_ ?_ ?_ ?_ ?_ ?_ ?_ ?_ ?_
  · intro i hi
    exact congrArg nI (un_n (by omega)).symm
  · intro i hi
    exact congrArg nI (un_n (by omega)).symm
  · intro i hi
    exact congrArg nI (un_n (by omega)).symm
  · intro i hi
    exact congrArg nI (un_n (by omega)).symm
  · intro i hi
    exact congrArg nI (un_n (by omega)).symm
  · intro i hi
    exact congrArg nI (un_n (by omega)).symm
  · intro i hi
    exact congrArg nI (un_n (by omega)).symm
  · intro i hi
    show upd (sF N 7) j (nI v) i = nI (un N (30 + 14 * j + 3) v (30 + 14 * i + 3))
    by_cases z : i = j
    · subst z; rw [un_s]; exact if_pos rfl
    · rw [un_n (by omega)]; exact if_neg z
  · intro i hi
    exact congrArg nI (un_n (by omega)).symm
  · intro i hi
    exact congrArg nI (un_n (by omega)).symm
  · intro i hi
    exact congrArg nI (cOf_c (un_n (by omega)) (fun c hc => un_n (by omega))).symm
  · intro i hi
    exact congrArg nI (un_n (by omega)).symm
set_option maxRecDepth 100000 in
theorem HB.cs8 {G : GP} {A : Nat → Prop} {H0 : Heap} {a : Nat → Nat} {N : NS} {j v : Nat} {H : Heap} {locs : List Loc} (hj : j < 8) (h : HB G A H0 (sX G a (sI N) (va_up (sF N) 8 (upd (sF N 8) j (nI v)))) H locs) : HB G A H0 (sN G a (un N (30 + 14 * j + 4) v)) H locs := by
  refine h.scongr (sI_un (by omega)) ?_ ?_ ?_ ?_ ?_ ?_ ?_ ?_ ?_ ?_ ?_ ?_
  · intro i hi
    exact congrArg nI (un_n (by omega)).symm
  · intro i hi
    exact congrArg nI (un_n (by omega)).symm
  · intro i hi
    exact congrArg nI (un_n (by omega)).symm
  · intro i hi
    exact congrArg nI (un_n (by omega)).symm
  · intro i hi
    exact congrArg nI (un_n (by omega)).symm
  · intro i hi
    exact congrArg nI (un_n (by omega)).symm
  · intro i hi
    exact congrArg nI (un_n (by omega)).symm
  · intro i hi
    exact congrArg nI (un_n (by omega)).symm
  · intro i hi
    show upd (sF N 8) j (nI v) i = nI (un N (30 + 14 * j + 4) v (30 + 14 * i + 4))
    by_cases z : i = j
    · subst z; rw [un_s]; exact if_pos rfl
    · rw [un_n (by omega)]; exact if_neg z
  · intro i hi
    exact congrArg nI (un_n (by omega)).symm
  · intro i hi
    exact congrArg nI (cOf_c (un_n (by omega)) (fun c hc => un_n (by omega))).symm
  · intro i hi
    exact congrArg nI (un_n (by omega)).symm
set_option maxRecDepth 100000 in
theorem HB.cs9 {G : GP} {A : Nat → Prop} {H0 : Heap} {a : Nat → Nat} {N : NS} {j v : Nat} {H : Heap} {locs : List Loc} (hj : j < 8) (h : HB G A H0 (sX G a (sI N) (va_up (sF N) 9 (upd (sF N 9) j (nI v)))) H locs) : HB G A H0 (sN G a (un N (30 + 14 * j + 5) v)) H locs := by
  refine h.scongr (sI_un (by omega)) ?_ ?_ ?_ ?_ ?_ ?_ ?_ ?_ ?_ ?_ ?_ ?_
  · intro i hi
    exact congrArg nI (un_n (by omega)).symm
  · intro i hi
    exact congrArg nI (un_n (by omega)).symm
  · intro i hi
    exact congrArg nI (un_n (by omega)).symm
  · intro i hi
    exact congrArg nI (un_n (by omega)).symm
  · intro i hi
    exact congrArg nI (un_n (by omega)).symm
  · intro i hi
    exact congrArg nI (un_n (by omega)).symm
  · intro i hi
    exact congrArg nI (un_n (by omega)).symm
  · intro i hi
    exact congrArg nI (un_n (by omega)).symm
  · intro i hi
    exact congrArg nI (un_n (by omega)).symm
  · intro i hi
    show upd (sF N 9) j (nI v) i = nI (un N (30 + 14 * j + 5) v (30 + 14 * i + 5))
    by_cases z : i = j
    · subst z; rw [un_s]; exact if_pos rfl
    · rw [un_n (by omega)]; exact if_neg z
  · intro i hi
    exact congrArg nI (cOf_c (un_n (by omega)) (fun c hc => un_n (by omega))).symm
  · intro i hi
    exact congrArg nI (un_n (by omega)).symm
set_option maxRecDepth 100000 in
theorem HB.cs11 {G : GP} {A : Nat → Prop} {H0 : Heap} {a : Nat → Nat} {N : NS} {j v : Nat} {H : Heap} {locs : List Loc} (hj : j < 32) (h : HB G A H0 (sX G a (sI N) (va_up (sF N) 11 (upd (sF N 11) j (nI v)))) H locs) : HB G A H0 (sN G a (un N (30 + 14 * (j / 4) + (10 + j % 4)) v)) H locs := by
  refine h.scongr (sI_un (by omega)) ?_ ?_ ?_ ?_ ?_ ?_ ?_ ?_ ?_ ?_ ?_ ?_
  · intro i hi
    exact congrArg nI (un_n (by omega)).symm
  · intro i hi
    exact congrArg nI (un_n (by omega)).symm
  · intro i hi
    exact congrArg nI (un_n (by omega)).symm
  · intro i hi
    exact congrArg nI (un_n (by omega)).symm
  · intro i hi
    exact congrArg nI (un_n (by omega)).symm
  · intro i hi
    exact congrArg nI (un_n (by omega)).symm
  · intro i hi
    exact congrArg nI (un_n (by omega)).symm
  · intro i hi
    exact congrArg nI (un_n (by omega)).symm
  · intro i hi
    exact congrArg nI (un_n (by omega)).symm
  · intro i hi
    exact congrArg nI (un_n (by omega)).symm
  · intro i hi
    exact congrArg nI (cOf_c (un_n (by omega)) (fun c hc => un_n (by omega))).symm
  · intro i hi
    show upd (sF N 11) j (nI v) i = nI (un N (30 + 14 * (j / 4) + (10 + j % 4)) v (30 + 14 * (i / 4) + (10 + i % 4)))
    by_cases z : i = j
    · subst z; rw [un_s]; exact if_pos rfl
    · rw [un_n (by omega)]; exact if_neg z
set_option maxRecDepth 100000 in
theorem HB.ci0 {G : GP} {A : Nat → Prop} {H0 : Heap} {a : Nat → Nat} {N : NS} {v : Nat} {H : Heap} {locs : List Loc} (h : HB G A H0 (sX G a (upd (sI N) 0 (nI v)) (sF N)) H locs) : HB G A H0 (sN G a (un N 4 v)) H locs := by
  refine h.scongr ⟨congrArg nI (un_s (N := N)).symm, congrArg nI (illS_c (fun j h1 h2 => un_n (by omega))).symm, congrArg nI (unwS_c (fun j h1 h2 => un_n (by omega))).symm, congrArg nI (un_n (by omega)).symm, congrArg nI (un_n (by omega)).symm, congrArg nI (un_n (by omega)).symm⟩ ?_ ?_ ?_ ?_ ?_ ?_ ?_ ?_ ?_ ?_ ?_ ?_
  · intro i hi
    exact congrArg nI (un_n (by omega)).symm
  · intro i hi
    exact congrArg nI (un_n (by omega)).symm
  · intro i hi
    exact congrArg nI (un_n (by omega)).symm
  · intro i hi
    exact congrArg nI (un_n (by omega)).symm
  · intro i hi
    exact congrArg nI (un_n (by omega)).symm
  · intro i hi
    exact congrArg nI (un_n (by omega)).symm
  · intro i hi
    exact congrArg nI (un_n (by omega)).symm
  · intro i hi
    exact congrArg nI (un_n (by omega)).symm
  · intro i hi
    exact congrArg nI (un_n (by omega)).symm
  · intro i hi
    exact congrArg nI (un_n (by omega)).symm
  · intro i hi
    exact congrArg nI (cOf_c (un_n (by omega)) (fun c hc => un_n (by omega))).symm
  · intro i hi
    exact congrArg nI (un_n (by omega)).symm
set_option maxRecDepth 100000 in
theorem HB.ci3 {G : GP} {A : Nat → Prop} {H0 : Heap} {a : Nat → Nat} {N : NS} {v : Nat} {H : Heap} {locs : List Loc} (h : HB G A H0 (sX G a (upd (sI N) 3 (nI v)) (sF N)) H locs) : HB G A H0 (sN G a (un N 5 v)) H locs := by
  refine h.scongr ⟨congrArg nI (un_n (by omega)).symm, congrArg nI (illS_c (fun j h1 h2 => un_n (by omega))).symm, congrArg nI (unwS_c (fun j h1 h2 => un_n (by omega))).symm, congrArg nI (un_s (N := N)).symm, congrArg nI (un_n (by omega)).symm, congrArg nI (un_n (by omega)).symm⟩ ?_ ?_ ?_ ?_ ?_ ?_ ?_ ?_ ?_ ?_ ?_ ?_
  · intro i hi
    exact congrArg nI (un_n (by omega)).symm
  · intro i hi
    exact congrArg nI (un_n (by omega)).symm
  · intro i hi
    exact congrArg nI (un_n (by omega)).symm
  · intro i hi
    exact congrArg nI (un_n (by omega)).symm
  · intro i hi
    exact congrArg nI (un_n (by omega)).symm
  · intro i hi
    exact congrArg nI (un_n (by omega)).symm
  · intro i hi
    exact congrArg nI (un_n (by omega)).symm
  · intro i hi
    exact congrArg nI (un_n (by omega)).symm
  · intro i hi
    exact congrArg nI (un_n (by omega)).symm
  · intro i hi
    exact congrArg nI (un_n (by omega)).symm
  · intro i hi
    exact congrArg nI (cOf_c (un_n (by omega)) (fun c hc => un_n (by omega))).symm
  · intro i hi
    exact congrArg nI (un_n (by omega)).symm
set_option maxRecDepth 100000 in
theorem HB.ci4 {G : GP} {A : Nat → Prop} {H0 : Heap} {a : Nat → Nat} {N : NS} {v : Nat} {H : Heap} {locs : List Loc} (h : HB G A H0 (sX G a (upd (sI N) 4 (nI v)) (sF N)) H locs) : HB G A H0 (sN G a (un N 6 v)) H locs := by
  refine h.scongr ⟨congrArg nI (un_n (by omega)).symm, congrArg nI (illS_c (fun j h1 h2 => un_n (by omega))).symm, congrArg nI (unwS_c (fun j h1 h2 => un_n (by omega))).symm, congrArg nI (un_n (by omega)).symm, congrArg nI (un_s (N := N)).symm, congrArg nI (un_n (by omega)).symm⟩ ?_ ?_ ?_ ?_ ?_ ?_ ?_ ?_ ?_ ?_ ?_ ?_
  · intro i hi
    exact congrArg nI (un_n (by omega)).symm
  · intro i hi
    exact congrArg nI (un_n (by omega)).symm
  · intro i hi
    exact congrArg nI (un_n (by omega)).symm
  · intro i hi
    exact congrArg nI (un_n (by omega)).symm
  · intro i hi
    exact congrArg nI (un_n (by omega)).symm
  · intro i hi
    exact congrArg nI (un_n (by omega)).symm
  · intro i hi
    exact congrArg nI (un_n (by omega)).symm
  · intro i hi
    exact congrArg nI (un_n (by omega)).symm
  · intro i hi
    exact congrArg nI (un_n (by omega)).symm
  · intro i hi
    exact congrArg nI (un_n (by omega)).symm
  · intro i hi
    exact congrArg nI (cOf_c (un_n (by omega)) (fun c hc => un_n (by omega))).symm
  · intro i hi
    exact congrArg nI (un_n (by omega)).symm
set_option maxRecDepth 100000 in
theorem HB.ci5 {G : GP} {A : Nat → Prop} {H0 : Heap} {a : Nat → Nat} {N : NS} {v : Nat} {H : Heap} {locs : List Loc} (h : HB G A H0 (sX G a (upd (sI N) 5 (nI v)) (sF N)) H locs) : HB G A H0 (sN G a (un N 8 v)) H locs := by
  refine h.scongr ⟨congrArg nI (un_n (by omega)).symm, congrArg nI (illS_c (fun j h1 h2 => un_n (by omega))).symm, congrArg nI (unwS_c (fun j h1 h2 => un_n (by omega))).symm, congrArg nI (un_n (by omega)).symm, congrArg nI (un_n (by omega)).symm, congrArg nI (un_s (N := N)).symm⟩ ?_ ?_ ?_ ?_ ?_ ?_ ?_ ?_ ?_ ?_ ?_ ?_
  · intro i hi
    exact congrArg nI (un_n (by omega)).symm
  · intro i hi
    exact congrArg nI (un_n (by omega)).symm
  · intro i hi
    exact congrArg nI (un_n (by omega)).symm
  · intro i hi
    exact congrArg nI (un_n (by omega)).symm
  · intro i hi
    exact congrArg nI (un_n (by omega)).symm
  · intro i hi
    exact congrArg nI (un_n (by omega)).symm
  · intro i hi
    exact congrArg nI (un_n (by omega)).symm
  · intro i hi
    exact congrArg nI (un_n (by omega)).symm
  · intro i hi
    exact congrArg nI (un_n (by omega)).symm
  · intro i hi
    exact congrArg nI (un_n (by omega)).symm
  · intro i hi
    exact congrArg nI (cOf_c (un_n (by omega)) (fun c hc => un_n (by omega))).symm
  · intro i hi
    exact congrArg nI (un_n (by omega)).symm
set_option maxRecDepth 100000 in
theorem HB.ci1 {G : GP} {A : Nat → Prop} {H0 : Heap} {a : Nat → Nat} {N : NS} {w v : Nat} {z : Int32} {H : Heap} {locs : List Loc} (hw : w < 5) (hz : z = nI (illS (un N (10 + w) v))) (h : HB G A H0 (sX G a (upd (sI N) 1 z) (sF N)) H locs) : HB G A H0 (sN G a (un N (10 + w) v)) H locs := by
  refine h.scongr ⟨congrArg nI (un_n (by omega)).symm, hz, congrArg nI (unwS_c (fun j h1 h2 => un_n (by omega))).symm, congrArg nI (un_n (by omega)).symm, congrArg nI (un_n (by omega)).symm, congrArg nI (un_n (by omega)).symm⟩ ?_ ?_ ?_ ?_ ?_ ?_ ?_ ?_ ?_ ?_ ?_ ?_
  · intro i hi
    exact congrArg nI (un_n (by omega)).symm
  · intro i hi
    exact congrArg nI (un_n (by omega)).symm
  · intro i hi
    exact congrArg nI (un_n (by omega)).symm
  · intro i hi
    exact congrArg nI (un_n (by omega)).symm
  · intro i hi
    exact congrArg nI (un_n (by omega)).symm
  · intro i hi
    exact congrArg nI (un_n (by omega)).symm
  · intro i hi
    exact congrArg nI (un_n (by omega)).symm
  · intro i hi
    exact congrArg nI (un_n (by omega)).symm
  · intro i hi
    exact congrArg nI (un_n (by omega)).symm
  · intro i hi
    exact congrArg nI (un_n (by omega)).symm
  · intro i hi
    exact congrArg nI (cOf_c (un_n (by omega)) (fun c hc => un_n (by omega))).symm
  · intro i hi
    exact congrArg nI (un_n (by omega)).symm
set_option maxRecDepth 100000 in
theorem HB.ci2 {G : GP} {A : Nat → Prop} {H0 : Heap} {a : Nat → Nat} {N : NS} {w v : Nat} {z : Int32} {H : Heap} {locs : List Loc} (hw : w < 4) (hz : z = nI (unwS (un N (15 + w) v))) (h : HB G A H0 (sX G a (upd (sI N) 2 z) (sF N)) H locs) : HB G A H0 (sN G a (un N (15 + w) v)) H locs := by
  refine h.scongr ⟨congrArg nI (un_n (by omega)).symm, congrArg nI (illS_c (fun j h1 h2 => un_n (by omega))).symm, hz, congrArg nI (un_n (by omega)).symm, congrArg nI (un_n (by omega)).symm, congrArg nI (un_n (by omega)).symm⟩ ?_ ?_ ?_ ?_ ?_ ?_ ?_ ?_ ?_ ?_ ?_ ?_
  · intro i hi
    exact congrArg nI (un_n (by omega)).symm
  · intro i hi
    exact congrArg nI (un_n (by omega)).symm
  · intro i hi
    exact congrArg nI (un_n (by omega)).symm
  · intro i hi
    exact congrArg nI (un_n (by omega)).symm
  · intro i hi
    exact congrArg nI (un_n (by omega)).symm
  · intro i hi
    exact congrArg nI (un_n (by omega)).symm
  · intro i hi
    exact congrArg nI (un_n (by omega)).symm
  · intro i hi
    exact congrArg nI (un_n (by omega)).symm
  · intro i hi
    exact congrArg nI (un_n (by omega)).symm
  · intro i hi
    exact congrArg nI (un_n (by omega)).symm
  · intro i hi
    exact congrArg nI (cOf_c (un_n (by omega)) (fun c hc => un_n (by omega))).symm
  · intro i hi
    exact congrArg nI (un_n (by omega)).symm
section LIB5
variable {p : Program} {l : Launch} {e : Env} {R : Room} {s : State} {m : MethodId} {args : Array Value} {below : List Frame} {meth : Method} {c : Code} {H : Heap} {locs : List Loc} {cells slots : Nat} {Q : State → Prop}
variable {cc : ByteArray} {pc : Nat} {ls : Array Slot} {rest st0 : List Value} {A : Nat → Prop} {H0 : Heap} {own : String} {nL : Nat} {G : GP} {a : Nat → Nat} {N : NS} {index : Nat}
theorem lN2_0 (E : EN p c cc s m args own nL G) (hw : HB G A H0 (sN G a N) H locs) {j v : Nat} (hj : j < 4) (hv : N (j) = v) (hdg : decode cc pc = .ok (.iaload, 1)) (kk : W p l e R s m args below meth c H locs cells slots Q (F0 m (pc + 1) ls (.int (nI v) :: rest))) : W p l e R s m args below meth c H locs cells slots Q (F0 m pc ls (.int (nI j) :: .ref (a 1) :: rest)) :=
  lX2_0 E hw hj hdg (by subst hv; exact kk)
theorem lN2_1 (E : EN p c cc s m args own nL G) (hw : HB G A H0 (sN G a N) H locs) {j v : Nat} (hj : j < 240) (hv : N (150 + j) = v) (hdg : decode cc pc = .ok (.iaload, 1)) (kk : W p l e R s m args below meth c H locs cells slots Q (F0 m (pc + 1) ls (.int (nI v) :: rest))) : W p l e R s m args below meth c H locs cells slots Q (F0 m pc ls (.int (nI j) :: .ref (a 3) :: rest)) :=
  lX2_1 E hw hj hdg (by subst hv; exact kk)
theorem lN2_2 (E : EN p c cc s m args own nL G) (hw : HB G A H0 (sN G a N) H locs) {j v : Nat} (hj : j < 5) (hv : N (20 + j) = v) (hdg : decode cc pc = .ok (.iaload, 1)) (kk : W p l e R s m args below meth c H locs cells slots Q (F0 m (pc + 1) ls (.int (nI v) :: rest))) : W p l e R s m args below meth c H locs cells slots Q (F0 m pc ls (.int (nI j) :: .ref (a 4) :: rest)) :=
  lX2_2 E hw hj hdg (by subst hv; exact kk)
theorem lN2_3 (E : EN p c cc s m args own nL G) (hw : HB G A H0 (sN G a N) H locs) {j v : Nat} (hj : j < 5) (hv : N (25 + j) = v) (hdg : decode cc pc = .ok (.iaload, 1)) (kk : W p l e R s m args below meth c H locs cells slots Q (F0 m (pc + 1) ls (.int (nI v) :: rest))) : W p l e R s m args below meth c H locs cells slots Q (F0 m pc ls (.int (nI j) :: .ref (a 5) :: rest)) :=
  lX2_3 E hw hj hdg (by subst hv; exact kk)
theorem lN2_4 (E : EN p c cc s m args own nL G) (hw : HB G A H0 (sN G a N) H locs) {j v : Nat} (hj : j < 8) (hv : N (30 + 14 * j + 0) = v) (hdg : decode cc pc = .ok (.iaload, 1)) (kk : W p l e R s m args below meth c H locs cells slots Q (F0 m (pc + 1) ls (.int (nI v) :: rest))) : W p l e R s m args below meth c H locs cells slots Q (F0 m pc ls (.int (nI j) :: .ref (a 6) :: rest)) :=
  lX2_4 E hw hj hdg (by subst hv; exact kk)
theorem lN2_5 (E : EN p c cc s m args own nL G) (hw : HB G A H0 (sN G a N) H locs) {j v : Nat} (hj : j < 8) (hv : N (30 + 14 * j + 1) = v) (hdg : decode cc pc = .ok (.iaload, 1)) (kk : W p l e R s m args below meth c H locs cells slots Q (F0 m (pc + 1) ls (.int (nI v) :: rest))) : W p l e R s m args below meth c H locs cells slots Q (F0 m pc ls (.int (nI j) :: .ref (a 7) :: rest)) :=
  lX2_5 E hw hj hdg (by subst hv; exact kk)
theorem lN2_6 (E : EN p c cc s m args own nL G) (hw : HB G A H0 (sN G a N) H locs) {j v : Nat} (hj : j < 8) (hv : N (30 + 14 * j + 2) = v) (hdg : decode cc pc = .ok (.iaload, 1)) (kk : W p l e R s m args below meth c H locs cells slots Q (F0 m (pc + 1) ls (.int (nI v) :: rest))) : W p l e R s m args below meth c H locs cells slots Q (F0 m pc ls (.int (nI j) :: .ref (a 8) :: rest)) :=
  lX2_6 E hw hj hdg (by subst hv; exact kk)
theorem lN2_7 (E : EN p c cc s m args own nL G) (hw : HB G A H0 (sN G a N) H locs) {j v : Nat} (hj : j < 8) (hv : N (30 + 14 * j + 3) = v) (hdg : decode cc pc = .ok (.iaload, 1)) (kk : W p l e R s m args below meth c H locs cells slots Q (F0 m (pc + 1) ls (.int (nI v) :: rest))) : W p l e R s m args below meth c H locs cells slots Q (F0 m pc ls (.int (nI j) :: .ref (a 9) :: rest)) :=
  lX2_7 E hw hj hdg (by subst hv; exact kk)
theorem lN2_8 (E : EN p c cc s m args own nL G) (hw : HB G A H0 (sN G a N) H locs) {j v : Nat} (hj : j < 8) (hv : N (30 + 14 * j + 4) = v) (hdg : decode cc pc = .ok (.iaload, 1)) (kk : W p l e R s m args below meth c H locs cells slots Q (F0 m (pc + 1) ls (.int (nI v) :: rest))) : W p l e R s m args below meth c H locs cells slots Q (F0 m pc ls (.int (nI j) :: .ref (a 10) :: rest)) :=
  lX2_8 E hw hj hdg (by subst hv; exact kk)
theorem lN2_9 (E : EN p c cc s m args own nL G) (hw : HB G A H0 (sN G a N) H locs) {j v : Nat} (hj : j < 8) (hv : N (30 + 14 * j + 5) = v) (hdg : decode cc pc = .ok (.iaload, 1)) (kk : W p l e R s m args below meth c H locs cells slots Q (F0 m (pc + 1) ls (.int (nI v) :: rest))) : W p l e R s m args below meth c H locs cells slots Q (F0 m pc ls (.int (nI j) :: .ref (a 11) :: rest)) :=
  lX2_9 E hw hj hdg (by subst hv; exact kk)
theorem lN2_10 (E : EN p c cc s m args own nL G) (hw : HB G A H0 (sN G a N) H locs) {j v : Nat} (hj : j < 32) (hv : cOf (j / 4) (j % 4) N = v) (hdg : decode cc pc = .ok (.iaload, 1)) (kk : W p l e R s m args below meth c H locs cells slots Q (F0 m (pc + 1) ls (.int (nI v) :: rest))) : W p l e R s m args below meth c H locs cells slots Q (F0 m pc ls (.int (nI j) :: .ref (a 12) :: rest)) :=
  lX2_10 E hw hj hdg (by subst hv; exact kk)
theorem lN2_11 (E : EN p c cc s m args own nL G) (hw : HB G A H0 (sN G a N) H locs) {j v : Nat} (hj : j < 32) (hv : N (30 + 14 * (j / 4) + (10 + j % 4)) = v) (hdg : decode cc pc = .ok (.iaload, 1)) (kk : W p l e R s m args below meth c H locs cells slots Q (F0 m (pc + 1) ls (.int (nI v) :: rest))) : W p l e R s m args below meth c H locs cells slots Q (F0 m pc ls (.int (nI j) :: .ref (a 13) :: rest)) :=
  lX2_11 E hw hj hdg (by subst hv; exact kk)
theorem sN2_0 (E : EN p c cc s m args own nL G) (hw : HB G A H0 (sN G a N) H locs) {j v : Nat} (hj : j < 4) (hdg : decode cc pc = .ok (.iastore, 1)) (kk : ∀ (H1 : Heap) (locs1 : List Loc), HB G A H0 (sN G a (un N (j) v)) H1 locs1 → W p l e R s m args below meth c H1 locs1 cells slots Q (F0 m (pc + 1) ls rest)) : W p l e R s m args below meth c H locs cells slots Q (F0 m pc ls (.int (nI v) :: .int (nI j) :: .ref (a 1) :: rest)) :=
  sX2_0 E hw hj hdg (fun H1 locs1 hw1 => kk H1 locs1 (hw1.cs0 hj))
theorem sN2_1 (E : EN p c cc s m args own nL G) (hw : HB G A H0 (sN G a N) H locs) {j v : Nat} (hj : j < 240) (hdg : decode cc pc = .ok (.iastore, 1)) (kk : ∀ (H1 : Heap) (locs1 : List Loc), HB G A H0 (sN G a (un N (150 + j) v)) H1 locs1 → W p l e R s m args below meth c H1 locs1 cells slots Q (F0 m (pc + 1) ls rest)) : W p l e R s m args below meth c H locs cells slots Q (F0 m pc ls (.int (nI v) :: .int (nI j) :: .ref (a 3) :: rest)) :=
  sX2_1 E hw hj hdg (fun H1 locs1 hw1 => kk H1 locs1 (hw1.cs1 hj))
theorem sN2_2 (E : EN p c cc s m args own nL G) (hw : HB G A H0 (sN G a N) H locs) {j v : Nat} (hj : j < 5) (hdg : decode cc pc = .ok (.iastore, 1)) (kk : ∀ (H1 : Heap) (locs1 : List Loc), HB G A H0 (sN G a (un N (20 + j) v)) H1 locs1 → W p l e R s m args below meth c H1 locs1 cells slots Q (F0 m (pc + 1) ls rest)) : W p l e R s m args below meth c H locs cells slots Q (F0 m pc ls (.int (nI v) :: .int (nI j) :: .ref (a 4) :: rest)) :=
  sX2_2 E hw hj hdg (fun H1 locs1 hw1 => kk H1 locs1 (hw1.cs2 hj))
theorem sN2_3 (E : EN p c cc s m args own nL G) (hw : HB G A H0 (sN G a N) H locs) {j v : Nat} (hj : j < 5) (hdg : decode cc pc = .ok (.iastore, 1)) (kk : ∀ (H1 : Heap) (locs1 : List Loc), HB G A H0 (sN G a (un N (25 + j) v)) H1 locs1 → W p l e R s m args below meth c H1 locs1 cells slots Q (F0 m (pc + 1) ls rest)) : W p l e R s m args below meth c H locs cells slots Q (F0 m pc ls (.int (nI v) :: .int (nI j) :: .ref (a 5) :: rest)) :=
  sX2_3 E hw hj hdg (fun H1 locs1 hw1 => kk H1 locs1 (hw1.cs3 hj))
theorem sN2_5 (E : EN p c cc s m args own nL G) (hw : HB G A H0 (sN G a N) H locs) {j v : Nat} (hj : j < 8) (hdg : decode cc pc = .ok (.iastore, 1)) (kk : ∀ (H1 : Heap) (locs1 : List Loc), HB G A H0 (sN G a (un N (30 + 14 * j + 1) v)) H1 locs1 → W p l e R s m args below meth c H1 locs1 cells slots Q (F0 m (pc + 1) ls rest)) : W p l e R s m args below meth c H locs cells slots Q (F0 m pc ls (.int (nI v) :: .int (nI j) :: .ref (a 7) :: rest)) :=
  sX2_5 E hw hj hdg (fun H1 locs1 hw1 => kk H1 locs1 (hw1.cs5 hj))
theorem sN2_6 (E : EN p c cc s m args own nL G) (hw : HB G A H0 (sN G a N) H locs) {j v : Nat} (hj : j < 8) (hdg : decode cc pc = .ok (.iastore, 1)) (kk : ∀ (H1 : Heap) (locs1 : List Loc), HB G A H0 (sN G a (un N (30 + 14 * j + 2) v)) H1 locs1 → W p l e R s m args below meth c H1 locs1 cells slots Q (F0 m (pc + 1) ls rest)) : W p l e R s m args below meth c H locs cells slots Q (F0 m pc ls (.int (nI v) :: .int (nI j) :: .ref (a 8) :: rest)) :=
  sX2_6 E hw hj hdg (fun H1 locs1 hw1 => kk H1 locs1 (hw1.cs6 hj))
theorem sN2_7 (E : EN p c cc s m args own nL G) (hw : HB G A H0 (sN G a N) H locs) {j v : Nat} (hj : j < 8) (hdg : decode cc pc = .ok (.iastore, 1)) (kk : ∀ (H1 : Heap) (locs1 : List Loc), HB G A H0 (sN G a (un N (30 + 14 * j + 3) v)) H1 locs1 → W p l e R s m args below meth c H1 locs1 cells slots Q (F0 m (pc + 1) ls rest)) : W p l e R s m args below meth c H locs cells slots Q (F0 m pc ls (.int (nI v) :: .int (nI j) :: .ref (a 9) :: rest)) :=
  sX2_7 E hw hj hdg (fun H1 locs1 hw1 => kk H1 locs1 (hw1.cs7 hj))
theorem sN2_8 (E : EN p c cc s m args own nL G) (hw : HB G A H0 (sN G a N) H locs) {j v : Nat} (hj : j < 8) (hdg : decode cc pc = .ok (.iastore, 1)) (kk : ∀ (H1 : Heap) (locs1 : List Loc), HB G A H0 (sN G a (un N (30 + 14 * j + 4) v)) H1 locs1 → W p l e R s m args below meth c H1 locs1 cells slots Q (F0 m (pc + 1) ls rest)) : W p l e R s m args below meth c H locs cells slots Q (F0 m pc ls (.int (nI v) :: .int (nI j) :: .ref (a 10) :: rest)) :=
  sX2_8 E hw hj hdg (fun H1 locs1 hw1 => kk H1 locs1 (hw1.cs8 hj))
theorem sN2_9 (E : EN p c cc s m args own nL G) (hw : HB G A H0 (sN G a N) H locs) {j v : Nat} (hj : j < 8) (hdg : decode cc pc = .ok (.iastore, 1)) (kk : ∀ (H1 : Heap) (locs1 : List Loc), HB G A H0 (sN G a (un N (30 + 14 * j + 5) v)) H1 locs1 → W p l e R s m args below meth c H1 locs1 cells slots Q (F0 m (pc + 1) ls rest)) : W p l e R s m args below meth c H locs cells slots Q (F0 m pc ls (.int (nI v) :: .int (nI j) :: .ref (a 11) :: rest)) :=
  sX2_9 E hw hj hdg (fun H1 locs1 hw1 => kk H1 locs1 (hw1.cs9 hj))
theorem sN2_11 (E : EN p c cc s m args own nL G) (hw : HB G A H0 (sN G a N) H locs) {j v : Nat} (hj : j < 32) (hdg : decode cc pc = .ok (.iastore, 1)) (kk : ∀ (H1 : Heap) (locs1 : List Loc), HB G A H0 (sN G a (un N (30 + 14 * (j / 4) + (10 + j % 4)) v)) H1 locs1 → W p l e R s m args below meth c H1 locs1 cells slots Q (F0 m (pc + 1) ls rest)) : W p l e R s m args below meth c H locs cells slots Q (F0 m pc ls (.int (nI v) :: .int (nI j) :: .ref (a 13) :: rest)) :=
  sX2_11 E hw hj hdg (fun H1 locs1 hw1 => kk H1 locs1 (hw1.cs11 hj))
theorem pN2_0 (E : EN p c cc s m args own nL G) (hw : HB G A H0 (sN G a N) H locs) (hl : Cond.fieldLink own index "ClerkVotes$State" "tick" "I" ∈ GW) {v : Nat} (hdg : decode cc pc = .ok (.putfield index, 3)) (kk : ∀ (H1 : Heap) (locs1 : List Loc), HB G A H0 (sN G a (un N 4 v)) H1 locs1 → W p l e R s m args below meth c H1 locs1 cells slots Q (F0 m (pc + 3) ls rest)) : W p l e R s m args below meth c H locs cells slots Q (F0 m pc ls (.int (nI v) :: .ref (a 0) :: rest)) :=
  pX2_0 E hw hl hdg (fun H1 locs1 hw1 => kk H1 locs1 hw1.ci0)
theorem pN2_3 (E : EN p c cc s m args own nL G) (hw : HB G A H0 (sN G a N) H locs) (hl : Cond.fieldLink own index "ClerkVotes$State" "deals" "I" ∈ GW) {v : Nat} (hdg : decode cc pc = .ok (.putfield index, 3)) (kk : ∀ (H1 : Heap) (locs1 : List Loc), HB G A H0 (sN G a (un N 5 v)) H1 locs1 → W p l e R s m args below meth c H1 locs1 cells slots Q (F0 m (pc + 3) ls rest)) : W p l e R s m args below meth c H locs cells slots Q (F0 m pc ls (.int (nI v) :: .ref (a 0) :: rest)) :=
  pX2_3 E hw hl hdg (fun H1 locs1 hw1 => kk H1 locs1 hw1.ci3)
theorem pN2_4 (E : EN p c cc s m args own nL G) (hw : HB G A H0 (sN G a N) H locs) (hl : Cond.fieldLink own index "ClerkVotes$Row" "length" "I" ∈ GW) {v : Nat} (hdg : decode cc pc = .ok (.putfield index, 3)) (kk : ∀ (H1 : Heap) (locs1 : List Loc), HB G A H0 (sN G a (un N 6 v)) H1 locs1 → W p l e R s m args below meth c H1 locs1 cells slots Q (F0 m (pc + 3) ls rest)) : W p l e R s m args below meth c H locs cells slots Q (F0 m pc ls (.int (nI v) :: .ref (a 2) :: rest)) :=
  pX1_0 E hw hl hdg (fun H1 locs1 hw1 => kk H1 locs1 hw1.ci4)
theorem pN2_5 (E : EN p c cc s m args own nL G) (hw : HB G A H0 (sN G a N) H locs) (hl : Cond.fieldLink own index "ClerkVotes$Row" "lost" "I" ∈ GW) {v : Nat} (hdg : decode cc pc = .ok (.putfield index, 3)) (kk : ∀ (H1 : Heap) (locs1 : List Loc), HB G A H0 (sN G a (un N 8 v)) H1 locs1 → W p l e R s m args below meth c H1 locs1 cells slots Q (F0 m (pc + 3) ls rest)) : W p l e R s m args below meth c H locs cells slots Q (F0 m pc ls (.int (nI v) :: .ref (a 2) :: rest)) :=
  pX1_1 E hw hl hdg (fun H1 locs1 hw1 => kk H1 locs1 hw1.ci5)
theorem pN2_1 (E : EN p c cc s m args own nL G) (hw : HB G A H0 (sN G a N) H locs) (hl : Cond.fieldLink own index "ClerkVotes$State" "illOnes" "I" ∈ GW) {w v : Nat} {z : Int32} (hw5 : w < 5) (hz : z = nI (illS (un N (10 + w) v))) (hdg : decode cc pc = .ok (.putfield index, 3)) (kk : ∀ (H1 : Heap) (locs1 : List Loc), HB G A H0 (sN G a (un N (10 + w) v)) H1 locs1 → W p l e R s m args below meth c H1 locs1 cells slots Q (F0 m (pc + 3) ls rest)) : W p l e R s m args below meth c H locs cells slots Q (F0 m pc ls (.int z :: .ref (a 0) :: rest)) :=
  pX2_1 E hw hl hdg (fun H1 locs1 hw1 => kk H1 locs1 (hw1.ci1 hw5 hz))
theorem pN2_2 (E : EN p c cc s m args own nL G) (hw : HB G A H0 (sN G a N) H locs) (hl : Cond.fieldLink own index "ClerkVotes$State" "unwillingOnes" "I" ∈ GW) {w v : Nat} {z : Int32} (hw5 : w < 4) (hz : z = nI (unwS (un N (15 + w) v))) (hdg : decode cc pc = .ok (.putfield index, 3)) (kk : ∀ (H1 : Heap) (locs1 : List Loc), HB G A H0 (sN G a (un N (15 + w) v)) H1 locs1 → W p l e R s m args below meth c H1 locs1 cells slots Q (F0 m (pc + 3) ls rest)) : W p l e R s m args below meth c H locs cells slots Q (F0 m pc ls (.int z :: .ref (a 0) :: rest)) :=
  pX2_2 E hw hl hdg (fun H1 locs1 hw1 => kk H1 locs1 (hw1.ci2 hw5 hz))
end LIB5
theorem andn_nI5 : ∀ S, S < 32 → ∀ T, T < 32 → nI S &&& (nI T ^^^ (-1)) = nI (S &&& (31 ^^^ T)) := by decide +kernel
theorem b15 (i : Nat) : (15 : Nat).testBit i = decide (i < 4) := Nat.testBit_two_pow_sub_one 4 i
theorem b31 (i : Nat) : (31 : Nat).testBit i = decide (i < 5) := Nat.testBit_two_pow_sub_one 5 i
theorem illS_1 {N : NS} {w : Nat} (hw : w < 5) : illS N ||| 2 ^ w = illS (un N (10 + w) 1) := by
  apply Nat.eq_of_testBit_eq
  intro i
  rw [Nat.testBit_or, Nat.testBit_two_pow, illS, illS, bitsI_t, bitsI_t]
  by_cases h : w = i
  · subst h; simp [hw, un_s]
  · rw [un_n (by omega)]; simp [h]
theorem illS_0 {N : NS} {w : Nat} (hw : w < 5) : illS N &&& (31 ^^^ 2 ^ w) = illS (un N (10 + w) 0) := by
  apply Nat.eq_of_testBit_eq
  intro i
  rw [Nat.testBit_and, Nat.testBit_xor, Nat.testBit_two_pow, b31, illS, illS, bitsI_t, bitsI_t]
  by_cases h : w = i
  · subst h; simp [hw, un_s]
  · rw [un_n (by omega)]; simp only [h, decide_false, Bool.xor_false]; by_cases z : i < 5 <;> simp [z]
theorem unwS_0 {N : NS} {w : Nat} (hw : w < 4) : unwS N ||| 2 ^ w = unwS (un N (15 + w) 0) := by
  apply Nat.eq_of_testBit_eq
  intro i
  rw [Nat.testBit_or, Nat.testBit_two_pow, unwS, unwS, bitsI_t, bitsI_t]
  by_cases h : w = i
  · subst h; simp [hw, un_s]
  · rw [un_n (by omega)]; simp [h]
theorem unwS_1 {N : NS} {w : Nat} (hw : w < 4) : unwS N &&& (15 ^^^ 2 ^ w) = unwS (un N (15 + w) 1) := by
  apply Nat.eq_of_testBit_eq
  intro i
  rw [Nat.testBit_and, Nat.testBit_xor, Nat.testBit_two_pow, b15, unwS, unwS, bitsI_t, bitsI_t]
  by_cases h : w = i
  · subst h; simp [hw, un_s]
  · rw [un_n (by omega)]; simp only [h, decide_false, Bool.xor_false]; by_cases z : i < 4 <;> simp [z]
section LIB6
variable {p : Program} {l : Launch} {e : Env} {R : Room} {s : State} {m : MethodId} {args : Array Value} {below : List Frame} {meth : Method} {c : Code} {H : Heap} {locs : List Loc} {cells slots : Nat} {Q : State → Prop}
variable {cc : ByteArray} {pc : Nat} {ls : Array Slot} {rest st0 : List Value} {A : Nat → Prop} {H0 : Heap} {own : String} {nL : Nat} {G : GP} {a : Nat → Nat} {N : NS} {index : Nat}
theorem cpI (E : EN p c cc s m args own nL G) {lv : List (Nat × Value)} (hl : lv_has ls nL lv) {ws : va_W} (hw : HB G A H0 ws H locs) (h1 : Cond.methodLink own index arraycopyName ∈ GW) (q0 q1 : Nat) {a0 b n0 n1 : Nat} {f g : Nat → Int32} (ha0 : ws[q0]? = some (a0, .inl (G.2 0, n0, .inl f))) (ha1 : ws[q1]? = some (b, .inl (G.2 0, n1, .inl g)))
    {sp dp n : Nat} (h4 : sp + n ≤ n0) (h5 : dp + n ≤ n1) (hb2 : n0 < 2 ^ 31 ∧ n1 < 2 ^ 31) (hfr : 1 ≤ R.frames) (hlo : (rest.map fun v => v.category).sum + 18 ≤ R.locals) (hdg : decode cc pc = .ok (.invokestatic index, 3))
    (kk : ∀ (H1 : Heap) (locs1 : List Loc), HB G A H0 (ws.set q1 (b, .inl (G.2 0, n1, .inl (va_cpy f g sp dp n)))) H1 locs1 → W p l e R s m args below meth c H1 locs1 cells slots Q (F0 m (pc + 3) ls rest)) : W p l e R s m args below meth c H locs cells slots Q (F0 m pc ls (.int (nI n) :: .int (nI dp) :: .ref b :: .int (nI sp) :: .ref a0 :: rest)) := by
  have e1 : (nI sp).toNatClampNeg = sp := nI_clamp (by omega)
  have e2 : (nI dp).toNatClampNeg = dp := nI_clamp (by omega)
  have e3 : (nI n).toNatClampNeg = n := nI_clamp (by omega)
  refine va_copyi E.1 E.2.1 (E.2.2.1.trans hl.1.symm) E.2.2.2.1 (E.2.2.2.2.1 _ h1) (E.2.2.2.2.1 _ mw_4_10) (E.2.2.2.2.1 _ mw_4_11) (E.2.2.2.2.1 _ mw_4_12) E.2.2.2.2.2.1 hw.1 hw.2.1 hw.2.2.1 q0 q1 0 0 ha0 ha1 rfl rfl rfl (nI_pos (by omega)) (nI_pos (by omega)) (nI_pos (by omega)) (by rw [e1, e3]; exact h4) (by rw [e2, e3]; exact h5) (fun _ _ => rfl) hfr hlo hdg (fun H1 locs1 hP hD hS => ?_)
  rw [e1, e2, e3] at hP hD
  exact kk H1 locs1 ⟨hP, hD, hS, hw.2.2.2⟩
end LIB6
theorem b_cof {d d2 c0 t : Nat} {N : NS} (hc0 : c0 < 4) (hd2 : d2 < 8) (hd : d < 8) : ∀ c, c < 4 → (un N (30 + 14 * d2 + (6 + c0)) t) (30 + 14 * d + (6 + c)) = if d = d2 ∧ c = c0 then t else N (30 + 14 * d + (6 + c)) := fun c hc => by
  by_cases h : d = d2 ∧ c = c0
  · obtain ⟨rfl, rfl⟩ := h; rw [un_s, if_pos ⟨rfl, rfl⟩]
  · rw [un_n (by omega), if_neg h]
/-- a clerk's deal moves from one standing to another -/
theorem cOf_from {d c0 f t : Nat} {N : NS} (hd : d < 8) (hc0 : c0 < 4) (hft : f ≠ t) : cOf d f N &&& (15 ^^^ 2 ^ c0) = cOf d f (un N (30 + 14 * d + (6 + c0)) t) := by
  apply Nat.eq_of_testBit_eq
  intro i
  rw [Nat.testBit_and, Nat.testBit_xor, Nat.testBit_two_pow, b15]
  by_cases hi : i < 4
  · apply Bool.eq_iff_iff.mpr
    rw [Bool.and_eq_true, cOf_t hi, cOf_t hi, un_n (by omega), b_cof hc0 hd hd i hi]
    by_cases h : i = c0
    · subst h; simp [hi]; omega
    · simp [hi, h, Ne.symm h]
  · rw [cOf_hi hi, cOf_hi hi, Bool.false_and]
theorem cOf_to {d c0 t : Nat} {N : NS} (hd : d < 8) (hc0 : c0 < 4) (hb : (N (30 + 14 * d + 0)).testBit c0 = true) : cOf d t N ||| 2 ^ c0 = cOf d t (un N (30 + 14 * d + (6 + c0)) t) := by
  apply Nat.eq_of_testBit_eq
  intro i
  rw [Nat.testBit_or, Nat.testBit_two_pow]
  by_cases hi : i < 4
  · apply Bool.eq_iff_iff.mpr
    rw [Bool.or_eq_true, cOf_t hi, cOf_t hi, un_n (by omega), b_cof hc0 hd hd i hi]
    by_cases h : i = c0
    · subst h; exact ⟨fun _ => ⟨hb, if_pos ⟨rfl, rfl⟩⟩, fun _ => Or.inr (decide_eq_true rfl)⟩
    · simp [h, Ne.symm h]
  · rw [cOf_hi hi, cOf_hi hi]; simp; omega
theorem cOf_oth {d d2 c0 s f t : Nat} {N : NS} (hd : d < 8) (hd2 : d2 < 8) (hc0 : c0 < 4) (h0 : N (30 + 14 * d2 + (6 + c0)) = f) (h : d ≠ d2 ∨ (s ≠ f ∧ s ≠ t)) : cOf d s (un N (30 + 14 * d2 + (6 + c0)) t) = cOf d s N := by
  apply Nat.eq_of_testBit_eq
  intro i
  by_cases hi : i < 4
  · apply Bool.eq_iff_iff.mpr
    rw [cOf_t hi, cOf_t hi, un_n (by omega), b_cof hc0 hd2 hd i hi]
    by_cases q : d = d2 ∧ i = c0
    · obtain ⟨rfl, rfl⟩ := q
      rw [if_pos ⟨rfl, rfl⟩, h0]
      constructor <;> (intro z; omega)
    · rw [if_neg q]
  · rw [cOf_hi hi, cOf_hi hi]
set_option maxRecDepth 100000 in
theorem HB.mv {G : GP} {A : Nat → Prop} {H0 : Heap} {a : Nat → Nat} {N : NS} {d c0 f t : Nat} {H : Heap} {locs : List Loc} (hd : d < 8) (hc0 : c0 < 4) (hf : f < 4) (ht : t < 4) (hft : f ≠ t) (hb : (N (30 + 14 * d + 0)).testBit c0 = true) (h0 : N (30 + 14 * d + (6 + c0)) = f)
    (h : HB G A H0 (sX G a (sI N) (va_up (va_up (sF N) 10 (upd (sF N 10) (d * 4 + f) (nI (cOf d f N &&& (15 ^^^ 2 ^ c0))))) 10 (upd (upd (sF N 10) (d * 4 + f) (nI (cOf d f N &&& (15 ^^^ 2 ^ c0)))) (d * 4 + t) (nI (cOf d t N ||| 2 ^ c0))))) H locs) : HB G A H0 (sN G a (un N (30 + 14 * d + (6 + c0)) t)) H locs := by
  refine h.scongr (sI_un (by omega)) ?_ ?_ ?_ ?_ ?_ ?_ ?_ ?_ ?_ ?_ ?_ ?_
  · intro i hi
    exact congrArg nI (un_n (by omega)).symm
  · intro i hi
    exact congrArg nI (un_n (by omega)).symm
  · intro i hi
    exact congrArg nI (un_n (by omega)).symm
  · intro i hi
    exact congrArg nI (un_n (by omega)).symm
  · intro i hi
    exact congrArg nI (un_n (by omega)).symm
  · intro i hi
    exact congrArg nI (un_n (by omega)).symm
  · intro i hi
    exact congrArg nI (un_n (by omega)).symm
  · intro i hi
    exact congrArg nI (un_n (by omega)).symm
  · intro i hi
    exact congrArg nI (un_n (by omega)).symm
  · intro i hi
    exact congrArg nI (un_n (by omega)).symm
  · intro i hi
    show upd (upd (sF N 10) (d * 4 + f) _) (d * 4 + t) _ i = nI (cOf (i / 4) (i % 4) (un N (30 + 14 * d + (6 + c0)) t))
    by_cases z : i = d * 4 + t
    · rw [show i / 4 = d by omega, show i % 4 = t by omega, ← cOf_to hd hc0 hb]; exact if_pos z
    · by_cases z2 : i = d * 4 + f
      · rw [show i / 4 = d by omega, show i % 4 = f by omega, ← cOf_from hd hc0 hft]; exact (if_neg z).trans (if_pos z2)
      · rw [cOf_oth (by omega) hd hc0 h0 (by omega)]; exact (if_neg z).trans (if_neg z2)
  · intro i hi
    exact congrArg nI (un_n (by omega)).symm
theorem cOf_open {d s : Nat} {N M : NS} {S D : Nat} (hd : d < 8) (hS : S < 16) (hM0 : M (30 + 14 * D + 0) = S) (hMo : ∀ j, j ≠ 30 + 14 * D + 0 → j ≠ 30 + 14 * D + 2 → 30 ≤ j → M j = N j) (hz : ∀ c, c < 4 → N (30 + 14 * D + (6 + c)) = 0) (h0 : N (30 + 14 * D + 0) = 0) (hD : D < 8) (hs : s < 4) : cOf d s M = if d = D ∧ s = 0 then S else cOf d s N := by
  apply Nat.eq_of_testBit_eq
  intro i
  by_cases hi : i < 4
  · apply Bool.eq_iff_iff.mpr
    by_cases q : d = D
    · subst q
      have e1 : M (30 + 14 * d + (6 + i)) = 0 := (hMo _ (by omega) (by omega) (by omega)).trans (hz i hi)
      rw [cOf_t hi, hM0, e1]
      by_cases z : s = 0
      · subst z; simp
      · rw [if_neg (by omega), cOf_t hi, h0, hz i hi, Nat.zero_testBit]; simp; omega
    · rw [if_neg (by omega), cOf_t hi, cOf_t hi, hMo _ (by omega) (by omega) (by omega), hMo _ (by omega) (by omega) (by omega)]
  · by_cases q : d = D ∧ s = 0
    · rw [if_pos q, cOf_hi hi]; exact (Nat.testBit_lt_two_pow (Nat.lt_of_lt_of_le hS (show 2 ^ 4 ≤ 2 ^ i from Nat.pow_le_pow_right (by decide) (by omega)))).symm
    · rw [if_neg q, cOf_hi hi, cOf_hi hi]
set_option maxRecDepth 100000 in
theorem HB.opn {G : GP} {A : Nat → Prop} {H0 : Heap} {a : Nat → Nat} {N : NS} {S : Nat} {H : Heap} {locs : List Loc} (hD : N 5 < 8) (hS : S < 16) (hz : ∀ c, c < 4 → N (30 + 14 * N 5 + (6 + c)) = 0) (h0 : N (30 + 14 * N 5 + 0) = 0)
    (h : HB G A H0 (sX G a (sI (un N 5 (N 5 + 1))) (va_up (va_up (va_up (sF (un N 5 (N 5 + 1))) 4 (upd (sF (un N 5 (N 5 + 1)) 4) (N 5) (nI S))) 6 (upd (sF (un N 5 (N 5 + 1)) 6) (N 5) (nI (N 4)))) 10 (upd (sF (un N 5 (N 5 + 1)) 10) (N 5 * 4 + 0) (nI S)))) H locs) : HB G A H0 (sN G a (un (un (un N 5 (N 5 + 1)) (30 + 14 * N 5 + 0) S) (30 + 14 * N 5 + 2) (N 4))) H locs := by
  have e : ∀ j, j ≠ 30 + 14 * N 5 + 0 → j ≠ 30 + 14 * N 5 + 2 → un (un (un N 5 (N 5 + 1)) (30 + 14 * N 5 + 0) S) (30 + 14 * N 5 + 2) (N 4) j = un N 5 (N 5 + 1) j := fun j h1 h2 => by rw [un_n h2, un_n h1]
  have e5 : ∀ j, j ≠ 30 + 14 * N 5 + 0 → j ≠ 30 + 14 * N 5 + 2 → 30 ≤ j → un (un (un N 5 (N 5 + 1)) (30 + 14 * N 5 + 0) S) (30 + 14 * N 5 + 2) (N 4) j = N j := fun j h1 h2 h3 => by rw [e j h1 h2, un_n (by omega)]
  have q0 : un (un (un N 5 (N 5 + 1)) (30 + 14 * N 5 + 0) S) (30 + 14 * N 5 + 2) (N 4) (30 + 14 * N 5 + 0) = S := by rw [un_n (by omega), un_s]
  refine h.scongr ⟨?_, ?_, ?_, ?_, ?_, ?_⟩ ?_ ?_ ?_ ?_ ?_ ?_ ?_ ?_ ?_ ?_ ?_ ?_
  · exact congrArg nI (e 4 (by omega) (by omega)).symm
  · exact congrArg nI (illS_c (fun j h1 h2 => e j (by omega) (by omega))).symm
  · exact congrArg nI (unwS_c (fun j h1 h2 => e j (by omega) (by omega))).symm
  · exact congrArg nI (e 5 (by omega) (by omega)).symm
  · exact congrArg nI (e 6 (by omega) (by omega)).symm
  · exact congrArg nI (e 8 (by omega) (by omega)).symm
  · intro i hi
    exact congrArg nI (e _ (by omega) (by omega)).symm
  · intro i hi
    exact congrArg nI (e _ (by omega) (by omega)).symm
  · intro i hi
    exact congrArg nI (e _ (by omega) (by omega)).symm
  · intro i hi
    exact congrArg nI (e _ (by omega) (by omega)).symm
  · intro i hi
    show upd (sF (un N 5 (N 5 + 1)) 4) (N 5) (nI S) i = nI (un (un (un N 5 (N 5 + 1)) (30 + 14 * N 5 + 0) S) (30 + 14 * N 5 + 2) (N 4) (30 + 14 * i + 0))
    by_cases z : i = N 5
    · subst z; rw [q0]; exact if_pos rfl
    · rw [e _ (by omega) (by omega)]; exact if_neg z
  · intro i hi
    exact congrArg nI (e _ (by omega) (by omega)).symm
  · intro i hi
    show upd (sF (un N 5 (N 5 + 1)) 6) (N 5) (nI (N 4)) i = nI (un (un (un N 5 (N 5 + 1)) (30 + 14 * N 5 + 0) S) (30 + 14 * N 5 + 2) (N 4) (30 + 14 * i + 2))
    by_cases z : i = N 5
    · subst z; rw [un_s]; exact if_pos rfl
    · rw [e _ (by omega) (by omega)]; exact if_neg z
  · intro i hi
    exact congrArg nI (e _ (by omega) (by omega)).symm
  · intro i hi
    exact congrArg nI (e _ (by omega) (by omega)).symm
  · intro i hi
    exact congrArg nI (e _ (by omega) (by omega)).symm
  · intro i hi
    show upd (sF (un N 5 (N 5 + 1)) 10) (N 5 * 4 + 0) (nI S) i = nI (cOf (i / 4) (i % 4) (un (un (un N 5 (N 5 + 1)) (30 + 14 * N 5 + 0) S) (30 + 14 * N 5 + 2) (N 4)))
    rw [cOf_open (N := un N 5 (N 5 + 1)) (D := N 5) (S := S) (by omega) hS q0 (fun j h1 h2 h3 => e j h1 h2) (fun c hc => by rw [un_n (by omega)]; exact hz c hc) (by rw [un_n (by omega)]; exact h0) hD (by omega)]
    by_cases z : i = N 5 * 4 + 0
    · rw [if_pos (by omega)]; exact if_pos z
    · rw [if_neg (by omega)]; exact if_neg z
  · intro i hi
    exact congrArg nI (e _ (by omega) (by omega)).symm
set_option maxRecDepth 100000 in
theorem HB.rep {G : GP} {A : Nat → Prop} {H0 : Heap} {a : Nat → Nat} {N : NS} {p : Nat} {H : Heap} {locs : List Loc} (h6 : N 6 < 60) (hp : p < N 6)
    (h : HB G A H0 (sX G a (upd (sI N) 4 (nI (N 6 + 1))) (va_up (sF N) 1 (va_cpy (sF N 1) (sF N 1) (p * 4) (N 6 * 4) 4))) H locs) : HB G A H0 (sN G a (mTwi p N)) H locs := by
  have e : ∀ j, j ≠ 6 → j < 150 → mTwi p N j = N j := fun j h1 h2 => by unfold mTwi; rw [un_n h1, mTw_l (by omega)]
  refine h.scongr ⟨congrArg nI (e 4 (by omega) (by omega)).symm, congrArg nI (illS_c (fun j h1 h2 => e j (by omega) (by omega))).symm, congrArg nI (unwS_c (fun j h1 h2 => e j (by omega) (by omega))).symm, congrArg nI (e 5 (by omega) (by omega)).symm, congrArg nI (show mTwi p N 6 = N 6 + 1 from un_s).symm, congrArg nI (e 8 (by omega) (by omega)).symm⟩ ?_ ?_ ?_ ?_ ?_ ?_ ?_ ?_ ?_ ?_ ?_ ?_
  · intro i hi
    exact congrArg nI (e _ (by omega) (by omega)).symm
  · intro i hi
    show va_cpy (sF N 1) (sF N 1) (p * 4) (N 6 * 4) 4 i = nI (mTwi p N (150 + i))
    unfold mTwi mTw va_cpy
    rw [un_n (by omega)]
    by_cases z : N 6 * 4 ≤ i ∧ i < N 6 * 4 + 4
    · rw [if_pos z, if_pos (by omega)]; exact congrArg nI (congrArg N (by omega))
    · rw [if_neg z, if_neg (by omega)]; rfl
  · intro i hi
    exact congrArg nI (e _ (by omega) (by omega)).symm
  · intro i hi
    exact congrArg nI (e _ (by omega) (by omega)).symm
  · intro i hi
    exact congrArg nI (e _ (by omega) (by omega)).symm
  · intro i hi
    exact congrArg nI (e _ (by omega) (by omega)).symm
  · intro i hi
    exact congrArg nI (e _ (by omega) (by omega)).symm
  · intro i hi
    exact congrArg nI (e _ (by omega) (by omega)).symm
  · intro i hi
    exact congrArg nI (e _ (by omega) (by omega)).symm
  · intro i hi
    exact congrArg nI (e _ (by omega) (by omega)).symm
  · intro i hi
    exact congrArg nI (cOf_c (e _ (by omega) (by omega)) (fun c hc => e _ (by omega) (by omega))).symm
  · intro i hi
    exact congrArg nI (e _ (by omega) (by omega)).symm
set_option maxRecDepth 100000 in
theorem HB.rmv {G : GP} {A : Nat → Prop} {H0 : Heap} {a : Nat → Nat} {N : NS} {p : Nat} {H : Heap} {locs : List Loc} (h6 : N 6 ≤ 60) (hp : p < N 6)
    (h : HB G A H0 (sX G a (upd (sI N) 4 (nI (N 6 - 1))) (va_up (sF N) 1 (va_cpy (sF N 1) (sF N 1) ((p + 1) * 4) (p * 4) ((N 6 - (p + 1)) * 4)))) H locs) : HB G A H0 (sN G a (mDrop p N)) H locs := by
  have e : ∀ j, j ≠ 6 → j < 150 → mDrop p N j = N j := fun j h1 h2 => mDrop_n h1 h2
  refine h.scongr ⟨congrArg nI (e 4 (by omega) (by omega)).symm, congrArg nI (illS_c (fun j h1 h2 => e j (by omega) (by omega))).symm, congrArg nI (unwS_c (fun j h1 h2 => e j (by omega) (by omega))).symm, congrArg nI (e 5 (by omega) (by omega)).symm, congrArg nI (mDrop_6 (p := p) (N := N)).symm, congrArg nI (e 8 (by omega) (by omega)).symm⟩ ?_ ?_ ?_ ?_ ?_ ?_ ?_ ?_ ?_ ?_ ?_ ?_
  · intro i hi
    exact congrArg nI (e _ (by omega) (by omega)).symm
  · intro i hi
    show va_cpy (sF N 1) (sF N 1) ((p + 1) * 4) (p * 4) ((N 6 - (p + 1)) * 4) i = nI (mDrop p N (150 + i))
    unfold mDrop mDropTo va_cpy
    rw [if_neg (c := 150 + i = 6) (by omega)]
    by_cases z : p * 4 ≤ i ∧ i < p * 4 + (N 6 - (p + 1)) * 4
    · rw [if_pos z, if_pos (by omega)]; exact congrArg nI (congrArg N (by omega))
    · rw [if_neg z, if_neg (by omega)]; rfl
  · intro i hi
    exact congrArg nI (e _ (by omega) (by omega)).symm
  · intro i hi
    exact congrArg nI (e _ (by omega) (by omega)).symm
  · intro i hi
    exact congrArg nI (e _ (by omega) (by omega)).symm
  · intro i hi
    exact congrArg nI (e _ (by omega) (by omega)).symm
  · intro i hi
    exact congrArg nI (e _ (by omega) (by omega)).symm
  · intro i hi
    exact congrArg nI (e _ (by omega) (by omega)).symm
  · intro i hi
    exact congrArg nI (e _ (by omega) (by omega)).symm
  · intro i hi
    exact congrArg nI (e _ (by omega) (by omega)).symm
  · intro i hi
    exact congrArg nI (cOf_c (e _ (by omega) (by omega)) (fun c hc => e _ (by omega) (by omega))).symm
  · intro i hi
    exact congrArg nI (e _ (by omega) (by omega)).symm

/-! ===== pure: what falling ill leaves -/
def fill (g : Nat → Nat) (n : Nat) : Nat → Int32 := fun j => if j < n then nI (g j) else 0
theorem fill_00 {g : Nat → Nat} : fill g 0 = fun _ => 0 := by funext j; exact if_neg (Nat.not_lt_zero j)
theorem fill_s {g : Nat → Nat} {n x : Nat} (h : x = g n) : upd (fill g n) n (nI x) = fill g (n + 1) := by
  subst h
  funext j
  unfold upd fill
  by_cases q : j = n
  · subst q; rw [if_pos rfl, if_pos (by omega)]
  · rw [if_neg q]
    by_cases r : j < n
    · rw [if_pos r, if_pos (by omega)]
    · rw [if_neg r, if_neg (by omega)]
theorem fill_r {g : Nat → Nat} {n j : Nat} (h : j < n) : fill g n j = nI (g j) := if_pos h
theorem mFgt_o {w d e k : Nat} {N : NS} (h : e ≠ d) (hk : k < 14) (hw : w < 5) : mFgt w d N (30 + 14 * e + k) = N (30 + 14 * e + k) := by
  unfold mFgt
  split
  · rw [un_n (by omega), un_n (by omega)]
  · split
    · rw [un_n (by omega)]
    · rfl
theorem mFgt_c {w d k : Nat} {X N : NS} (hk : k < 14) (hw : w < 5) (h : ∀ i, i < 14 → X (30 + 14 * d + i) = N (30 + 14 * d + i)) : mFgt w d X (30 + 14 * d + k) = mFgt w d N (30 + 14 * d + k) := by
  unfold mFgt
  rw [h 5 (by decide), h 1 (by decide), h 0 (by decide), h (6 + w) (by omega)]
  split
  · unfold un
    split
    · rfl
    · split
      · rfl
      · exact h k hk
  · split
    · unfold un
      split
      · rfl
      · exact h k hk
    · exact h k hk
theorem fgs_d {w : Nat} {N : NS} (hw : w < 5) : ∀ n, ∀ e k, k < 14 → fgs w n N (30 + 14 * e + k) = if e < n then mFgt w e N (30 + 14 * e + k) else N (30 + 14 * e + k)
  | 0, e, k, _ => by rw [fgs, if_neg (Nat.not_lt_zero e)]
  | n + 1, e, k, hk => by
    rw [fgs]
    by_cases q : e = n
    · subst q
      rw [if_pos (by omega)]
      exact mFgt_c hk hw (fun i hi => by rw [fgs_d hw e e i hi, if_neg (Nat.lt_irrefl e)])
    · rw [mFgt_o q hk hw, fgs_d hw n e k hk]
      by_cases r : e < n
      · rw [if_pos r, if_pos (by omega)]
      · rw [if_neg r, if_neg (by omega)]
theorem fall_d {w d k : Nat} {N : NS} (hI : Inv N) (hw : w < 5) (hd : d < N 5) (hk : k < 14) : mFall w N (30 + 14 * d + k) = mFgt w d N (30 + 14 * d + k) := by
  unfold mFall
  rw [fgs_d hw _ d k hk, if_pos hd]
  exact mFgt_c hk hw (fun i hi => un_n (by omega))
theorem fall_lo {w j : Nat} {N : NS} (hI : Inv N) (hw : w < 5) (hj : j < 30 ∨ 150 ≤ j) (h : j ≠ 10 + w) : mFall w N j = N j := by
  unfold mFall
  rw [fgs_n hw hj _ hI.1.2.1, un_n h]
theorem fall_w {w : Nat} {N : NS} (hI : Inv N) (hw : w < 5) : mFall w N (10 + w) = 1 := by
  unfold mFall
  rw [fgs_n hw (by omega) _ hI.1.2.1, un_s]
theorem fall_1 {w d : Nat} {N : NS} (hI : Inv N) (hw : w < 5) (hd : d < N 5) : mFall w N (30 + 14 * d + 1) = if w = 4 ∧ N (30 + 14 * d + 1) = 0 then 2 else N (30 + 14 * d + 1) := by
  rw [fall_d hI hw hd (by decide)]
  unfold mFgt
  by_cases q : w = 4
  · rw [if_pos q, un_s]
    by_cases r : N (30 + 14 * d + 1) = 0
    · rw [if_pos r, if_pos ⟨q, r⟩]
    · rw [if_neg r, if_neg (fun z => r z.2)]
  · rw [if_neg q, if_neg (show ¬ (w = 4 ∧ N (30 + 14 * d + 1) = 0) from fun z => q z.1)]
    split
    · rw [un_n (by omega)]
    · rfl
theorem fall_5 {w d : Nat} {N : NS} (hI : Inv N) (hw : w < 5) (hd : d < N 5) : mFall w N (30 + 14 * d + 5) = if w = 4 ∧ N (30 + 14 * d + 1) = 1 then 0 else N (30 + 14 * d + 5) := by
  rw [fall_d hI hw hd (by decide)]
  unfold mFgt
  by_cases q : w = 4
  · rw [if_pos q, un_n (by omega), un_s]
    by_cases r : N (30 + 14 * d + 1) = 1
    · rw [if_pos r, if_pos ⟨q, r⟩]
    · rw [if_neg r, if_neg (fun z => r z.2)]
  · rw [if_neg q, if_neg (show ¬ (w = 4 ∧ N (30 + 14 * d + 1) = 1) from fun z => q z.1)]
    split
    · rw [un_n (by omega)]
    · rfl
theorem fall_0 {w d : Nat} {N : NS} (hI : Inv N) (hw : w < 5) (hd : d < N 5) : mFall w N (30 + 14 * d + 0) = N (30 + 14 * d + 0) := by
  rw [fall_d hI hw hd (by decide)]
  unfold mFgt
  split
  · rw [un_n (by omega), un_n (by omega)]
  · split
    · rw [un_n (by omega)]
    · rfl
theorem fall_c {w d : Nat} {N : NS} (hI : Inv N) (hw : w < 5) (hd : d < N 5) : cOf d 0 (mFall w N) = if w < 4 then cOf d 0 N &&& (15 ^^^ 2 ^ w) else cOf d 0 N := by
  have h0 := fall_0 hI hw hd
  by_cases q : w < 4
  · rw [if_pos q]
    refine eq4 cOf_lt (and_lt16 cOf_lt) (fun c hc => ?_)
    rw [cOf_t hc, h0, bit_an hc, cOf_t hc, Nat.testBit_two_pow, decide_eq_true_iff, fall_d hI hw hd (by omega)]
    unfold mFgt
    rw [if_neg (by omega)]
    by_cases e : w = c
    · subst e
      by_cases z : N (30 + 14 * d + (6 + w)) = 0
      · rw [if_pos z, un_s]
        constructor
        · rintro ⟨y1, y2⟩; rw [if_pos y1] at y2; omega
        · rintro ⟨_, y2⟩; exact absurd rfl y2
      · rw [if_neg z]
        exact ⟨fun y => absurd y.2 z, fun y => absurd rfl y.2⟩
    · have hsame : (if N (30 + 14 * d + (6 + w)) = 0 then un N (30 + 14 * d + (6 + w)) (if (N (30 + 14 * d + 0)).testBit w = true then 3 else 0) else N) (30 + 14 * d + (6 + c)) = N (30 + 14 * d + (6 + c)) := by
        split
        · rw [un_n (by omega)]
        · rfl
      rw [hsame]
      exact ⟨fun y => ⟨y, e⟩, fun y => y.1⟩
  · rw [if_neg q]
    refine eq4 cOf_lt cOf_lt (fun c hc => ?_)
    rw [cOf_t hc, cOf_t hc, h0, fall_d hI hw hd (by omega)]
    unfold mFgt
    rw [if_pos (by omega), un_n (by omega), un_n (by omega)]
theorem illN_pos {N : NS} {w : Nat} (hw : w < 5) (h : N (10 + w) = 1) : 0 < illN N := by
  unfold illN
  simp only [illI]
  rcases (show w = 0 ∨ w = 1 ∨ w = 2 ∨ w = 3 ∨ w = 4 by omega) with rfl | rfl | rfl | rfl | rfl <;> simp only [Nat.add_zero, Nat.reduceAdd] at h ⊢ <;> omega

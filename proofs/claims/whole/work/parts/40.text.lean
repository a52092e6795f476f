/-! ===== the texts: the signs, the model's reading, the class's reader, as pure functions ===== -/
/-- the model's scalars read, place, isWrong and its row of orders set -/
def tX (r p w : Int32) (O : Nat → Int32) (x : MX) : MX := ((fun i => if i = 3 then r else if i = 4 then p else if i = 5 then w else x.1 i), va_up x.2 5 O)
theorem tX_0 {x : MX} : tX (x.1 3) (x.1 4) (x.1 5) (x.2 5) x = x := by
  refine Prod.ext ?_ (va_up_id (f := x.2) (k := 5))
  funext i
  show (if i = 3 then x.1 3 else if i = 4 then x.1 4 else if i = 5 then x.1 5 else x.1 i) = x.1 i
  by_cases h3 : i = 3
  · rw [if_pos h3, h3]
  · rw [if_neg h3]
    by_cases h4 : i = 4
    · rw [if_pos h4, h4]
    · rw [if_neg h4]
      by_cases h5 : i = 5
      · rw [if_pos h5, h5]
      · rw [if_neg h5]
theorem tX_3 {r p w v : Int32} {O : Nat → Int32} {x : MX} : sx (tX r p w O x) 3 v = tX v p w O x := by
  refine Prod.ext ?_ rfl
  funext i
  show upd (fun i => if i = 3 then r else if i = 4 then p else if i = 5 then w else x.1 i) 3 v i = (if i = 3 then v else if i = 4 then p else if i = 5 then w else x.1 i)
  unfold upd
  by_cases h3 : i = 3
  · rw [if_pos h3, if_pos h3]
  · rw [if_neg h3, if_neg h3]; exact if_neg h3
theorem tX_4 {r p w v : Int32} {O : Nat → Int32} {x : MX} : sx (tX r p w O x) 4 v = tX r v w O x := by
  refine Prod.ext ?_ rfl
  funext i
  show upd (fun i => if i = 3 then r else if i = 4 then p else if i = 5 then w else x.1 i) 4 v i = (if i = 3 then r else if i = 4 then v else if i = 5 then w else x.1 i)
  unfold upd
  by_cases h4 : i = 4
  · subst h4; rfl
  · rw [if_neg h4, if_neg h4]
    show (if i = 3 then r else if i = 4 then p else if i = 5 then w else x.1 i) = _
    rw [if_neg h4]
theorem tX_5 {r p w v : Int32} {O : Nat → Int32} {x : MX} : sx (tX r p w O x) 5 v = tX r p v O x := by
  refine Prod.ext ?_ rfl
  funext i
  show upd (fun i => if i = 3 then r else if i = 4 then p else if i = 5 then w else x.1 i) 5 v i = (if i = 3 then r else if i = 4 then p else if i = 5 then v else x.1 i)
  unfold upd
  by_cases h5 : i = 5
  · subst h5; rfl
  · rw [if_neg h5, if_neg h5]
    show (if i = 3 then r else if i = 4 then p else if i = 5 then w else x.1 i) = _
    rw [if_neg h5]
theorem tX_O {r p w : Int32} {O g : Nat → Int32} {x : MX} : ax (tX r p w O x) 5 g = tX r p w g x := by
  refine Prod.ext rfl ?_
  exact va_uu x.2 5 O g
theorem tX_Oe {G : GP} {a : Nat → Nat} {N : NS} {r p w z : Int32} {O : Nat → Int32} {x : MX} {j : Nat} : mN G a N (ax (tX r p w O x) 5 (upd ((tX r p w O x).2 5) j z)) = mN G a N (tX r p w (upd O j z) x) := by
  rw [tX_O]; rfl
theorem tX_in {r p w r' p' w' : Int32} {O O' : Nat → Int32} {x : MX} (hr : r = r') (hp : p = p') (hw : w = w') (hO : O = O') : tX r p w O x = tX r' p' w' O' x := by rw [hr, hp, hw, hO]
/-- the sign at a place, 0 behind the last -/
def sg (C : Nat → Nat) (n i : Nat) : Nat := if i < n then C i else 0
def PadM (x : MX) (C : Nat → Nat) (n : Nat) : Prop := x.1 1 = nI n ∧ n ≤ 60 ∧ (∀ j, j < n → x.2 4 j = nI (C j)) ∧ ∀ j, j < n → 33 ≤ C j ∧ C j < 127
theorem PadM.lt {x : MX} {C : Nat → Nat} {n : Nat} (h : PadM x C n) (i : Nat) : sg C n i < 127 ∧ (sg C n i ≠ 0 → i < n ∧ sg C n i = C i) := by
  unfold sg
  by_cases q : i < n
  · rw [if_pos q]; exact ⟨(h.2.2.2 i q).2, fun _ => ⟨q, rfl⟩⟩
  · rw [if_neg q]; exact ⟨by omega, fun z => absurd rfl z⟩
theorem sub48_in {s a b : Nat} (hs : s < 200) (ha : a < 200) (hb : b < 200) : (nI a ≤ nI s - nI 48 ∧ nI s - nI 48 ≤ nI b) ↔ (a + 48 ≤ s ∧ s ≤ b + 48) := by
  have h1 : (nI s - nI 48).toInt = (s : Int) - 48 := by
    rw [Int32.toInt_sub, nI_toInt (by omega), nI_toInt (by omega)]
    exact Int.bmod_eq_of_le (by omega) (by omega)
  rw [Int32.le_iff_toInt_le, Int32.le_iff_toInt_le, h1, nI_toInt (by omega), nI_toInt (by omega)]
  omega
theorem sub48_n {s : Nat} (h : 48 ≤ s) : nI s - nI 48 = nI (s - 48) := by
  rw [show s = (s - 48) + 48 by omega, ← nI_add, Int32.add_sub_cancel, Nat.add_sub_cancel]
theorem nin {v a b : Nat} (hv : v < 2 ^ 31) (ha : a < 2 ^ 31) (hb : b < 2 ^ 31) : (nI a ≤ nI v ∧ nI v ≤ nI b) ↔ (a ≤ v ∧ v ≤ b) := by rw [nI_leI ha hv, nI_leI hv hb]
/-- the model's number: the second sign of it -/
abbrev n2c (C : Nat → Nat) (n p d : Nat) : Prop := 0 < d ∧ 48 ≤ sg C n p ∧ sg C n p ≤ 57
def n2v (C : Nat → Nat) (n p d : Nat) : Nat := if n2c C n p d then 10 * d + sg C n p - 48 else d
def n2p (C : Nat → Nat) (n p d : Nat) : Nat := if n2c C n p d then p + 1 else p
/-- the model's clerks behind the first: place, last, set -/
def cmu (C : Nat → Nat) (n : Nat) : Nat → Nat → Nat → Nat → Nat × Nat
  | 0, p, _, S => (p, S)
  | f + 1, p, k, S => if k + 1 + 48 ≤ sg C n p ∧ sg C n p ≤ 3 + 48 then cmu C n f (p + 1) (sg C n p - 48) (S ||| 2 ^ (sg C n p - 48)) else (p, S)
theorem cmu_3 {C : Nat → Nat} {n p S f k : Nat} (h : 3 ≤ k) : cmu C n f p k S = (p, S) := by
  cases f with
  | zero => rfl
  | succ f => exact if_neg (by omega)
theorem cmu_le {C : Nat → Nat} {n : Nat} : ∀ (f p k S : Nat), cmu C n f p k S = cmu C n f p k S → p ≤ (cmu C n f p k S).1 ∧ (cmu C n f p k S).1 ≤ p + f ∧ (S < 16 → (cmu C n f p k S).2 < 16)
  | 0, p, k, S, _ => ⟨Nat.le_refl _, Nat.le_refl _, fun h => h⟩
  | f + 1, p, k, S, _ => by
    rw [cmu]
    by_cases q : k + 1 + 48 ≤ sg C n p ∧ sg C n p ≤ 3 + 48
    · rw [if_pos q]
      have ih := cmu_le (C := C) (n := n) f (p + 1) (sg C n p - 48) (S ||| 2 ^ (sg C n p - 48)) rfl
      refine ⟨by omega, by omega, fun h => ih.2.2 (Nat.or_lt_two_pow (n := 4) h (pow_lt16 _ (by omega)))⟩
    · rw [if_neg q]
      exact ⟨Nat.le_refl _, by omega, fun h => h⟩
/-- one order read: is it wrong, the place behind, the row of orders -/
def rdF (C : Nat → Nat) (n r p : Nat) (O : Nat → Int32) : Nat × Nat × (Nat → Int32) :=
  let O1 := upd O (3 * r) (nI (sg C n p))
  let d := sg C n (p + 1)
  if sg C n p = 111 then
    if 48 ≤ d ∧ d ≤ 51 then (0, (cmu C n 4 (p + 2) (d - 48) (2 ^ (d - 48))).1, upd O1 (3 * r + 1) (nI (cmu C n 4 (p + 2) (d - 48) (2 ^ (d - 48))).2)) else (1, p + 1, upd O1 (3 * r + 1) (nI 0))
  else if sg C n p = 100 ∨ sg C n p = 108 ∨ sg C n p = 116 then
    if 48 ≤ d ∧ d ≤ 57 then (0, n2p C n (p + 2) (d - 48), upd O1 (3 * r + 1) (nI (n2v C n (p + 2) (d - 48)))) else (1, p + 1, upd O1 (3 * r + 1) (nI d - nI 48))
  else if sg C n p = 114 ∨ sg C n p = 120 then
    if 48 ≤ d ∧ d ≤ 52 then (0, p + 2, upd O1 (3 * r + 1) (nI (d - 48))) else (1, p + 1, upd O1 (3 * r + 1) (nI d - nI 48))
  else if sg C n p = 119 then
    if 48 ≤ d ∧ d ≤ 51 then
      (if sg C n (p + 2) = 43 then (0, p + 3, upd (upd O1 (3 * r + 1) (nI (d - 48))) (3 * r + 2) (nI 1))
        else if sg C n (p + 2) = 45 then (0, p + 3, upd (upd O1 (3 * r + 1) (nI (d - 48))) (3 * r + 2) (nI 0))
        else (1, p + 2, upd (upd O1 (3 * r + 1) (nI (d - 48))) (3 * r + 2) (nI 0)))
    else (1, p + 1, upd (upd O1 (3 * r + 1) (nI d - nI 48)) (3 * r + 2) (nI 0))
  else (1, p, O1)
/-- the whole text read: orders, place, is it wrong, the row of orders -/
abbrev FQ : Type := Nat × Nat × Nat × (Nat → Int32)
def fS (C : Nat → Nat) (n : Nat) (q : FQ) : FQ := (q.1 + 1, (rdF C n q.1 (q.2.1 + 1) q.2.2.2).2.1, (rdF C n q.1 (q.2.1 + 1) q.2.2.2).1, (rdF C n q.1 (q.2.1 + 1) q.2.2.2).2.2)
def fR (C : Nat → Nat) (n : Nat) : Nat → FQ → FQ
  | 0, q => q
  | k + 1, q => if q.2.2.1 = 0 ∧ q.2.1 < n then (if C q.2.1 = 59 then fR C n k (fS C n q) else (q.1, q.2.1, 1, q.2.2.2)) else q
def fF (C : Nat → Nat) (n : Nat) (O : Nat → Int32) : FQ := fR C n 61 (1, (rdF C n 0 0 O).2.1, (rdF C n 0 0 O).1, (rdF C n 0 0 O).2.2)
section LIB9
variable {p : Program} {l : Launch} {e : Env} {R : Room} {s : State} {m : MethodId} {args : Array Value} {below : List Frame} {meth : Method} {c : Code} {H : Heap} {locs : List Loc} {cells slots : Nat} {Q : State → Prop}
variable {cc : ByteArray} {pc : Nat} {ls : Array Slot} {rest st0 : List Value} {A : Nat → Prop} {H0 : Heap} {own : String} {nL : Nat} {G : GP}
theorem W_ind4 {S1 S2 S3 S4 : Type} (P : S1 → S2 → S3 → S4 → Prop) (μ : S1 → S2 → S3 → S4 → Nat) (I : S1 → S2 → S3 → S4 → va_W) (L : S1 → S2 → S3 → S4 → List (Nat × Value))
    (step : ∀ (x1 : S1) (x2 : S2) (x3 : S3) (x4 : S4), P x1 x2 x3 x4 → (∀ (y1 : S1) (y2 : S2) (y3 : S3) (y4 : S4), P y1 y2 y3 y4 → μ y1 y2 y3 y4 < μ x1 x2 x3 x4 → ∀ (H : Heap) (locs : List Loc) (ls : Array Slot), HB G A H0 (I y1 y2 y3 y4) H locs → lv_has ls nL (L y1 y2 y3 y4) → W p l e R s m args below meth c H locs cells slots Q (F0 m pc ls [])) →
      ∀ (H : Heap) (locs : List Loc) (ls : Array Slot), HB G A H0 (I x1 x2 x3 x4) H locs → lv_has ls nL (L x1 x2 x3 x4) → W p l e R s m args below meth c H locs cells slots Q (F0 m pc ls []))
    (x1 : S1) (x2 : S2) (x3 : S3) (x4 : S4) (h : P x1 x2 x3 x4) (hw : HB G A H0 (I x1 x2 x3 x4) H locs) (hl : lv_has ls nL (L x1 x2 x3 x4)) : W p l e R s m args below meth c H locs cells slots Q (F0 m pc ls []) :=
  W_ind1 (S1 := S1 × S2 × S3 × S4) (fun q => P q.1 q.2.1 q.2.2.1 q.2.2.2) (fun q => μ q.1 q.2.1 q.2.2.1 q.2.2.2) (fun q => I q.1 q.2.1 q.2.2.1 q.2.2.2) (fun q => L q.1 q.2.1 q.2.2.1 q.2.2.2) (fun q hp ih => step q.1 q.2.1 q.2.2.1 q.2.2.2 hp (fun y1 y2 y3 y4 => ih (y1, y2, y3, y4))) (x1, x2, x3, x4) h hw hl
end LIB9

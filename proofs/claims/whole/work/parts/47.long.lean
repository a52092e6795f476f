/-! ===== longs as naturals; the signs in a long ===== -/
def nL (k : Nat) : Int64 := (UInt64.ofNat k).toInt64
theorem nL_u (k : Nat) : (nL k).toUInt64 = UInt64.ofNat k := rfl
theorem nL_of (x : Int64) : nL x.toUInt64.toNat = x := by
  unfold nL
  rw [UInt64.ofNat_toNat]
  rfl
theorem nL_shr {k : Nat} (hk : k < 2 ^ 64) (i : Nat) (hi : i < 8) : ((nL k).toUInt64 >>> ((nI (8 * i)).toInt64.toUInt64 &&& Int64.toUInt64 63)).toInt64 = nL (k / 256 ^ i) := by
  have h1 : ∀ i, i < 8 → ((nI (8 * i)).toInt64.toUInt64 &&& Int64.toUInt64 63) = UInt64.ofNat (8 * i) := by decide +kernel
  rw [h1 i hi, nL_u]
  unfold nL
  congr 1
  apply UInt64.toNat_inj.mp
  rw [UInt64.toNat_shiftRight, UInt64.toNat_ofNat', UInt64.toNat_ofNat', UInt64.toNat_ofNat', Nat.mod_eq_of_lt hk, Nat.mod_eq_of_lt (show 8 * i < 2 ^ 64 by omega), Nat.mod_eq_of_lt (show 8 * i < 64 by omega), Nat.mod_eq_of_lt (Nat.lt_of_le_of_lt (Nat.div_le_self _ _) hk), Nat.shiftRight_eq_div_pow, Nat.pow_mul]
theorem nL_and {k : Nat} (hk : k < 2 ^ 64) : nL k &&& 255 = nL (k % 256) := by
  have h : (nL k &&& 255).toUInt64 = (nL (k % 256)).toUInt64 := by
    show (nL k).toUInt64 &&& 255 = _
    rw [nL_u, nL_u]
    apply UInt64.toNat_inj.mp
    rw [UInt64.toNat_and, UInt64.toNat_ofNat', UInt64.toNat_ofNat', Nat.mod_eq_of_lt hk, Nat.mod_eq_of_lt (Nat.lt_trans (Nat.mod_lt _ (by decide)) (by decide))]
    show k &&& (2 ^ 8 - 1) = k % 2 ^ 8
    exact Nat.and_two_pow_sub_one_eq_mod k 8
  calc nL k &&& 255 = (nL k &&& 255).toUInt64.toInt64 := rfl
    _ = (nL (k % 256)).toUInt64.toInt64 := by rw [h]
    _ = nL (k % 256) := rfl
theorem nL_0 {k : Nat} (hk : k < 2 ^ 64) : nL k = 0 ↔ k = 0 := by
  constructor
  · intro h
    have h1 : (nL k).toUInt64 = (0 : Int64).toUInt64 := by rw [h]
    rw [nL_u] at h1
    have h2 := congrArg UInt64.toNat h1
    rw [UInt64.toNat_ofNat', Nat.mod_eq_of_lt hk] at h2
    exact h2
  · rintro rfl; rfl
theorem cmp_0 {k : Nat} (hk : k < 2 ^ 64) : lg_cmp (nL k) 0 = 0 ↔ k = 0 := by
  rw [← nL_0 hk]
  unfold lg_cmp
  constructor
  · intro h
    split at h
    · exact absurd h (by decide)
    · split at h
      · assumption
      · exact absurd h (by decide)
  · intro h
    rw [h]
    decide
theorem nL_i : ∀ k, k < 256 → (nL k).toInt32 = nI k := by decide +kernel
theorem nI_c : ∀ k, k < 256 → ((nI k).toUInt32 % 65536).toInt32 = nI k := by decide +kernel
theorem nI_nc : ∀ k, k < 256 → vp_nar .char (nI k) = nI k := by decide +kernel
/-- the signs in a long -/
def ch : Nat → Nat → Option Nat
  | 0, X => if X = 0 then some 0 else none
  | f + 1, X => if X % 256 = 0 then (if X = 0 then some 0 else none) else if 33 ≤ X % 256 ∧ X % 256 ≤ 126 then (ch f (X / 256)).map (· + 1) else none
theorem ch_le : ∀ (f X k : Nat), ch f X = some k → k ≤ f ∧ ∀ i, i < k → 33 ≤ X / 256 ^ i % 256 ∧ X / 256 ^ i % 256 ≤ 126
  | 0, X, k, h => by
    unfold ch at h
    split at h
    · cases h; exact ⟨Nat.le_refl _, fun i hi => absurd hi (Nat.not_lt_zero _)⟩
    · cases h
  | f + 1, X, k, h => by
    unfold ch at h
    split at h
    · split at h
      · cases h; exact ⟨Nat.zero_le _, fun i hi => absurd hi (Nat.not_lt_zero _)⟩
      · cases h
    · split at h
      · rename_i h1 h2
        obtain ⟨k2, hk2, rfl⟩ := Option.map_eq_some_iff.mp h
        obtain ⟨g1, g2⟩ := ch_le f _ _ hk2
        refine ⟨by omega, fun i hi => ?_⟩
        cases i with
        | zero => rw [Nat.pow_zero, Nat.div_one]; exact h2
        | succ i =>
          have := g2 i (by omega)
          rw [Nat.div_div_eq_div_mul, ← Nat.pow_succ'] at this
          exact this
      · cases h
theorem ch_n {f X i Y : Nat} (h : ch f X = (ch (0 + 1 + i) Y).map (· + 0)) : ch f X = ch (i + 1) Y := by
  rw [h, show 0 + 1 + i = i + 1 by omega]
  cases ch (i + 1) Y <;> rfl
/-- the pad with the last m of k new signs written from n on -/
def cP (X n k m : Nat) (f : Nat → Int32) : Nat → Int32 := fun j => if n + k ≤ j + m ∧ j < n + k then nI (X / 256 ^ (n + k - 1 - j) % 256) else f j
theorem cP_0 {X n k : Nat} {f : Nat → Int32} : cP X n k 0 f = f := by
  funext j
  exact if_neg (by omega)
theorem cP_s {X n k m : Nat} {f : Nat → Int32} (hm : m < k) : upd (cP X n k m f) (n + k - 1 - m) (nI (X / 256 ^ m % 256)) = cP X n k (m + 1) f := by
  funext j
  unfold upd cP
  by_cases h : j = n + k - 1 - m
  · rw [if_pos h, if_pos (by omega), show n + k - 1 - j = m by omega]
  · rw [if_neg h]
    by_cases q : n + k ≤ j + m ∧ j < n + k
    · rw [if_pos q, if_pos (by omega)]
    · rw [if_neg q, if_neg (by omega)]
section LIBL
variable {p : Program} {l : Launch} {e : Env} {R : Room} {s : State} {m : MethodId} {args : Array Value} {below : List Frame} {meth : Method} {c : Code} {H : Heap} {locs : List Loc} {cells slots : Nat} {Q : State → Prop}
variable {pc : Nat} {ls : Array Slot} {rest : List Value}
theorem lv_eqL {x y : Int64} (h : x = y) (kk : W p l e R s m args below meth c H locs cells slots Q (F0 m pc ls (.long y :: rest))) : W p l e R s m args below meth c H locs cells slots Q (F0 m pc ls (.long x :: rest)) := h ▸ kk
end LIBL

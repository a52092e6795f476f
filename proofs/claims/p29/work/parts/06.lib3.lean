/-! ===== my own rows: states as functions into the numbers; loops by a measure ===== -/
abbrev NS : Type := Nat → Nat
def un (N : NS) (k v : Nat) : NS := fun j => if j = k then v else N j
theorem un_s {N : NS} {k v : Nat} : un N k v k = v := if_pos rfl
theorem un_n {N : NS} {k v j : Nat} (h : j ≠ k) : un N k v j = N j := if_neg h
def eN (N : NS) : Nat → Int32 := fun j => nI (N j)
theorem eN_un (N : NS) (k v : Nat) : upd (eN N) k (nI v) = eN (un N k v) := by
  funext j
  unfold upd eN un
  by_cases h : j = k
  · rw [if_pos h, if_pos h]
  · rw [if_neg h, if_neg h]
abbrev mN (G : GP) (a : Nat → Nat) (N : NS) (x : MX) : va_W := mW G a (eN N) x
theorem lvh_eq {ls : Array Slot} {nL : Nat} {l l' : List (Nat × Value)} (h : lv_has ls nL l) (e : l = l') : lv_has ls nL l' := e ▸ h
section LIB4
variable {p : Program} {l : Launch} {e : Env} {R : Room} {s : State} {m : MethodId} {args : Array Value} {below : List Frame} {meth : Method} {c : Code} {H : Heap} {locs : List Loc} {cells slots : Nat} {Q : State → Prop}
variable {cc : ByteArray} {pc : Nat} {ls : Array Slot} {rest st0 : List Value} {A : Nat → Prop} {H0 : Heap} {own : String} {nL : Nat} {G : GP} {a : Nat → Nat} {N : NS} {x : MX}
theorem lN4_0 (E : EN p c cc s m args own nL G) (hw : HB G A H0 (mN G a N x) H locs) {j v : Nat} (hj : j < 390) (hv : N j = v) (hdg : decode cc pc = .ok (.iaload, 1)) (kk : W p l e R s m args below meth c H locs cells slots Q (F0 m (pc + 1) ls (.int (nI v) :: rest))) : W p l e R s m args below meth c H locs cells slots Q (F0 m pc ls (.int (nI j) :: .ref (a 1) :: rest)) :=
  lX4_0 E hw hj hdg (by unfold eN; rw [hv]; exact kk)
theorem sN4_0 (E : EN p c cc s m args own nL G) (hw : HB G A H0 (mN G a N x) H locs) {j v : Nat} (hj : j < 390) (hdg : decode cc pc = .ok (.iastore, 1)) (kk : ∀ (H1 : Heap) (locs1 : List Loc), HB G A H0 (mN G a (un N j v) x) H1 locs1 → W p l e R s m args below meth c H1 locs1 cells slots Q (F0 m (pc + 1) ls rest)) : W p l e R s m args below meth c H locs cells slots Q (F0 m pc ls (.int (nI v) :: .int (nI j) :: .ref (a 1) :: rest)) :=
  sX4_0 E hw hj hdg (fun H1 locs1 hw1 => kk H1 locs1 (hw1.eq (by rw [eN_un])))
theorem lv_tableOutN (hx : p.tables.exec = Jvm.exec) (hb : c.code = cc) {dflt lo hi : Int} {offs : Array Int} {len k : Nat} {tgt : Nat} (hk : k < 2 ^ 31) (hdg : decode cc pc = .ok (.tableswitch dflt lo hi offs, len)) (h : (k : Int) < lo ∨ hi < (k : Int)) (ht : (pc : Int) + dflt = (tgt : Int))
    (kk : W p l e R s m args below meth c H locs cells slots Q (F0 m tgt ls rest)) : W p l e R s m args below meth c H locs cells slots Q (F0 m pc ls (.int (nI k) :: rest)) :=
  lv_tableOut hx hb hdg (by rw [nI_toInt hk]; exact h) ht kk
theorem W_ind1 {S1 : Type} (P : S1 → Prop) (μ : S1 → Nat) (I : S1 → va_W) (L : S1 → List (Nat × Value))
    (step : ∀ x1 : S1, P x1 → (∀ y1 : S1, P y1 → μ y1 < μ x1 → ∀ (H : Heap) (locs : List Loc) (ls : Array Slot), HB G A H0 (I y1) H locs → lv_has ls nL (L y1) → W p l e R s m args below meth c H locs cells slots Q (F0 m pc ls [])) →
      ∀ (H : Heap) (locs : List Loc) (ls : Array Slot), HB G A H0 (I x1) H locs → lv_has ls nL (L x1) → W p l e R s m args below meth c H locs cells slots Q (F0 m pc ls []))
    (x1 : S1) (h : P x1) (hw : HB G A H0 (I x1) H locs) (hl : lv_has ls nL (L x1)) : W p l e R s m args below meth c H locs cells slots Q (F0 m pc ls []) := by
  have key : ∀ (k : Nat) (x1 : S1), μ x1 < k → P x1 → ∀ (H : Heap) (locs : List Loc) (ls : Array Slot), HB G A H0 (I x1) H locs → lv_has ls nL (L x1) → W p l e R s m args below meth c H locs cells slots Q (F0 m pc ls []) := by
    intro k
    induction k with
    | zero => intro x1 h; exact absurd h (Nat.not_lt_zero _)
    | succ k ih => intro x1 hk hp; exact step x1 hp (fun y1 hy hm => ih y1 (by omega) hy)
  exact key (μ x1 + 1) x1 (Nat.lt_succ_self _) h H locs ls hw hl
theorem W_ind2 {S1 S2 : Type} (P : S1 → S2 → Prop) (μ : S1 → S2 → Nat) (I : S1 → S2 → va_W) (L : S1 → S2 → List (Nat × Value))
    (step : ∀ (x1 : S1) (x2 : S2), P x1 x2 → (∀ (y1 : S1) (y2 : S2), P y1 y2 → μ y1 y2 < μ x1 x2 → ∀ (H : Heap) (locs : List Loc) (ls : Array Slot), HB G A H0 (I y1 y2) H locs → lv_has ls nL (L y1 y2) → W p l e R s m args below meth c H locs cells slots Q (F0 m pc ls [])) →
      ∀ (H : Heap) (locs : List Loc) (ls : Array Slot), HB G A H0 (I x1 x2) H locs → lv_has ls nL (L x1 x2) → W p l e R s m args below meth c H locs cells slots Q (F0 m pc ls []))
    (x1 : S1) (x2 : S2) (h : P x1 x2) (hw : HB G A H0 (I x1 x2) H locs) (hl : lv_has ls nL (L x1 x2)) : W p l e R s m args below meth c H locs cells slots Q (F0 m pc ls []) :=
  W_ind1 (S1 := S1 × S2) (fun q => P q.1 q.2) (fun q => μ q.1 q.2) (fun q => I q.1 q.2) (fun q => L q.1 q.2) (fun q hp ih => step q.1 q.2 hp (fun y1 y2 => ih (y1, y2))) (x1, x2) h hw hl
theorem W_ind3 {S1 S2 S3 : Type} (P : S1 → S2 → S3 → Prop) (μ : S1 → S2 → S3 → Nat) (I : S1 → S2 → S3 → va_W) (L : S1 → S2 → S3 → List (Nat × Value))
    (step : ∀ (x1 : S1) (x2 : S2) (x3 : S3), P x1 x2 x3 → (∀ (y1 : S1) (y2 : S2) (y3 : S3), P y1 y2 y3 → μ y1 y2 y3 < μ x1 x2 x3 → ∀ (H : Heap) (locs : List Loc) (ls : Array Slot), HB G A H0 (I y1 y2 y3) H locs → lv_has ls nL (L y1 y2 y3) → W p l e R s m args below meth c H locs cells slots Q (F0 m pc ls [])) →
      ∀ (H : Heap) (locs : List Loc) (ls : Array Slot), HB G A H0 (I x1 x2 x3) H locs → lv_has ls nL (L x1 x2 x3) → W p l e R s m args below meth c H locs cells slots Q (F0 m pc ls []))
    (x1 : S1) (x2 : S2) (x3 : S3) (h : P x1 x2 x3) (hw : HB G A H0 (I x1 x2 x3) H locs) (hl : lv_has ls nL (L x1 x2 x3)) : W p l e R s m args below meth c H locs cells slots Q (F0 m pc ls []) :=
  W_ind1 (S1 := S1 × S2 × S3) (fun q => P q.1 q.2.1 q.2.2) (fun q => μ q.1 q.2.1 q.2.2) (fun q => I q.1 q.2.1 q.2.2) (fun q => L q.1 q.2.1 q.2.2) (fun q hp ih => step q.1 q.2.1 q.2.2 hp (fun y1 y2 y3 => ih (y1, y2, y3))) (x1, x2, x3) h hw hl
theorem lv_if_eqN (hx : p.tables.exec = Jvm.exec) (hb : c.code = cc) {a0 : Nat} (ha : a0 < 2 ^ 31) {off : Int} {tgt : Nat} (hdg : decode cc pc = .ok (.ifCond .eq off, 3)) (ht : (pc : Int) + off = (tgt : Int))
    (kt : a0 = 0 → W p l e R s m args below meth c H locs cells slots Q (F0 m tgt ls rest)) (kf : ¬ a0 = 0 → W p l e R s m args below meth c H locs cells slots Q (F0 m (pc + 3) ls rest)) : W p l e R s m args below meth c H locs cells slots Q (F0 m pc ls (.int (nI a0) :: rest)) :=
  lv_if_eq hx hb hdg ht (fun q => kt ((nI_eq0 ha).mp q)) (fun q => kf (fun z => q ((nI_eq0 ha).mpr z)))
theorem lv_if_neN (hx : p.tables.exec = Jvm.exec) (hb : c.code = cc) {a0 : Nat} (ha : a0 < 2 ^ 31) {off : Int} {tgt : Nat} (hdg : decode cc pc = .ok (.ifCond .ne off, 3)) (ht : (pc : Int) + off = (tgt : Int))
    (kt : ¬ a0 = 0 → W p l e R s m args below meth c H locs cells slots Q (F0 m tgt ls rest)) (kf : a0 = 0 → W p l e R s m args below meth c H locs cells slots Q (F0 m (pc + 3) ls rest)) : W p l e R s m args below meth c H locs cells slots Q (F0 m pc ls (.int (nI a0) :: rest)) :=
  lv_if_ne hx hb hdg ht (fun q => kt (fun z => q ((nI_eq0 ha).mpr z))) (fun q => kf ((nI_eq0 ha).mp q))
theorem lv_if_gtN (hx : p.tables.exec = Jvm.exec) (hb : c.code = cc) {a0 : Nat} (ha : a0 < 2 ^ 31) {off : Int} {tgt : Nat} (hdg : decode cc pc = .ok (.ifCond .gt off, 3)) (ht : (pc : Int) + off = (tgt : Int))
    (kt : 0 < a0 → W p l e R s m args below meth c H locs cells slots Q (F0 m tgt ls rest)) (kf : ¬ 0 < a0 → W p l e R s m args below meth c H locs cells slots Q (F0 m (pc + 3) ls rest)) : W p l e R s m args below meth c H locs cells slots Q (F0 m pc ls (.int (nI a0) :: rest)) :=
  lv_if_gt hx hb hdg ht (fun q => kt ((nI_ltI (a := 0) (by decide) ha).mp q)) (fun q => kf (fun z => q ((nI_ltI (a := 0) (by decide) ha).mpr z)))
theorem lv_if_leN (hx : p.tables.exec = Jvm.exec) (hb : c.code = cc) {a0 : Nat} (ha : a0 < 2 ^ 31) {off : Int} {tgt : Nat} (hdg : decode cc pc = .ok (.ifCond .le off, 3)) (ht : (pc : Int) + off = (tgt : Int))
    (kt : a0 ≤ 0 → W p l e R s m args below meth c H locs cells slots Q (F0 m tgt ls rest)) (kf : ¬ a0 ≤ 0 → W p l e R s m args below meth c H locs cells slots Q (F0 m (pc + 3) ls rest)) : W p l e R s m args below meth c H locs cells slots Q (F0 m pc ls (.int (nI a0) :: rest)) :=
  lv_if_le hx hb hdg ht (fun q => kt ((nI_leI (b := 0) ha (by decide)).mp q)) (fun q => kf (fun z => q ((nI_leI (b := 0) ha (by decide)).mpr z)))
theorem lv_if_ltN (hx : p.tables.exec = Jvm.exec) (hb : c.code = cc) {a0 : Nat} (ha : a0 < 2 ^ 31) {off : Int} {tgt : Nat} (hdg : decode cc pc = .ok (.ifCond .lt off, 3)) (ht : (pc : Int) + off = (tgt : Int))
    (kt : a0 < 0 → W p l e R s m args below meth c H locs cells slots Q (F0 m tgt ls rest)) (kf : ¬ a0 < 0 → W p l e R s m args below meth c H locs cells slots Q (F0 m (pc + 3) ls rest)) : W p l e R s m args below meth c H locs cells slots Q (F0 m pc ls (.int (nI a0) :: rest)) :=
  lv_if_lt hx hb hdg ht (fun q => kt ((nI_ltI (b := 0) ha (by decide)).mp q)) (fun q => kf (fun z => q ((nI_ltI (b := 0) ha (by decide)).mpr z)))
theorem lv_if_geN (hx : p.tables.exec = Jvm.exec) (hb : c.code = cc) {a0 : Nat} (ha : a0 < 2 ^ 31) {off : Int} {tgt : Nat} (hdg : decode cc pc = .ok (.ifCond .ge off, 3)) (ht : (pc : Int) + off = (tgt : Int))
    (kt : 0 ≤ a0 → W p l e R s m args below meth c H locs cells slots Q (F0 m tgt ls rest)) (kf : ¬ 0 ≤ a0 → W p l e R s m args below meth c H locs cells slots Q (F0 m (pc + 3) ls rest)) : W p l e R s m args below meth c H locs cells slots Q (F0 m pc ls (.int (nI a0) :: rest)) :=
  lv_if_ge hx hb hdg ht (fun q => kt ((nI_leI (a := 0) (by decide) ha).mp q)) (fun q => kf (fun z => q ((nI_leI (a := 0) (by decide) ha).mpr z)))
end LIB4
theorem sh_am : ∀ k, k < 31 → ((nI k &&& 31).toBitVec.smod 32).toNat = k := by decide +kernel
/-- the bit k of a set -/
theorem sh_bit {S k : Nat} (hS : S < 2 ^ 31) (hk : k < 31) : (nI S >>> (nI k &&& 31)) &&& 1 = nI (if S.testBit k then 1 else 0) := by
  have h1 : nI S >>> (nI k &&& 31) = nI (S / 2 ^ k) := pk_shrN hS _ k (sh_am k hk)
  rw [h1, pk_andN (k := 1) (Nat.lt_of_le_of_lt (Nat.div_le_self _ _) (by omega)) (by decide)]
  congr 1
  rw [Nat.testBit, Nat.shiftRight_eq_div_pow]
  rcases Nat.mod_two_eq_zero_or_one (S / 2 ^ k) with h | h <;> simp [h, Nat.and_comm, Nat.and_one_is_mod]

/-! ===== pure: the calls ===== -/
def cpA (i : Nat) (f g : Nat → Int32) : Nat → Int32 := fun j => if j < i then f j else g j
def cpN (i : Nat) (K N : NS) : NS := fun j => if j < i then K j else N j
def hsh (i : Nat) (h : Nat → Int32) : Nat → Int32 := fun j => if j < i then h (j + 390) else h j
def hcp (b i : Nat) (N : NS) (h : Nat → Int32) : Nat → Int32 := fun j => if b ≤ j ∧ j < b + i then nI (N (j - b)) else h j
theorem cpA_0 {f g : Nat → Int32} : cpA 0 f g = g := by funext j; exact if_neg (Nat.not_lt_zero j)
theorem cpA_s {i : Nat} {N : NS} {g : Nat → Int32} : upd (cpA i (eN N) g) i (nI (N i)) = cpA (i + 1) (eN N) g := by
  funext j
  unfold upd cpA
  by_cases h : j = i
  · subst h; rw [if_pos rfl, if_pos (by omega)]; rfl
  · rw [if_neg h]
    by_cases h2 : j < i
    · rw [if_pos h2, if_pos (by omega)]
    · rw [if_neg h2, if_neg (by omega)]
theorem cpN_0 {K N : NS} : cpN 0 K N = N := by funext j; exact if_neg (Nat.not_lt_zero j)
theorem cpN_s {i : Nat} {K N : NS} : un (cpN i K N) i (K i) = cpN (i + 1) K N := by
  funext j
  unfold un cpN
  by_cases h : j = i
  · subst h; rw [if_pos rfl, if_pos (by omega)]
  · rw [if_neg h]
    by_cases h2 : j < i
    · rw [if_pos h2, if_pos (by omega)]
    · rw [if_neg h2, if_neg (by omega)]
theorem hsh_0 {h : Nat → Int32} : hsh 0 h = h := by funext j; exact if_neg (Nat.not_lt_zero j)
theorem hsh_s {i : Nat} {h : Nat → Int32} : upd (hsh i h) i (hsh i h (i + 390)) = hsh (i + 1) h := by
  funext j
  unfold upd hsh
  by_cases q : j = i
  · subst q; rw [if_pos rfl, if_neg (by omega), if_pos (by omega)]
  · rw [if_neg q]
    by_cases h2 : j < i
    · rw [if_pos h2, if_pos (by omega)]
    · rw [if_neg h2, if_neg (by omega)]
theorem hcp_0 {b : Nat} {N : NS} {h : Nat → Int32} : hcp b 0 N h = h := by funext j; exact if_neg (by omega)
theorem hcp_s {b i : Nat} {N : NS} {h : Nat → Int32} : upd (hcp b i N h) (b + i) (nI (N i)) = hcp b (i + 1) N h := by
  funext j
  unfold upd hcp
  by_cases q : j = b + i
  · subst q; rw [if_pos rfl, if_pos (by omega), show b + i - b = i by omega]
  · rw [if_neg q]
    by_cases h2 : b ≤ j ∧ j < b + i
    · rw [if_pos h2, if_pos (by omega)]
    · rw [if_neg h2, if_neg (by omega)]
theorem ax_ax {x : MX} {k : Nat} {f g : Nat → Int32} : ax (ax x k f) k g = ax x k g := by
  unfold ax
  congr 1
  funext j
  unfold va_up
  by_cases h : j = k
  · rw [if_pos h, if_pos h]
  · rw [if_neg h, if_neg h]; exact if_neg h
theorem ax_s {x : MX} {k : Nat} {f : Nat → Int32} : (ax x k f).2 k = f := va_up_self _ _ _
theorem ax_r {x : MX} {k : Nat} : ax x k (x.2 k) = x := by
  unfold ax
  refine Prod.ext rfl ?_
  funext j
  show va_up x.2 k (x.2 k) j = x.2 j
  unfold va_up
  by_cases h : j = k
  · rw [if_pos h, h]
  · rw [if_neg h]
theorem sx_sx {x : MX} {i : Nat} {u v : Int32} : sx (sx x i u) i v = sx x i v := by
  unfold sx upd
  congr 1
  funext j
  by_cases h : j = i
  · rw [if_pos h, if_pos h]
  · rw [if_neg h, if_neg h]; exact if_neg h
/-- the history behind one more state -/
def recH (u : Nat) (N : NS) (h : Nat → Int32) : Nat → Int32 := if u = 6 then hcp 1950 390 N (hsh 1950 h) else hcp (u * 390) 390 N h
def recX (u : Nat) (N : NS) (x : MX) : MX := sx (ax x 1 (recH u N (x.2 1))) 0 (nI (if u = 6 then 6 else u + 1))
def rcd (u : Nat) (N : NS) (x : MX) : MX := if x.1 2 = 0 then recX u N x else x
def mLose (p : Nat) (N : NS) : NS := un (mDrop p N) 8 (mDrop p N 8 + 1)
def mTw (p : Nat) (N : NS) (i : Nat) : NS := fun j => if 150 + 4 * N 6 ≤ j ∧ j < 150 + 4 * N 6 + i then N (150 + 4 * p + (j - (150 + 4 * N 6))) else N j
def mTwi (p : Nat) (N : NS) : NS := un (mTw p N 4) 6 (N 6 + 1)
theorem mTw_0 {p : Nat} {N : NS} : mTw p N 0 = N := by funext j; exact if_neg (by omega)
theorem mTw_n {p i j : Nat} {N : NS} (h : j < 150 + 4 * N 6) : mTw p N i j = N j := if_neg (by omega)
theorem mTw_s {p i : Nat} {N : NS} : un (mTw p N i) (150 + 4 * N 6 + i) (N (150 + 4 * p + i)) = mTw p N (i + 1) := by
  funext j
  unfold un mTw
  by_cases q : j = 150 + 4 * N 6 + i
  · subst q; rw [if_pos rfl, if_pos (by omega), show 150 + 4 * N 6 + i - (150 + 4 * N 6) = i by omega]
  · rw [if_neg q]
    by_cases h2 : 150 + 4 * N 6 ≤ j ∧ j < 150 + 4 * N 6 + i
    · rw [if_pos h2, if_pos (by omega)]
    · rw [if_neg h2, if_neg (by omega)]
def illI (N : NS) : Nat → Nat
  | 0 => 0
  | w + 1 => illI N w + N (10 + w)
def illN (N : NS) : Nat := illI N 5
def mFgt (w d : Nat) (N : NS) : NS :=
  if w = 4 then un (un N (30 + 14 * d + 5) (if N (30 + 14 * d + 1) = 1 then 0 else N (30 + 14 * d + 5))) (30 + 14 * d + 1) (if N (30 + 14 * d + 1) = 0 then 2 else N (30 + 14 * d + 1))
  else if N (30 + 14 * d + (6 + w)) = 0 then un N (30 + 14 * d + (6 + w)) (if (N (30 + 14 * d + 0)).testBit w = true then 3 else 0) else N
def fgs (w : Nat) : Nat → NS → NS
  | 0, N => N
  | d + 1, N => mFgt w d (fgs w d N)
def mOpen (S : Nat) (N : NS) : NS := sa 0 (N 5) 4 S 4 (un (un (un N 5 (N 5 + 1)) (30 + 14 * N 5 + 0) S) (30 + 14 * N 5 + 2) (N 4))
def mFall (w : Nat) (N : NS) : NS := fgs w (N 5) (un N (10 + w) 1)
def mRise (w : Nat) (N : NS) : NS := un N (10 + w) 0
def mTicks : Nat → NS → NS
  | 0, N => N
  | t + 1, N => mPass (mTicks t N)
-- answers and states of the calls, for arguments in their ranges
def rOpen (N : NS) : Int32 := if N 5 = 8 then -4 else if N 14 = 1 then -5 else nI (N 5)
def nOpen (S : Nat) (N : NS) : NS := if N 5 = 8 ∨ N 14 = 1 then N else mOpen S N
def rDel (p : Nat) (N : NS) : Int32 := if p < N 6 then nI (mDlv p N 6) else -1
def nDel (p : Nat) (N : NS) : NS := if p < N 6 then mDlv p N else N
def rLos (p : Nat) (N : NS) : Int32 := if p < N 6 then nI (N 6 - 1) else -1
def nLos (p : Nat) (N : NS) : NS := if p < N 6 then mLose p N else N
def rTwi (p : Nat) (N : NS) : Int32 := if p < N 6 then (if N 6 = 60 then -4 else nI (N 6 + 1)) else -1
def nTwi (p : Nat) (N : NS) : NS := if p < N 6 ∧ ¬ N 6 = 60 then mTwi p N else N
def rFal (w : Nat) (N : NS) : Int32 := if N (10 + w) = 1 then -5 else nI (illN (mFall w N))
def nFal (w : Nat) (N : NS) : NS := if N (10 + w) = 1 then N else mFall w N
def rRis (w : Nat) (N : NS) : Int32 := if N (10 + w) = 1 then nI (illN (mRise w N)) else -5
def nRis (w : Nat) (N : NS) : NS := if N (10 + w) = 1 then mRise w N else N
-- counts
def utI (w : Nat) (N : NS) : Nat → Nat
  | 0 => 0
  | p + 1 => utI w N p + (if N (150 + 4 * p + 3) = w then 1 else 0)
def dwI (q : Nat) (N : NS) : Nat → Nat
  | 0 => 0
  | d + 1 => dwI q N d + (if (q = 1 ∨ ¬ cOf d 2 N = 0) ∧ (q = 0 ∨ ¬ cOf d 3 N = 0) then 1 else 0)
def elK (d k : Nat) (N : NS) : Nat → Prop
  | 0 => ¬ N 14 = 1 ∧ ¬ N (30 + 14 * d + 1) = 0
  | c + 1 => elK d k N c ∨ (N 3 = 1 ∧ ¬ c = k ∧ (N (30 + 14 * d + 0)).testBit c = true ∧ ¬ N (10 + c) = 1 ∧ ¬ N (30 + 14 * d + (6 + c)) = 1)
def caK (d k : Nat) (N : NS) : Prop := elK d k N 4 ∧ ¬ N (10 + k) = 1 ∧ (N (30 + 14 * d + 0)).testBit k = true ∧ N (30 + 14 * d + (6 + k)) = 1
theorem FI.lose {N : NS} (h : FI N) {p : Nat} : FI (mLose p N) := h.drp.uc (by omega)
theorem FI.twi {N : NS} (h : FI N) {p : Nat} (hn : ¬ N 6 = 60) : FI (mTwi p N) := by
  unfold mTwi
  refine FI.u6 (h.congr ?_ (fun j _ hj => mTw_n (by omega))) (by have := h.1; omega)
  rw [mTw_n (by omega)]; exact h.1
theorem FI.fgt {N : NS} (h : FI N) {w d : Nat} (hw : w < 5) (hd : d < 8) : FI (mFgt w d N) := by
  have g5 := h.f5 hd
  have g1 := h.f1 hd
  unfold mFgt
  split
  · refine (h.ud hd (by decide) (fun _ _ _ => ?_)).ud hd (by decide) (fun _ _ _ => ?_)
    · show _ ≤ 15; split <;> omega
    · show _ ≤ 3; split <;> omega
  · split
    · refine h.ud hd (by omega) (fun _ _ _ => ?_)
      have q : (if 6 + w = 1 ∨ 6 ≤ 6 + w then 3 else 15) = 3 := if_pos (by omega)
      rw [q]; split <;> decide
    · exact h
theorem FI.fgs {N : NS} (h : FI N) {w : Nat} (hw : w < 5) : ∀ d, d ≤ 8 → FI (fgs w d N)
  | 0, _ => h
  | d + 1, hd => (FI.fgs h hw d (by omega)).fgt hw (by omega)
theorem FI.fall {N : NS} (h : FI N) {w : Nat} (hw : w < 5) : FI (mFall w N) := (h.uw (by omega) (by decide)).fgs hw _ h.2.1
theorem FI.rise {N : NS} (h : FI N) {w : Nat} (hw : w < 5) : FI (mRise w N) := h.uw (by omega) (by decide)
theorem FI.opn {N : NS} (h : FI N) {S : Nat} (hS : S < 16) (h5 : ¬ N 5 = 8) : FI (mOpen S N) := by
  have h8 := h.2.1
  unfold mOpen
  exact (((h.u5 (by omega)).ud (by omega) (by decide) (fun _ _ _ => by rw [if_neg (by decide)]; omega)).ud (by omega) (by decide) (fun _ q => absurd rfl q)).sal (by decide) 4
theorem FI.ticks {N : NS} (h : FI N) : ∀ t, FI (mTicks t N)
  | 0 => h
  | t + 1 => (FI.ticks h t).pss
theorem mFgt_n {w d j : Nat} {N : NS} (hj : j < 30 ∨ 150 ≤ j) (hd : d < 8) (hw : w < 5) : mFgt w d N j = N j := by
  unfold mFgt
  split
  · rw [un_n (by omega), un_n (by omega)]
  · split
    · rw [un_n (by omega)]
    · rfl
theorem fgs_n {w j : Nat} {N : NS} (hw : w < 5) (hj : j < 30 ∨ 150 ≤ j) : ∀ d, d ≤ 8 → fgs w d N j = N j
  | 0, _ => rfl
  | d + 1, hd => by rw [fgs, mFgt_n hj (by omega) hw]; exact fgs_n hw hj d (by omega)
theorem arrV_congr {cI : ClassId} {n : Nat} {f g : Nat → Value} (e : ∀ j, j < n → f j = g j) : arrV cI n f = arrV cI n g := by
  unfold arrV
  have h : (fun j : Fin n => f j.val) = (fun j : Fin n => g j.val) := funext fun j => e j.val j.isLt
  rw [h]
theorem vpc_congr {cA : ClassId} {n : Nat} {f g : Nat → Int32} (e : ∀ j, j < n → f j = g j) : vp_cell cA (n, .inl f) = vp_cell cA (n, .inl g) := by
  rw [vp_cell_i, vp_cell_i]
  exact arrV_congr (fun j hj => by rw [e j hj])
set_option maxRecDepth 100000 in
theorem HB.mcongr {G : GP} {A : Nat → Prop} {H0 : Heap} {a : Nat → Nat} {N M : NS} {x : MX} {H : Heap} {locs : List Loc} (h : HB G A H0 (mN G a N x) H locs) (e : ∀ j, j < 390 → N j = M j) : HB G A H0 (mN G a M x) H locs := by
  have hc : vp_cell (G.2 0) (390, .inl (eN N)) = vp_cell (G.2 0) (390, .inl (eN M)) := vpc_congr (fun j hj => by unfold eN; rw [e j hj])
  obtain ⟨h1, h2, h3⟩ := h
  refine ⟨fun k q hk => ?_, ⟨fun i j p q hi hj hpq => ?_, fun k q hk => ?_⟩, h3⟩
  · match k, hk with
    | 0, hk => exact h1 0 q hk
    | 1, hk => cases hk; show H[a 1]? = some _; rw [← hc]; exact h1 1 _ rfl
    | k + 2, hk => exact h1 (k + 2) q hk
  · have key : ∀ (k : Nat) (q : Nat × va_E), (mN G a M x)[k]? = some q → ∃ q', (mN G a N x)[k]? = some q' ∧ q'.1 = q.1 := by
      intro k q hk
      match k, hk with
      | 0, hk => exact ⟨q, hk, rfl⟩
      | 1, hk => cases hk; exact ⟨_, rfl, rfl⟩
      | k + 2, hk => exact ⟨q, hk, rfl⟩
    obtain ⟨p', g1, g2⟩ := key i p hi
    obtain ⟨q', g3, g4⟩ := key j q hj
    exact h2.1 i j p' q' g1 g3 (by rw [g2, g4, hpq])
  · match k, hk with
    | 0, hk => exact h2.2 0 q hk
    | 1, hk => cases hk; exact h2.2 1 (a 1, .inl (G.2 0, 390, .inl (eN N))) rfl
    | k + 2, hk => exact h2.2 (k + 2) q hk

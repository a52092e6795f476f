/-! ===== pure: what the calls do to the row of numbers N (0..3 settings, 4 tick, 5 deals, 6 messages, 7 delivered, 8 lost, 10.. ill, 15.. willing, 20.. came, 25.. sent, 30+14d.. the deals, 150+4p.. the messages) ===== -/
def mSend (k d f t : Nat) (N : NS) : NS :=
  if N 6 = 60 then un (un N (25 + f) (N (25 + f) + 1)) 8 (N 8 + 1)
  else un (un (un (un (un (un N (25 + f) (N (25 + f) + 1)) (150 + 4 * N 6) k) (150 + 4 * N 6 + 1) d) (150 + 4 * N 6 + 2) f) (150 + 4 * N 6 + 3) t) 6 (N 6 + 1)
def sa (k d f S : Nat) : Nat → NS → NS
  | 0, N => N
  | c + 1, N => if S.testBit c = true then mSend k d f c (sa k d f S c N) else sa k d f S c N
def mDropTo (p : Nat) (N : NS) (q : Nat) : NS := fun j => if j = 6 then N 6 - 1 else if 150 + 4 * p ≤ j ∧ j < q then N (j + 4) else N j
def mDrop (p : Nat) (N : NS) : NS := mDropTo p N (150 + 4 * (N 6 - 1))
def mAns (d c : Nat) (N : NS) : NS := if N (30 + 14 * d + 1) = 1 ∨ N (30 + 14 * d + 1) = 3 then mSend 3 d 4 c N else if N (30 + 14 * d + 1) = 2 then mSend 4 d 4 c N else N
def mTear (d S : Nat) (N : NS) : NS := sa 4 d 4 S 4 (un N (30 + 14 * d + 1) 2)
def mYes (d c : Nat) (N : NS) : NS :=
  if N (30 + 14 * d + 1) = 0 then
    if N (30 + 14 * d + 4) ||| 2 ^ c = N (30 + 14 * d + 0) then sa 3 d 4 (N (30 + 14 * d + 0)) 4 (un (un (un N (30 + 14 * d + 4) (N (30 + 14 * d + 4) ||| 2 ^ c)) (30 + 14 * d + 1) 1) (30 + 14 * d + 3) (N 4))
    else un N (30 + 14 * d + 4) (N (30 + 14 * d + 4) ||| 2 ^ c)
  else mAns d c N
def mNo (d c : Nat) (N : NS) : NS := if N (30 + 14 * d + 1) = 0 then mTear d (N (30 + 14 * d + 0) &&& (15 ^^^ 2 ^ c)) N else N
def mGot (d c : Nat) (N : NS) : NS :=
  if N (30 + 14 * d + 1) = 1 then un (un N (30 + 14 * d + 5) (N (30 + 14 * d + 5) ||| 2 ^ c)) (30 + 14 * d + 1) (if N (30 + 14 * d + 5) ||| 2 ^ c = N (30 + 14 * d + 0) then 3 else 1) else N
def mGet (k d c : Nat) (N : NS) : NS := if k = 1 then mYes d c N else if k = 2 then mNo d c N else if k = 5 then mGot d c N else mAns d c N
def mAsk (d c : Nat) (N : NS) : NS :=
  if N (30 + 14 * d + (6 + c)) = 0 then
    if N (15 + c) = 1 then mSend 1 d c 4 (un (un N (30 + 14 * d + (10 + c)) (N 4)) (30 + 14 * d + (6 + c)) 1)
    else mSend 2 d c 4 (un N (30 + 14 * d + (6 + c)) 3)
  else if N (30 + 14 * d + (6 + c)) = 2 then N
  else if N (30 + 14 * d + (6 + c)) = 1 then mSend 1 d c 4 N else mSend 2 d c 4 N
def mPosts (d c : Nat) (N : NS) : NS :=
  if N (30 + 14 * d + (6 + c)) = 1 then mSend 5 d c 4 (un N (30 + 14 * d + (6 + c)) 2) else if N (30 + 14 * d + (6 + c)) = 2 then mSend 5 d c 4 N else N
def mTears (d c : Nat) (N : NS) : NS := if N (30 + 14 * d + (6 + c)) = 0 ∨ N (30 + 14 * d + (6 + c)) = 1 then un N (30 + 14 * d + (6 + c)) 3 else N
def mWhatC (d c f : Nat) (N : NS) : NS :=
  if N (30 + 14 * d + (6 + c)) = 0 then mSend 4 d c f (un N (30 + 14 * d + (6 + c)) 3)
  else if N (30 + 14 * d + (6 + c)) = 2 then mSend 3 d c f N else if N (30 + 14 * d + (6 + c)) = 3 then mSend 4 d c f N else N
def mGetBy (c k d f : Nat) (N : NS) : NS := if k = 0 then mAsk d c N else if k = 3 then mPosts d c N else if k = 4 then mTears d c N else mWhatC d c f N
def mTo (t : Nat) (N : NS) : NS := un (un N 7 (N 7 + 1)) (20 + t) (N (20 + t) + 1)
def mDlv (p : Nat) (N : NS) : NS :=
  if N (10 + N (150 + 4 * p + 3)) = 1 then un (mDrop p N) 8 (N 8 + 1)
  else if N (150 + 4 * p + 3) = 4 then mGet (N (150 + 4 * p)) (N (150 + 4 * p + 1)) (N (150 + 4 * p + 2)) (mTo (N (150 + 4 * p + 3)) (mDrop p N))
  else mGetBy (N (150 + 4 * p + 3)) (N (150 + 4 * p)) (N (150 + 4 * p + 1)) (N (150 + 4 * p + 2)) (mTo (N (150 + 4 * p + 3)) (mDrop p N))
abbrev isTm (s e : Int32) : Prop := ¬ s ≤ 0 ∧ s - s / e * e = 0

def mPassB (d : Nat) (N : NS) : NS :=
  if N (30 + 14 * d + 1) = 0 ∧ ¬ nI (N 4) - nI (N (30 + 14 * d + 2)) < nI (N 0) then mTear d (N (30 + 14 * d + 0)) N
  else if N (30 + 14 * d + 1) = 1 ∧ isTm (nI (N 4) - nI (N (30 + 14 * d + 3))) (nI (N 2)) then sa 3 d 4 (N (30 + 14 * d + 0) &&& (15 ^^^ N (30 + 14 * d + 5))) 4 N else N
def mPassC (c d : Nat) (N : NS) : NS :=
  if (N (30 + 14 * d + 0)).testBit c = true ∧ N (30 + 14 * d + (6 + c)) = 1 ∧ isTm (nI (N 4) - nI (N (30 + 14 * d + (10 + c)))) (nI (N 1))
  then sa 6 d c (if N 3 = 1 then N (30 + 14 * d + 0) &&& (15 ^^^ 2 ^ c) else 0) 4 (mSend 6 d c 4 N) else N
def pbs : Nat → NS → NS
  | 0, N => N
  | d + 1, N => mPassB d (pbs d N)
def pcs (c : Nat) : Nat → NS → NS
  | 0, N => N
  | d + 1, N => mPassC c d (pcs c d N)
def pcl : Nat → NS → NS
  | 0, N => N
  | c + 1, N => if (pcl c N) (10 + c) = 1 then pcl c N else pcs c (N 5) (pcl c N)
def mPass (N : NS) : NS := un (pcl 4 (if N 14 = 1 then N else pbs (N 5) N)) 4 (N 4 + 1)
def dl0s : Nat → NS → NS
  | 0, N => N
  | k + 1, N => mDlv 0 (dl0s k N)
def mRound (N : NS) : NS := mPass (dl0s (N 6) N)
def cOfI (d s : Nat) (N : NS) : Nat → Nat
  | 0 => 0
  | c + 1 => cOfI d s N c ||| (if (N (30 + 14 * d + 0)).testBit c = true ∧ N (30 + 14 * d + (6 + c)) = s then 2 ^ c else 0)
def cOf (d s : Nat) (N : NS) : Nat := cOfI d s N 4
def stl (d : Nat) (N : NS) : Prop := cOf d 2 N ||| cOf d 3 N = N (30 + 14 * d + 0)
def rTo (d : Nat) : Nat → NS → Nat
  | 0, _ => 0
  | k + 1, N => if cOf d 2 N ||| cOf d 3 N = N (30 + 14 * d + 0) then 0 else rTo d k (mRound N) + 1
def rToN (d : Nat) : Nat → NS → NS
  | 0, N => N
  | k + 1, N => if cOf d 2 N ||| cOf d 3 N = N (30 + 14 * d + 0) then N else rToN d k (mRound N)
-- reading
theorem mSend_n {k d f t j : Nat} {N : NS} (hf : f < 5) (h6 : N 6 ≤ 60) (h1 : j ≠ 6) (h2 : j ≠ 8) (h3 : j < 25 ∨ (30 ≤ j ∧ j < 150)) : mSend k d f t N j = N j := by
  unfold mSend
  split
  · rw [un_n h2, un_n (by omega)]
  · rw [un_n h1, un_n (by omega), un_n (by omega), un_n (by omega), un_n (by omega), un_n (by omega)]
theorem mSend_6 {k d f t : Nat} {N : NS} (hf : f < 5) (h6 : N 6 ≤ 60) : mSend k d f t N 6 ≤ 60 := by
  unfold mSend
  split
  · rw [un_n (by omega), un_n (by omega)]; exact h6
  · rw [un_s]; omega
theorem mSend_6ge {k d f t : Nat} {N : NS} (hf : f < 5) : N 6 ≤ mSend k d f t N 6 := by
  unfold mSend
  split
  · rw [un_n (by omega), un_n (by omega)]; exact Nat.le_refl _
  · rw [un_s]; omega
theorem sa_6 {k d f S : Nat} {N : NS} (hf : f < 5) (h6 : N 6 ≤ 60) : ∀ c, sa k d f S c N 6 ≤ 60
  | 0 => h6
  | c + 1 => by
    rw [sa]
    split
    · exact mSend_6 hf (sa_6 hf h6 c)
    · exact sa_6 hf h6 c
theorem sa_6ge {k d f S : Nat} {N : NS} (hf : f < 5) : ∀ c, N 6 ≤ sa k d f S c N 6
  | 0 => Nat.le_refl _
  | c + 1 => by
    rw [sa]
    split
    · exact Nat.le_trans (sa_6ge hf c) (mSend_6ge hf)
    · exact sa_6ge hf c
theorem sa_n {k d f S j : Nat} {N : NS} (hf : f < 5) (h6 : N 6 ≤ 60) (h1 : j ≠ 6) (h2 : j ≠ 8) (h3 : j < 25 ∨ (30 ≤ j ∧ j < 150)) : ∀ c, sa k d f S c N j = N j
  | 0 => rfl
  | c + 1 => by
    rw [sa]
    split
    · rw [mSend_n hf (sa_6 hf h6 c) h1 h2 h3]; exact sa_n hf h6 h1 h2 h3 c
    · exact sa_n hf h6 h1 h2 h3 c
theorem mDrop_n {p j : Nat} {N : NS} (h1 : j ≠ 6) (h2 : j < 150) : mDrop p N j = N j := by
  unfold mDrop mDropTo
  rw [if_neg h1, if_neg (by omega)]
theorem mDrop_6 {p : Nat} {N : NS} : mDrop p N 6 = N 6 - 1 := by
  unfold mDrop mDropTo
  rw [if_pos rfl]
theorem mDropTo_6 {p q : Nat} {N : NS} : mDropTo p N q 6 = N 6 - 1 := by
  unfold mDropTo
  rw [if_pos rfl]
theorem mDropTo_hi {p q j : Nat} {N : NS} (h : q ≤ j) (h6 : j ≠ 6) : mDropTo p N q j = N j := by
  unfold mDropTo
  rw [if_neg h6, if_neg (by omega)]
theorem mDropTo_0 {p : Nat} {N : NS} : un N 6 (N 6 - 1) = mDropTo p N (150 + 4 * p) := by
  funext j
  unfold un mDropTo
  by_cases h : j = 6
  · rw [if_pos h, if_pos h]
  · rw [if_neg h, if_neg h, if_neg (by omega)]
theorem mDropTo_s {p q : Nat} {N : NS} (h : 150 + 4 * p ≤ q) : un (mDropTo p N q) q (N (q + 4)) = mDropTo p N (q + 1) := by
  funext j
  unfold un mDropTo
  by_cases h1 : j = q
  · subst h1; rw [if_pos rfl, if_neg (by omega), if_pos ⟨h, by omega⟩]
  · rw [if_neg h1]
    by_cases h6 : j = 6
    · rw [if_pos h6, if_pos h6]
    · rw [if_neg h6, if_neg h6]
      by_cases h2 : 150 + 4 * p ≤ j ∧ j < q
      · rw [if_pos h2, if_pos ⟨h2.1, by omega⟩]
      · rw [if_neg h2, if_neg (by omega)]
-- sets
theorem shl_1 : ∀ c, c < 31 → nI 1 <<< (nI c &&& 31) = nI (2 ^ c) := by decide +kernel
theorem or_nI (a b : Nat) : nI a ||| nI b = nI (a ||| b) := by
  apply Int32.toBitVec_inj.1
  show BitVec.ofNat 32 a ||| BitVec.ofNat 32 b = BitVec.ofNat 32 (a ||| b)
  apply BitVec.eq_of_getLsbD_eq
  intro i hi
  simp [hi]
theorem andn_nI : ∀ S, S < 16 → ∀ T, T < 16 → nI S &&& (nI T ^^^ (-1)) = nI (S &&& (15 ^^^ T)) := by decide +kernel
theorem or_lt16 : ∀ S, S < 16 → ∀ c, c < 4 → S ||| 2 ^ c < 16 := by decide +kernel
theorem and_lt16 {S T : Nat} (h : S < 16) : S &&& T < 16 := Nat.lt_of_le_of_lt Nat.and_le_left h
theorem pow_lt16 : ∀ c, c < 4 → 2 ^ c < 16 := by decide +kernel
theorem cOfI_lt {d s : Nat} {N : NS} : ∀ c, c ≤ 4 → cOfI d s N c < 16
  | 0, _ => Nat.succ_pos 15
  | c + 1, h => by
    rw [cOfI]
    have h1 := cOfI_lt (d := d) (s := s) (N := N) c (by omega)
    split
    · exact or_lt16 _ h1 c (by omega)
    · rw [Nat.or_zero]; exact h1

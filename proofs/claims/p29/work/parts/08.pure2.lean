/-! ===== pure: the bounds that all calls keep ===== -/
def FI (N : NS) : Prop := N 6 ≤ 60 ∧ N 5 ≤ 8 ∧ (∀ i, i < 3 → 1 ≤ N i ∧ N i ≤ 50) ∧ N 3 ≤ 1 ∧ (∀ j, 10 ≤ j → j < 19 → N j ≤ 1) ∧ (∀ d k, d < 8 → k < 10 → k ≠ 2 → k ≠ 3 → N (30 + 14 * d + k) ≤ (if k = 1 ∨ 6 ≤ k then 3 else 15))
theorem FI.f0 {N : NS} (h : FI N) {d : Nat} (hd : d < 8) : N (30 + 14 * d + 0) < 16 := Nat.lt_succ_of_le (h.2.2.2.2.2 d 0 hd (by decide) (by decide) (by decide))
theorem FI.f1 {N : NS} (h : FI N) {d : Nat} (hd : d < 8) : N (30 + 14 * d + 1) < 4 := Nat.lt_succ_of_le (h.2.2.2.2.2 d 1 hd (by decide) (by decide) (by decide))
theorem FI.f4 {N : NS} (h : FI N) {d : Nat} (hd : d < 8) : N (30 + 14 * d + 4) < 16 := Nat.lt_succ_of_le (h.2.2.2.2.2 d 4 hd (by decide) (by decide) (by decide))
theorem FI.f5 {N : NS} (h : FI N) {d : Nat} (hd : d < 8) : N (30 + 14 * d + 5) < 16 := Nat.lt_succ_of_le (h.2.2.2.2.2 d 5 hd (by decide) (by decide) (by decide))
theorem FI.f6 {N : NS} (h : FI N) {d c : Nat} (hd : d < 8) (hc : c < 4) : N (30 + 14 * d + (6 + c)) < 4 := by
  have := h.2.2.2.2.2 d (6 + c) hd (by omega) (by omega) (by omega)
  rw [if_pos (by omega)] at this
  omega
theorem FI.il {N : NS} (h : FI N) {w : Nat} (hw : w < 5) : N (10 + w) ≤ 1 := h.2.2.2.2.1 _ (by omega) (by omega)
theorem FI.wl {N : NS} (h : FI N) {w : Nat} (hw : w < 4) : N (15 + w) ≤ 1 := h.2.2.2.2.1 _ (by omega) (by omega)
theorem FI.uc {N : NS} (h : FI N) {j v : Nat} (hj : j = 4 ∨ j = 7 ∨ j = 8 ∨ (20 ≤ j ∧ j < 30) ∨ 142 ≤ j) : FI (un N j v) := by
  obtain ⟨h1, h2, h3, h4, h5, h6⟩ := h
  refine ⟨?_, ?_, fun i hi => ?_, ?_, fun i hi hi2 => ?_, fun d k hd hk k2 k3 => ?_⟩
  · rw [un_n (by omega)]; exact h1
  · rw [un_n (by omega)]; exact h2
  · rw [un_n (by omega)]; exact h3 i hi
  · rw [un_n (by omega)]; exact h4
  · rw [un_n (by omega)]; exact h5 i hi hi2
  · rw [un_n (by omega)]; exact h6 d k hd hk k2 k3
theorem FI.u6 {N : NS} (h : FI N) {v : Nat} (hv : v ≤ 60) : FI (un N 6 v) := by
  obtain ⟨h1, h2, h3, h4, h5, h6⟩ := h
  refine ⟨?_, ?_, fun i hi => ?_, ?_, fun i hi hi2 => ?_, fun d k hd hk k2 k3 => ?_⟩
  · rw [un_s]; exact hv
  · rw [un_n (by omega)]; exact h2
  · rw [un_n (by omega)]; exact h3 i hi
  · rw [un_n (by omega)]; exact h4
  · rw [un_n (by omega)]; exact h5 i hi hi2
  · rw [un_n (by omega)]; exact h6 d k hd hk k2 k3
theorem FI.u5 {N : NS} (h : FI N) {v : Nat} (hv : v ≤ 8) : FI (un N 5 v) := by
  obtain ⟨h1, h2, h3, h4, h5, h6⟩ := h
  refine ⟨?_, ?_, fun i hi => ?_, ?_, fun i hi hi2 => ?_, fun d k hd hk k2 k3 => ?_⟩
  · rw [un_n (by omega)]; exact h1
  · rw [un_s]; exact hv
  · rw [un_n (by omega)]; exact h3 i hi
  · rw [un_n (by omega)]; exact h4
  · rw [un_n (by omega)]; exact h5 i hi hi2
  · rw [un_n (by omega)]; exact h6 d k hd hk k2 k3
theorem FI.uw {N : NS} (h : FI N) {j v : Nat} (hj : 10 ≤ j ∧ j < 20) (hv : v ≤ 1) : FI (un N j v) := by
  obtain ⟨h1, h2, h3, h4, h5, h6⟩ := h
  refine ⟨?_, ?_, fun i hi => ?_, ?_, fun i hi hi2 => ?_, fun d k hd hk k2 k3 => ?_⟩
  · rw [un_n (by omega)]; exact h1
  · rw [un_n (by omega)]; exact h2
  · rw [un_n (by omega)]; exact h3 i hi
  · rw [un_n (by omega)]; exact h4
  · by_cases q : i = j
    · subst q; rw [un_s]; exact hv
    · rw [un_n q]; exact h5 i hi hi2
  · rw [un_n (by omega)]; exact h6 d k hd hk k2 k3
theorem FI.ud {N : NS} (h : FI N) {d0 k0 v : Nat} (hd0 : d0 < 8) (hk0 : k0 < 14) (hv : k0 < 10 → k0 ≠ 2 → k0 ≠ 3 → v ≤ (if k0 = 1 ∨ 6 ≤ k0 then 3 else 15)) : FI (un N (30 + 14 * d0 + k0) v) := by
  obtain ⟨h1, h2, h3, h4, h5, h6⟩ := h
  refine ⟨?_, ?_, fun i hi => ?_, ?_, fun i hi hi2 => ?_, fun d k hd hk k2 k3 => ?_⟩
  · rw [un_n (by omega)]; exact h1
  · rw [un_n (by omega)]; exact h2
  · rw [un_n (by omega)]; exact h3 i hi
  · rw [un_n (by omega)]; exact h4
  · rw [un_n (by omega)]; exact h5 i hi hi2
  · by_cases q : 30 + 14 * d + k = 30 + 14 * d0 + k0
    · obtain ⟨rfl, rfl⟩ : d = d0 ∧ k = k0 := by omega
      rw [un_s]; exact hv hk k2 k3
    · rw [un_n q]; exact h6 d k hd hk k2 k3
theorem FI.snd {N : NS} (h : FI N) {k d f t : Nat} (hf : f < 5) : FI (mSend k d f t N) := by
  unfold mSend
  split
  · exact (h.uc (by omega)).uc (by omega)
  · exact (((((h.uc (by omega)).uc (by omega)).uc (by omega)).uc (by omega)).uc (by omega)).u6 (by have := h.1; omega)
theorem FI.sal {N : NS} (h : FI N) {k d f S : Nat} (hf : f < 5) : ∀ c, FI (sa k d f S c N)
  | 0 => h
  | c + 1 => by
    rw [sa]
    split
    · exact (FI.sal h hf c).snd hf
    · exact FI.sal h hf c
theorem FI.congr {N M : NS} (h : FI N) (h6 : M 6 ≤ 60) (hj : ∀ j, j ≠ 6 → j < 142 → M j = N j) : FI M := by
  obtain ⟨h1, h2, h3, h4, h5, h7⟩ := h
  refine ⟨h6, ?_, fun i hi => ?_, ?_, fun i hi hi2 => ?_, fun d k hd hk k2 k3 => ?_⟩
  · rw [hj _ (by omega) (by omega)]; exact h2
  · rw [hj _ (by omega) (by omega)]; exact h3 i hi
  · rw [hj _ (by omega) (by omega)]; exact h4
  · rw [hj _ (by omega) (by omega)]; exact h5 i hi hi2
  · rw [hj _ (by omega) (by omega)]; exact h7 d k hd hk k2 k3
theorem FI.drp {N : NS} (h : FI N) {p : Nat} : FI (mDrop p N) := h.congr (by rw [mDrop_6]; have := h.1; omega) (fun j h1 h2 => mDrop_n h1 (by omega))
theorem FI.tto {N : NS} (h : FI N) {t : Nat} (ht : t < 5) : FI (mTo t N) := (h.uc (by omega)).uc (by omega)
theorem FI.anz {N : NS} (h : FI N) {d c : Nat} : FI (mAns d c N) := by
  unfold mAns
  split
  · exact h.snd (by decide)
  · split
    · exact h.snd (by decide)
    · exact h
theorem FI.ter {N : NS} (h : FI N) {d S : Nat} (hd : d < 8) : FI (mTear d S N) := (h.ud hd (by decide) (by decide)).sal (by decide) 4
theorem FI.gt {N : NS} (h : FI N) {k d c : Nat} (hd : d < 8) (hc : c < 4) : FI (mGet k d c N) := by
  have g4 := or_lt16 _ (h.f4 hd) c hc
  have g5 := or_lt16 _ (h.f5 hd) c hc
  unfold mGet mYes mNo mGot
  split
  · split
    · split
      · exact (((h.ud hd (by decide) (fun _ _ _ => by rw [if_neg (by decide)]; omega)).ud hd (by decide) (by decide)).ud hd (by decide) (fun _ _ q => absurd rfl q)).sal (by decide) 4
      · exact h.ud hd (by decide) (fun _ _ _ => by rw [if_neg (by decide)]; omega)
    · exact h.anz
  · split
    · split
      · exact h.ter hd
      · exact h
    · split
      · split
        · refine (h.ud hd (by decide) (fun _ _ _ => by rw [if_neg (by decide)]; omega)).ud hd (by decide) (fun _ _ _ => ?_)
          split <;> decide
        · exact h
      · exact h.anz
theorem FI.gtb {N : NS} (h : FI N) {c k d f : Nat} (hd : d < 8) (hc : c < 4) : FI (mGetBy c k d f N) := by
  have hst : ∀ v, v ≤ 3 → FI (un N (30 + 14 * d + (6 + c)) v) := fun v hv => h.ud hd (by omega) (fun _ _ _ => by rw [if_pos (by omega)]; exact hv)
  unfold mGetBy mAsk mPosts mTears mWhatC
  split
  · split
    · split
      · refine FI.snd (FI.ud (h.ud hd (by omega) (fun q => absurd q (by omega))) hd (by omega) (fun _ _ _ => by rw [if_pos (by omega)]; decide)) (by omega)
      · exact (hst 3 (by decide)).snd (by omega)
    · split
      · exact h
      · split
        · exact h.snd (by omega)
        · exact h.snd (by omega)
  · split
    · split
      · exact (hst 2 (by decide)).snd (by omega)
      · split
        · exact h.snd (by omega)
        · exact h
    · split
      · split
        · exact hst 3 (by decide)
        · exact h
      · split
        · exact (hst 3 (by decide)).snd (by omega)
        · split
          · exact h.snd (by omega)
          · split
            · exact h.snd (by omega)
            · exact h
theorem FI.pB {N : NS} (h : FI N) {d : Nat} (hd : d < 8) : FI (mPassB d N) := by
  unfold mPassB
  split
  · exact h.ter hd
  · split
    · exact h.sal (by decide) 4
    · exact h
theorem FI.pC {N : NS} (h : FI N) {c d : Nat} (hc : c < 4) : FI (mPassC c d N) := by
  unfold mPassC
  split
  · exact (h.snd (by omega)).sal (by omega) 4
  · exact h
theorem FI.pb8 {N : NS} (h : FI N) : ∀ d, d ≤ 8 → FI (pbs d N)
  | 0, _ => h
  | d + 1, hd => by rw [pbs]; exact (FI.pb8 h d (by omega)).pB (by omega)
theorem FI.pc8 {N : NS} (h : FI N) {c : Nat} (hc : c < 4) : ∀ d, FI (pcs c d N)
  | 0 => h
  | d + 1 => by rw [pcs]; exact (FI.pc8 h hc d).pC hc
theorem FI.pl4 {N : NS} (h : FI N) : ∀ c, c ≤ 4 → FI (pcl c N)
  | 0, _ => h
  | c + 1, hc => by
    rw [pcl]
    split
    · exact FI.pl4 h c (by omega)
    · exact (FI.pl4 h c (by omega)).pc8 (by omega) _
theorem FI.pss {N : NS} (h : FI N) : FI (mPass N) := by
  unfold mPass
  refine FI.uc (FI.pl4 ?_ 4 (by decide)) (by omega)
  split
  · exact h
  · exact h.pb8 _ h.2.1
-- what a tick leaves as it was
theorem mPassB_n {d j : Nat} {N : NS} (h : FI N) (hd : d < 8) (hj : j ≠ 6 ∧ j ≠ 8 ∧ j < 25) : mPassB d N j = N j := by
  unfold mPassB mTear
  split
  · rw [sa_n (by decide) (by rw [un_n (by omega)]; exact h.1) hj.1 hj.2.1 (Or.inl hj.2.2), un_n (by omega)]
  · split
    · rw [sa_n (by decide) h.1 hj.1 hj.2.1 (Or.inl hj.2.2)]
    · rfl
theorem mPassC_n {c d j : Nat} {N : NS} (h : FI N) (hc : c < 4) (hj : j ≠ 6 ∧ j ≠ 8 ∧ (j < 25 ∨ (30 ≤ j ∧ j < 150))) : mPassC c d N j = N j := by
  unfold mPassC
  split
  · rw [sa_n (by omega) (mSend_6 (by omega) h.1) hj.1 hj.2.1 hj.2.2, mSend_n (by omega) h.1 hj.1 hj.2.1 hj.2.2]
  · rfl
theorem pbs_n {j : Nat} {N : NS} (h : FI N) (hj : j ≠ 6 ∧ j ≠ 8 ∧ j < 25) : ∀ d, d ≤ 8 → pbs d N j = N j
  | 0, _ => rfl
  | d + 1, hd => by rw [pbs, mPassB_n (h.pb8 d (by omega)) (by omega) hj]; exact pbs_n h hj d (by omega)
theorem pcs_n {c j : Nat} {N : NS} (h : FI N) (hc : c < 4) (hj : j ≠ 6 ∧ j ≠ 8 ∧ (j < 25 ∨ (30 ≤ j ∧ j < 150))) : ∀ d, pcs c d N j = N j
  | 0 => rfl
  | d + 1 => by rw [pcs, mPassC_n (h.pc8 hc d) hc hj]; exact pcs_n h hc hj d
theorem pcl_n {j : Nat} {N : NS} (h : FI N) (hj : j ≠ 6 ∧ j ≠ 8 ∧ (j < 25 ∨ (30 ≤ j ∧ j < 150))) : ∀ c, c ≤ 4 → pcl c N j = N j
  | 0, _ => rfl
  | c + 1, hc => by
    rw [pcl]
    split
    · exact pcl_n h hj c (by omega)
    · rw [pcs_n (h.pl4 c (by omega)) (by omega) hj]; exact pcl_n h hj c (by omega)
theorem hF_p0 {N : NS} (h : FI N) : FI (if N 14 = 1 then N else pbs (N 5) N) := by
  split
  · exact h
  · exact h.pb8 _ h.2.1
theorem hF_p0n {N : NS} (h : FI N) {j : Nat} (hj : j ≠ 6 ∧ j ≠ 8 ∧ j < 25) : (if N 14 = 1 then N else pbs (N 5) N) j = N j := by
  split
  · rfl
  · exact pbs_n h hj _ h.2.1

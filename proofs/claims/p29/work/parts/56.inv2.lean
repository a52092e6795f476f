theorem Inv.us {N : NS} (h : Inv N) {k v : Nat} (hk : k < 4) (h3 : k = 3 → v ≤ 1) (hn : ¬ k = 3 → 1 ≤ v ∧ v ≤ 50) : Inv (un N k v) := by
  refine h.front ?_ (by rw [un_n (by omega)]; exact Nat.le_refl _) (by rw [un_n (by omega)]) (fun i hi => un_n (by omega)) (fun d k hd hk => un_n (by omega))
  obtain ⟨h1, h2, g3, h4, h5, h6⟩ := h.1
  refine ⟨?_, ?_, fun i hi => ?_, ?_, fun i hi hi2 => ?_, fun d k hd hk k2 k3 => ?_⟩
  · rw [un_n (by omega)]; exact h1
  · rw [un_n (by omega)]; exact h2
  · unfold un
    by_cases q : i = k
    · rw [if_pos q]; exact hn (by omega)
    · rw [if_neg q]; exact g3 i hi
  · unfold un
    by_cases q : 3 = k
    · rw [if_pos q]; exact h3 q.symm
    · rw [if_neg q]; exact h4
  · rw [un_n (by omega)]; exact h5 i hi hi2
  · rw [un_n (by omega)]; exact h6 d k hd hk k2 k3
/-- the tick and the counts of what came stay -/
def kp (N M : NS) : Prop := ∀ j, j = 4 ∨ j = 7 ∨ (20 ≤ j ∧ j < 25) → M j = N j
theorem kp.rf {N : NS} : kp N N := fun _ _ => rfl
theorem kp.tr {N M K : NS} (h : kp N M) (g : kp M K) : kp N K := fun j hj => (g j hj).trans (h j hj)
theorem kp.un {N M : NS} (h : kp N M) {k v : Nat} (hk : ¬ (k = 4 ∨ k = 7 ∨ (20 ≤ k ∧ k < 25))) : kp N (un M k v) := fun j hj => by
  rw [un_n (fun z => hk (by omega))]; exact h j hj
theorem kp.snd {N M : NS} (h : kp N M) {k d f t : Nat} : kp N (mSend k d f t M) := by
  unfold mSend
  split
  · exact (h.un (by omega)).un (by omega)
  · exact (((((h.un (by omega)).un (by omega)).un (by omega)).un (by omega)).un (by omega)).un (by omega)
theorem kp.sal {N M : NS} (h : kp N M) {k d f S : Nat} : ∀ c, kp N (sa k d f S c M)
  | 0 => h
  | c + 1 => by
    unfold sa
    split
    · exact (kp.sal h c).snd
    · exact kp.sal h c
theorem kp.drp {N M : NS} (h : kp N M) {p : Nat} : kp N (mDrop p M) := fun j hj => by
  rw [mDrop_n (by omega) (by omega)]; exact h j hj
theorem kp.ans {N M : NS} (h : kp N M) {d c : Nat} : kp N (mAns d c M) := by
  unfold mAns
  split
  · exact h.snd
  · split
    · exact h.snd
    · exact h
theorem kp.ter {N M : NS} (h : kp N M) {d S : Nat} : kp N (mTear d S M) := (h.un (by omega)).sal 4
theorem kp.gt {N M : NS} (h : kp N M) {k d c : Nat} : kp N (mGet k d c M) := by
  unfold mGet
  split
  · unfold mYes
    split
    · split
      · exact (((h.un (by omega)).un (by omega)).un (by omega)).sal 4
      · exact h.un (by omega)
    · exact h.ans
  split
  · unfold mNo
    split
    · exact h.ter
    · exact h
  split
  · unfold mGot
    split
    · exact (h.un (by omega)).un (by omega)
    · exact h
  · exact h.ans
theorem kp.gtb {N M : NS} (h : kp N M) {c k d f : Nat} : kp N (mGetBy c k d f M) := by
  unfold mGetBy
  split
  · unfold mAsk
    split
    · split
      · exact ((h.un (by omega)).un (by omega)).snd
      · exact (h.un (by omega)).snd
    split
    · exact h
    split
    · exact h.snd
    · exact h.snd
  split
  · unfold mPosts
    split
    · exact (h.un (by omega)).snd
    split
    · exact h.snd
    · exact h
  split
  · unfold mTears
    split
    · exact h.un (by omega)
    · exact h
  · unfold mWhatC
    split
    · exact (h.un (by omega)).snd
    split
    · exact h.snd
    split
    · exact h.snd
    · exact h
theorem kp.pB {N M : NS} (h : kp N M) {d : Nat} : kp N (mPassB d M) := by
  unfold mPassB
  split
  · exact h.ter
  split
  · exact h.sal 4
  · exact h
theorem kp.pC {N M : NS} (h : kp N M) {c d : Nat} : kp N (mPassC c d M) := by
  unfold mPassC
  split
  · exact h.snd.sal 4
  · exact h
theorem kp.bs {N M : NS} (h : kp N M) : ∀ d, kp N (pbs d M)
  | 0 => h
  | d + 1 => (kp.bs h d).pB
theorem kp.cs {N M : NS} (h : kp N M) {c : Nat} : ∀ d, kp N (pcs c d M)
  | 0 => h
  | d + 1 => (kp.cs h d).pC
theorem kp.cl {N M : NS} (h : kp N M) : ∀ c, kp N (pcl c M)
  | 0 => h
  | c + 1 => by
    show kp N (if (pcl c M) (10 + c) = 1 then pcl c M else pcs c (M 5) (pcl c M))
    split
    · exact kp.cl h c
    · exact (kp.cl h c).cs _
/-- what came is what each got -/
def DV (N : NS) : Prop := dvI N 5 = N 7
theorem DV.via {N M : NS} (h : DV N) (g : kp N M) : DV M := by
  unfold DV dvI dvI dvI dvI dvI dvI at h ⊢
  rw [g 7 (by omega), g (20 + 0) (by omega), g (20 + 1) (by omega), g (20 + 2) (by omega), g (20 + 3) (by omega), g (20 + 4) (by omega)]
  exact h
theorem DV.to {N : NS} (h : DV N) {t : Nat} (ht : t < 5) : DV (mTo t N) := by
  have h' : 0 + N (20 + 0) + N (20 + 1) + N (20 + 2) + N (20 + 3) + N (20 + 4) = N 7 := h
  show 0 + mTo t N (20 + 0) + mTo t N (20 + 1) + mTo t N (20 + 2) + mTo t N (20 + 3) + mTo t N (20 + 4) = mTo t N 7
  have h7 : mTo t N 7 = N 7 + 1 := by unfold mTo; rw [un_n (by omega), un_s]
  have hk : ∀ k, k < 5 → mTo t N (20 + k) = if k = t then N (20 + t) + 1 else N (20 + k) := fun k hk => by
    unfold mTo
    by_cases q : k = t
    · rw [if_pos q, q, un_s]
    · rw [if_neg q, un_n (by omega), un_n (by omega)]
  rw [h7, hk 0 (by omega), hk 1 (by omega), hk 2 (by omega), hk 3 (by omega), hk 4 (by omega)]
  have : t = 0 ∨ t = 1 ∨ t = 2 ∨ t = 3 ∨ t = 4 := by omega
  rcases this with rfl | rfl | rfl | rfl | rfl <;> simp only [reduceIte, Nat.reduceEqDiff] <;> omega
theorem to_4 {N : NS} {t : Nat} : mTo t N 4 = N 4 := by unfold mTo; rw [un_n (by omega), un_n (by omega)]
theorem DV.dlv {N : NS} (h : DV N) {p : Nat} (ht : N (150 + 4 * p + 3) < 5) : DV (mDlv p N) ∧ mDlv p N 4 = N 4 := by
  have hd : kp N (mDrop p N) := kp.rf.drp
  have hT := (h.via hd).to ht
  unfold mDlv
  split
  · exact ⟨h.via (hd.un (by omega)), (hd.un (by omega)) 4 (by omega)⟩
  split
  · have g : kp _ (mGet (N (150 + 4 * p)) (N (150 + 4 * p + 1)) (N (150 + 4 * p + 2)) (mTo (N (150 + 4 * p + 3)) (mDrop p N))) := kp.rf.gt
    exact ⟨hT.via g, (g 4 (by omega)).trans (to_4.trans (hd 4 (by omega)))⟩
  · have g : kp _ (mGetBy (N (150 + 4 * p + 3)) (N (150 + 4 * p)) (N (150 + 4 * p + 1)) (N (150 + 4 * p + 2)) (mTo (N (150 + 4 * p + 3)) (mDrop p N))) := kp.rf.gtb
    exact ⟨hT.via g, (g 4 (by omega)).trans (to_4.trans (hd 4 (by omega)))⟩
theorem DV.pss {N : NS} (h : DV N) : DV (mPass N) ∧ mPass N 4 = N 4 + 1 := by
  refine ⟨?_, un_s⟩
  have g : kp N (pcl 4 (if N 14 = 1 then N else pbs (N 5) N)) := by
    refine kp.cl ?_ 4
    split
    · exact kp.rf
    · exact kp.rf.bs _
  have h2 := h.via g
  have h3 : 0 + pcl 4 (if N 14 = 1 then N else pbs (N 5) N) (20 + 0) + pcl 4 (if N 14 = 1 then N else pbs (N 5) N) (20 + 1) + pcl 4 (if N 14 = 1 then N else pbs (N 5) N) (20 + 2) + pcl 4 (if N 14 = 1 then N else pbs (N 5) N) (20 + 3) + pcl 4 (if N 14 = 1 then N else pbs (N 5) N) (20 + 4) = pcl 4 (if N 14 = 1 then N else pbs (N 5) N) 7 := h2
  show 0 + mPass N (20 + 0) + mPass N (20 + 1) + mPass N (20 + 2) + mPass N (20 + 3) + mPass N (20 + 4) = mPass N 7
  unfold mPass
  rw [un_n (by omega), un_n (by omega), un_n (by omega), un_n (by omega), un_n (by omega), un_n (by omega)]
  exact h3
theorem DV.ticks {N : NS} (h : DV N) : ∀ t, DV (mTicks t N) ∧ mTicks t N 4 = N 4 + t
  | 0 => ⟨h, rfl⟩
  | t + 1 => by
    have ih := DV.ticks h t
    have g := ih.1.pss
    exact ⟨g.1, by show mPass (mTicks t N) 4 = _; rw [g.2, ih.2]; omega⟩
theorem DV.opn {N : NS} (h : DV N) {S : Nat} : DV (nOpen S N) ∧ nOpen S N 4 = N 4 := by
  have g : kp N (nOpen S N) := by
    unfold nOpen
    split
    · exact kp.rf
    · unfold mOpen
      exact (((kp.rf.un (by omega)).un (by omega)).un (by omega)).sal 4
  exact ⟨h.via g, g 4 (by omega)⟩
theorem DV.los {N : NS} (h : DV N) {p : Nat} : DV (mLose p N) ∧ mLose p N 4 = N 4 := by
  have g : kp N (mLose p N) := kp.rf.drp.un (by omega)
  exact ⟨h.via g, g 4 (by omega)⟩
theorem DV.twi {N : NS} (h : DV N) {p : Nat} : DV (mTwi p N) ∧ mTwi p N 4 = N 4 := by
  have g0 : kp N (mTw p N 4) := fun j hj => if_neg (by omega)
  have g : kp N (mTwi p N) := g0.un (by omega)
  exact ⟨h.via g, g 4 (by omega)⟩
theorem DV.un {N : NS} (h : DV N) {k v : Nat} (hk : ¬ (k = 4 ∨ k = 7 ∨ (20 ≤ k ∧ k < 25))) : DV (un N k v) ∧ un N k v 4 = N 4 := by
  have g := kp.un (kp.rf (N := N)) (v := v) hk
  exact ⟨h.via g, g 4 (by omega)⟩
theorem kp_fgt {N M : NS} (h : kp N M) {w d : Nat} : kp N (mFgt w d M) := by
  unfold mFgt
  split
  · exact (h.un (by omega)).un (by omega)
  split
  · exact h.un (by omega)
  · exact h
theorem kp_fgs {N M : NS} (h : kp N M) {w : Nat} : ∀ d, kp N (fgs w d M)
  | 0 => h
  | d + 1 => kp_fgt (kp_fgs h d)
theorem dv_fal {N : NS} (h : DV N) {w : Nat} (hw : w < 5) : DV (nFal w N) ∧ nFal w N 4 = N 4 := by
  have g : kp N (nFal w N) := by
    unfold nFal
    split
    · exact kp.rf
    · exact kp_fgs (kp.rf.un (by omega)) _
  exact ⟨h.via g, g 4 (by omega)⟩
theorem dv_ris {N : NS} (h : DV N) {w : Nat} (hw : w < 5) : DV (nRis w N) ∧ nRis w N 4 = N 4 := by
  have g : kp N (nRis w N) := by
    unfold nRis
    split
    · exact kp.rf.un (by omega)
    · exact kp.rf
  exact ⟨h.via g, g 4 (by omega)⟩
theorem dv_dl0 {N : NS} (hI : Inv N) (h : DV N) : ∀ k, k ≤ N 6 → DV (dl0s k N) ∧ dl0s k N 4 = N 4
  | 0, _ => ⟨h, rfl⟩
  | k + 1, hk => by
    have ih := dv_dl0 hI h k (by omega)
    obtain ⟨i1, i2⟩ := dl0s_I hI k (by omega)
    have hm := i1.2.1 0 (by omega)
    have g := ih.1.dlv (p := 0) hm.2.2.2.1
    exact ⟨g.1, g.2.trans ih.2⟩
theorem dv_rnd {N : NS} (hI : Inv N) (h : DV N) : DV (mRound N) ∧ mRound N 4 = N 4 + 1 := by
  have g := dv_dl0 hI h (N 6) (Nat.le_refl _)
  have g2 := g.1.pss
  exact ⟨g2.1, by show mPass (dl0s (N 6) N) 4 = _; rw [g2.2, g.2]⟩
theorem dv_rnds {N : NS} (hI : Inv N) (h : DV N) : ∀ t, DV (mRnds t N) ∧ mRnds t N 4 = N 4 + t
  | 0 => ⟨h, rfl⟩
  | t + 1 => by
    have ih := dv_rnds hI h t
    have g := dv_rnd (hI.rnds t) ih.1
    exact ⟨g.1, by show mRound (mRnds t N) 4 = _; rw [g.2, ih.2]; omega⟩

/-! ===== pure: what every act keeps -/
def sn5 (N : NS) : Nat := N 25 + N 26 + N 27 + N 28 + N 29
theorem snI_5 {N : NS} : snI N 5 = sn5 N := by
  show 0 + N 25 + N 26 + N 27 + N 28 + N 29 = _
  unfold sn5
  omega
theorem mSend_g {k d f t g : Nat} {N : NS} (hf : f < 5) (hg : g < 5) : mSend k d f t N (25 + g) = N (25 + g) + (if g = f then 1 else 0) := by
  by_cases h : g = f
  · subst h; rw [mSend_sf hf, if_pos rfl]
  · rw [mSend_so hg h hf, if_neg h]; rfl
theorem sn5_snd {k d f t : Nat} {N : NS} (hf : f < 5) : sn5 (mSend k d f t N) = sn5 N + 1 := by
  have g0 : mSend k d f t N 25 = N 25 + (if 0 = f then 1 else 0) := mSend_g hf (g := 0) (by decide)
  have g1 : mSend k d f t N 26 = N 26 + (if 1 = f then 1 else 0) := mSend_g hf (g := 1) (by decide)
  have g2 : mSend k d f t N 27 = N 27 + (if 2 = f then 1 else 0) := mSend_g hf (g := 2) (by decide)
  have g3 : mSend k d f t N 28 = N 28 + (if 3 = f then 1 else 0) := mSend_g hf (g := 3) (by decide)
  have g4 : mSend k d f t N 29 = N 29 + (if 4 = f then 1 else 0) := mSend_g hf (g := 4) (by decide)
  unfold sn5
  rw [g0, g1, g2, g3, g4]
  rcases (show f = 0 ∨ f = 1 ∨ f = 2 ∨ f = 3 ∨ f = 4 by omega) with rfl | rfl | rfl | rfl | rfl <;> simp <;> omega
theorem sn5_un {j v : Nat} {N : NS} (h : j < 25 ∨ 30 ≤ j) : sn5 (un N j v) = sn5 N := by
  unfold sn5
  rw [un_n (by omega), un_n (by omega), un_n (by omega), un_n (by omega), un_n (by omega)]
theorem sn5_cg {M N : NS} (h : ∀ j, 25 ≤ j → j < 30 → M j = N j) : sn5 M = sn5 N := by
  unfold sn5
  rw [h 25 (by decide) (by decide), h 26 (by decide) (by decide), h 27 (by decide) (by decide), h 28 (by decide) (by decide), h 29 (by decide) (by decide)]
theorem sn5_sa {k d f S : Nat} {N : NS} (hf : f < 5) : ∀ n, sn5 (sa k d f S n N) ≤ sn5 N + n
  | 0 => Nat.le_refl _
  | n + 1 => by
    have ih := sn5_sa (k := k) (d := d) (S := S) (N := N) hf n
    rw [sa]
    split
    · rw [sn5_snd hf]; omega
    · omega
theorem sn5_drp {p : Nat} {N : NS} : sn5 (mDrop p N) = sn5 N := sn5_cg (fun j h1 h2 => mDrop_n (by omega) (by omega))
theorem sn5_tto {t : Nat} {N : NS} (ht : t < 5) : sn5 (mTo t N) = sn5 N := by
  unfold mTo
  rw [sn5_un (by omega), sn5_un (by omega)]
theorem sn5_ans {d c : Nat} {N : NS} : sn5 (mAns d c N) ≤ sn5 N + 4 := by
  unfold mAns
  split
  · rw [sn5_snd (by decide)]; omega
  · split
    · rw [sn5_snd (by decide)]; omega
    · omega
theorem sn5_ter {d S : Nat} {N : NS} : sn5 (mTear d S N) ≤ sn5 N + 4 := by
  unfold mTear
  have := sn5_sa (k := 4) (d := d) (f := 4) (S := S) (N := un N (30 + 14 * d + 1) 2) (by decide) 4
  rw [sn5_un (by omega)] at this
  exact this
theorem sn5_get {k d c : Nat} {N : NS} : sn5 (mGet k d c N) ≤ sn5 N + 4 := by
  unfold mGet mYes mNo mGot
  split
  · split
    · split
      · have := sn5_sa (k := 3) (d := d) (f := 4) (S := N (30 + 14 * d + 0)) (N := un (un (un N (30 + 14 * d + 4) (N (30 + 14 * d + 4) ||| 2 ^ c)) (30 + 14 * d + 1) 1) (30 + 14 * d + 3) (N 4)) (by decide) 4
        rw [sn5_un (by omega), sn5_un (by omega), sn5_un (by omega)] at this
        exact this
      · rw [sn5_un (by omega)]; omega
    · exact sn5_ans
  · split
    · split
      · exact sn5_ter
      · omega
    · split
      · split
        · rw [sn5_un (by omega), sn5_un (by omega)]; omega
        · omega
      · exact sn5_ans
theorem sn5_getBy {c k d f : Nat} {N : NS} (hc : c < 4) : sn5 (mGetBy c k d f N) ≤ sn5 N + 4 := by
  have h1 : ∀ k d t v, sn5 (mSend k d c t (un N (30 + 14 * d + (6 + c)) v)) ≤ sn5 N + 4 := fun k d t v => by rw [sn5_snd (by omega), sn5_un (by omega)]; omega
  have h2 : ∀ k t, sn5 (mSend k d c t N) ≤ sn5 N + 4 := fun k t => by rw [sn5_snd (by omega)]; omega
  unfold mGetBy mAsk mPosts mTears mWhatC
  split
  · split
    · split
      · rw [sn5_snd (by omega), sn5_un (by omega), sn5_un (by omega)]; omega
      · exact h1 _ _ _ _
    · split
      · omega
      · split
        · exact h2 _ _
        · exact h2 _ _
  · split
    · split
      · exact h1 _ _ _ _
      · split
        · exact h2 _ _
        · omega
    · split
      · split
        · rw [sn5_un (by omega)]; omega
        · omega
      · split
        · exact h1 _ _ _ _
        · split
          · exact h2 _ _
          · split
            · exact h2 _ _
            · omega
theorem sn5_dlv {p : Nat} {N : NS} (ht : N (150 + 4 * p + 3) < 5) : sn5 (mDlv p N) ≤ sn5 N + 4 := by
  unfold mDlv
  split
  · rw [sn5_un (by omega), sn5_drp]; omega
  · split
    · have := sn5_get (k := N (150 + 4 * p)) (d := N (150 + 4 * p + 1)) (c := N (150 + 4 * p + 2)) (N := mTo (N (150 + 4 * p + 3)) (mDrop p N))
      rw [sn5_tto ht, sn5_drp] at this
      exact this
    · have := sn5_getBy (c := N (150 + 4 * p + 3)) (k := N (150 + 4 * p)) (d := N (150 + 4 * p + 1)) (f := N (150 + 4 * p + 2)) (N := mTo (N (150 + 4 * p + 3)) (mDrop p N)) (by omega)
      rw [sn5_tto ht, sn5_drp] at this
      exact this
theorem sn5_pbs {N : NS} : ∀ D, sn5 (pbs D N) ≤ sn5 N + 4 * D
  | 0 => Nat.le_refl _
  | D + 1 => by
    have ih := sn5_pbs (N := N) D
    rw [pbs]
    have : sn5 (mPassB D (pbs D N)) ≤ sn5 (pbs D N) + 4 := by
      unfold mPassB
      split
      · exact sn5_ter
      · split
        · exact sn5_sa (by decide) 4
        · omega
    omega
theorem sn5_pcs {c : Nat} {N : NS} (hc : c < 4) : ∀ D, sn5 (pcs c D N) ≤ sn5 N + 5 * D
  | 0 => Nat.le_refl _
  | D + 1 => by
    have ih := sn5_pcs (N := N) hc D
    rw [pcs]
    have : sn5 (mPassC c D (pcs c D N)) ≤ sn5 (pcs c D N) + 5 := by
      unfold mPassC
      split
      · refine Nat.le_trans (sn5_sa (by omega) 4) ?_
        rw [sn5_snd (by omega)]; omega
      · omega
    omega
theorem sn5_pcl {N : NS} (h8 : N 5 ≤ 8) : ∀ C, C ≤ 4 → sn5 (pcl C N) ≤ sn5 N + 40 * C
  | 0, _ => Nat.le_refl _
  | C + 1, hC => by
    have ih := sn5_pcl h8 C (by omega)
    rw [pcl]
    split
    · omega
    · have := sn5_pcs (c := C) (N := pcl C N) (by omega) (N 5)
      omega
theorem sn5_pass {N : NS} (hF : FI N) : sn5 (mPass N) ≤ sn5 N + 200 := by
  have h8 := hF.2.1
  unfold mPass
  rw [sn5_un (by omega)]
  have e5 : (if N 14 = 1 then N else pbs (N 5) N) 5 = N 5 := hF_p0n hF (by omega)
  have h1 := sn5_pcl (N := if N 14 = 1 then N else pbs (N 5) N) (by rw [e5]; exact h8) 4 (Nat.le_refl 4)
  have h2 : sn5 (if N 14 = 1 then N else pbs (N 5) N) ≤ sn5 N + 32 := by
    split
    · omega
    · have := sn5_pbs (N := N) (N 5); omega
  omega
/-- what holds between two acts -/
def okN (T : Nat) (N : NS) : Prop := Inv N ∧ DV N ∧ VI N ∧ N 4 ≤ T ∧ sn5 N ≤ 200 * T
theorem okN.up {T : Nat} {N : NS} (h : okN T N) : okN (T + 1) N := ⟨h.1, h.2.1, h.2.2.1, Nat.le_succ_of_le h.2.2.2.1, Nat.le_trans h.2.2.2.2 (Nat.mul_le_mul_left 200 (Nat.le_succ T))⟩
section ACTS
variable {T : Nat} {N : NS}
theorem ac_open (h : okN T N) {S : Nat} (hS : 1 ≤ S ∧ S < 16) : okN (T + 1) (nOpen S N) := by
  have hu := h.up
  obtain ⟨hI, hD, hV, h4, hs⟩ := h
  have hd := hD.opn (S := S)
  by_cases q : N 5 = 8 ∨ N 14 = 1
  · rw [nOpen, if_pos q]; exact hu
  · rw [nOpen, if_neg q] at hd ⊢
    refine ⟨hI.opn hS.2 (fun z => q (Or.inl z)), hd.1, VI.opn hI hV hS.2 (by omega) (fun z => q (Or.inl z)), by rw [hd.2]; omega, ?_⟩
    unfold mOpen
    have := sn5_sa (k := 0) (d := N 5) (f := 4) (S := S) (N := un (un (un N 5 (N 5 + 1)) (30 + 14 * N 5 + 0) S) (30 + 14 * N 5 + 2) (N 4)) (by decide) 4
    rw [sn5_un (by omega), sn5_un (by omega), sn5_un (by omega)] at this
    omega
theorem ac_tick (h : okN T N) : okN (T + 1) (mPass N) := by
  obtain ⟨hI, hD, hV, h4, hs⟩ := h
  have hd := hD.pss
  have := sn5_pass hI.1
  exact ⟨hI.pss, hd.1, hV.pss hI.1, by rw [hd.2]; omega, by omega⟩
theorem ac_del (h : okN T N) {p : Nat} : okN (T + 1) (nDel p N) := by
  have hu := h.up
  obtain ⟨hI, hD, hV, h4, hs⟩ := h
  by_cases q : p < N 6
  · rw [nDel, if_pos q]
    have ht := (hI.2.1 p q).2.2.2.1
    have hd := hD.dlv ht
    have := sn5_dlv ht
    exact ⟨hI.dlv q, hd.1, VI.dlv hI hV q, by rw [hd.2]; omega, by omega⟩
  · rw [nDel, if_neg q]; exact hu
theorem ac_lose (h : okN T N) {p : Nat} (hp : p < N 6) : okN (T + 1) (mLose p N) := by
  obtain ⟨hI, hD, hV, h4, hs⟩ := h
  have hd := hD.los (p := p)
  refine ⟨hI.los hp, hd.1, hV.los hI.1.2.1 hp, by rw [hd.2]; omega, ?_⟩
  unfold mLose
  rw [sn5_un (by omega), sn5_drp]; omega
theorem ac_twi (h : okN T N) {p : Nat} (hp : p < N 6) (h6 : ¬ N 6 = 60) : okN (T + 1) (mTwi p N) := by
  obtain ⟨hI, hD, hV, h4, hs⟩ := h
  have hd := hD.twi (p := p)
  refine ⟨hI.twi hp h6, hd.1, hV.twi hI.1.2.1 hp, by rw [hd.2]; omega, ?_⟩
  unfold mTwi
  rw [sn5_un (by omega), sn5_cg (M := mTw p N 4) (N := N) (fun j h1 h2 => mTw_l (by omega))]; omega
theorem ac_fall (h : okN T N) {w : Nat} (hw : w < 5) : okN (T + 1) (nFal w N) := by
  have hu := h.up
  obtain ⟨hI, hD, hV, h4, hs⟩ := h
  have hd := dv_fal hD hw
  by_cases q : N (10 + w) = 1
  · rw [nFal, if_pos q]; exact hu
  · rw [nFal, if_neg q] at hd ⊢
    refine ⟨hI.fall hw, hd.1, VI.fall hI hV hw, by rw [hd.2]; omega, ?_⟩
    rw [sn5_cg (M := mFall w N) (N := N) (fun j h1 h2 => fall_lo hI hw (by omega) (by omega))]; omega
theorem ac_rise (h : okN T N) {w : Nat} (hw : w < 5) : okN (T + 1) (nRis w N) := by
  have hu := h.up
  obtain ⟨hI, hD, hV, h4, hs⟩ := h
  have hd := dv_ris hD hw
  by_cases q : N (10 + w) = 1
  · rw [nRis, if_pos q] at hd ⊢
    refine ⟨hI.rise hw, hd.1, hV.rise hI.1.2.1 hw, by rw [hd.2]; omega, ?_⟩
    unfold mRise
    rw [sn5_un (by omega)]; omega
  · rw [nRis, if_neg q]; exact hu
theorem ac_will (h : okN T N) {k w : Nat} (hk : k < 4) (hw : w ≤ 1) : okN (T + 1) (un N (15 + k) w) := by
  obtain ⟨hI, hD, hV, h4, hs⟩ := h
  have hd := hD.un (k := 15 + k) (v := w) (by omega)
  refine ⟨hI.uw (by omega) hw, hd.1, hV.via hI.1.2.1 (fe.rf.un (by omega) (by omega)) (fsub.rf.un (by omega) (by omega)), by rw [hd.2]; omega, ?_⟩
  rw [sn5_un (by omega)]; omega
theorem ac_set (h : okN T N) {k w : Nat} (hk : k < 4) (h3 : k = 3 → w ≤ 1) (hn : ¬ k = 3 → 1 ≤ w ∧ w ≤ 50) : okN (T + 1) (un N k w) := by
  obtain ⟨hI, hD, hV, h4, hs⟩ := h
  have hd := hD.un (k := k) (v := w) (by omega)
  refine ⟨hI.us hk h3 hn, hd.1, hV.via hI.1.2.1 (fe.rf.un (by omega) (by omega)) (fsub.rf.un (by omega) (by omega)), by rw [hd.2]; omega, ?_⟩
  rw [sn5_un (by omega)]; omega
end ACTS

/-! ===== pure: what a delivered message makes -/
def thF (k a w : Nat) : Nat := if k = 0 ∧ a = 0 then (if w = 1 then 1 else 3) else if k = 3 ∧ a = 1 then 2 else if (k = 4 ∧ a < 2) ∨ (k = 6 ∧ a = 0) then 3 else a
def sdF (k th : Nat) : Int32 := if k = 0 ∧ ¬ th = 2 then (if th = 1 then nI 1 else nI 2) else if k = 3 ∧ th = 2 then nI 5 else if k = 6 ∧ 1 < th then nI (th + 1) else -1
def ansF (st : Nat) : Int32 := if st = 1 ∨ st = 3 then nI 3 else if st = 2 then nI 4 else -1
/-- what the message's going leaves -/
def bas (N : NS) (t : Nat) (M : NS) : Prop := M 6 = N 6 - 1 ∧ M 8 = N 8 + N (10 + t) ∧ M (20 + t) + N (10 + t) = N (20 + t) + 1 ∧ M (25 + t) = N (25 + t) ∧ M 5 = N 5
theorem bas.ud {N M : NS} {t j v : Nat} (h : bas N t M) (ht : t < 5) (hj : 30 ≤ j) : bas N t (un M j v) := by
  obtain ⟨h1, h2, h3, h4, h5⟩ := h
  refine ⟨?_, ?_, ?_, ?_, ?_⟩
  · rw [un_n (by omega)]; exact h1
  · rw [un_n (by omega)]; exact h2
  · rw [un_n (by omega)]; exact h3
  · rw [un_n (by omega)]; exact h4
  · rw [un_n (by omega)]; exact h5
theorem bas.to {N : NS} {p t : Nat} (ht : t < 5) (hi : N (10 + t) = 0) : bas N t (mTo t (mDrop p N)) := by
  unfold mTo
  refine ⟨?_, ?_, ?_, ?_, ?_⟩
  · rw [un_n (by omega), un_n (by omega), mDrop_6]
  · rw [un_n (by omega), un_n (by omega), mDrop_n (by omega) (by omega), hi]; rfl
  · rw [un_s, mDrop_n (by omega) (by omega), hi]
  · rw [un_n (by omega), un_n (by omega), mDrop_n (by omega) (by omega)]
  · rw [un_n (by omega), un_n (by omega), mDrop_n (by omega) (by omega)]
theorem bas.ill {N : NS} {p t : Nat} (ht : t < 5) (hi : N (10 + t) = 1) : bas N t (un (mDrop p N) 8 (N 8 + 1)) := by
  refine ⟨?_, ?_, ?_, ?_, ?_⟩
  · rw [un_n (by omega), mDrop_6]
  · rw [un_s, hi]
  · rw [un_n (by omega), mDrop_n (by omega) (by omega), hi]
  · rw [un_n (by omega), mDrop_n (by omega) (by omega)]
  · rw [un_n (by omega), mDrop_n (by omega) (by omega)]
theorem to_d {N : NS} {p t j : Nat} (ht : t < 5) (hj : (30 ≤ j ∧ j < 150) ∨ (9 ≤ j ∧ j < 20) ∨ j = 4) : mTo t (mDrop p N) j = N j := by
  unfold mTo
  rw [un_n (by omega), un_n (by omega), mDrop_n (by omega) (by omega)]
def DSa (N : NS) (p k d f t th : Nat) (sd : Int32) : Prop := ∃ M : NS, bas N t M ∧ M (30 + 14 * d + (6 + t)) = th ∧ M (30 + 14 * d + 0) = N (30 + 14 * d + 0) ∧ M (30 + 14 * d + 1) = N (30 + 14 * d + 1) ∧ ((sd = -1 ∧ mDlv p N = M) ∨ ∃ q, q < 7 ∧ sd = nI q ∧ mDlv p N = mSend q d t (if k = 6 then f else 4) M)
section DLV
variable {N : NS} {p k d f t : Nat}
theorem dlv_ill (h3 : N (150 + 4 * p + 3) = t) (hi : N (10 + t) = 1) : mDlv p N = un (mDrop p N) 8 (N 8 + 1) := by
  unfold mDlv
  rw [h3, if_pos hi]
theorem dlv_c (h0 : N (150 + 4 * p + 0) = k) (h1 : N (150 + 4 * p + 1) = d) (h2 : N (150 + 4 * p + 2) = f) (h3 : N (150 + 4 * p + 3) = t) (hi : ¬ N (10 + t) = 1) (ht : ¬ t = 4) : mDlv p N = mGetBy t k d f (mTo t (mDrop p N)) := by
  unfold mDlv
  rw [h3, if_neg hi, if_neg ht, h1, h2, ← h0]; rfl
theorem dlv_b (h0 : N (150 + 4 * p + 0) = k) (h1 : N (150 + 4 * p + 1) = d) (h2 : N (150 + 4 * p + 2) = f) (h3 : N (150 + 4 * p + 3) = 4) (hi : ¬ N 14 = 1) : mDlv p N = mGet k d f (mTo 4 (mDrop p N)) := by
  unfold mDlv
  rw [h3, if_neg hi, if_pos rfl, h1, h2, ← h0]; rfl
theorem dsa_ill (h3 : N (150 + 4 * p + 3) = t) (hi : N (10 + t) = 1) (ht : t < 4) (hd : d < 8) {a : Nat} (ha : N (30 + 14 * d + (6 + t)) = a) : DSa N p k d f t a (-1) := by
  refine ⟨_, bas.ill (p := p) (by omega) hi, ?_, ?_, ?_, Or.inl ⟨rfl, dlv_ill h3 hi⟩⟩
  · rw [un_n (by omega), mDrop_n (by omega) (by omega)]; exact ha
  · rw [un_n (by omega), mDrop_n (by omega) (by omega)]
  · rw [un_n (by omega), mDrop_n (by omega) (by omega)]
theorem dsa_well (h0 : N (150 + 4 * p + 0) = k) (h1 : N (150 + 4 * p + 1) = d) (h2 : N (150 + 4 * p + 2) = f) (h3 : N (150 + 4 * p + 3) = t) (hi : N (10 + t) = 0) (ht : t < 4) (hd : d < 8) (hk : k = 0 ∨ k = 3 ∨ k = 4 ∨ k = 6) {a : Nat} (ha : N (30 + 14 * d + (6 + t)) = a) (ha4 : a < 4) : DSa N p k d f t (thF k a (N (15 + t))) (sdF k (thF k a (N (15 + t)))) := by
  have hD := dlv_c h0 h1 h2 h3 (by omega) (by omega)
  have hb := bas.to (p := p) (t := t) (by omega) hi
  have ea : mTo t (mDrop p N) (30 + 14 * d + (6 + t)) = a := by rw [to_d (by omega) (by omega)]; exact ha
  have e0 : mTo t (mDrop p N) (30 + 14 * d + 0) = N (30 + 14 * d + 0) := to_d (by omega) (by omega)
  have e1 : mTo t (mDrop p N) (30 + 14 * d + 1) = N (30 + 14 * d + 1) := to_d (by omega) (by omega)
  have ew : mTo t (mDrop p N) (15 + t) = N (15 + t) := to_d (by omega) (by omega)
  generalize mTo t (mDrop p N) = M0 at hD hb ea e0 e1 ew
  have same : ∀ (q : Nat), q < 7 → mDlv p N = mSend q d t (if k = 6 then f else 4) M0 → thF k a (N (15 + t)) = a → sdF k a = nI q → DSa N p k d f t (thF k a (N (15 + t))) (sdF k (thF k a (N (15 + t)))) := fun q hq h z1 z2 => by
    rw [z1, z2]; exact ⟨M0, hb, ea, e0, e1, Or.inr ⟨q, hq, rfl, h⟩⟩
  have none' : mDlv p N = M0 → thF k a (N (15 + t)) = a → sdF k a = -1 → DSa N p k d f t (thF k a (N (15 + t))) (sdF k (thF k a (N (15 + t)))) := fun h z1 z2 => by
    rw [z1, z2]; exact ⟨M0, hb, ea, e0, e1, Or.inl ⟨rfl, h⟩⟩
  have chg : ∀ (q b : Nat), q < 7 → mDlv p N = mSend q d t (if k = 6 then f else 4) (un M0 (30 + 14 * d + (6 + t)) b) → thF k a (N (15 + t)) = b → sdF k b = nI q → DSa N p k d f t (thF k a (N (15 + t))) (sdF k (thF k a (N (15 + t)))) := fun q b hq h z1 z2 => by
    rw [z1, z2]; exact ⟨_, hb.ud (by omega) (by omega), un_s, (un_n (by omega)).trans e0, (un_n (by omega)).trans e1, Or.inr ⟨q, hq, rfl, h⟩⟩
  rcases hk with rfl | rfl | rfl | rfl
  · -- ASK
    unfold mGetBy mAsk at hD
    rw [if_pos rfl, ea, ew] at hD
    rcases (show a = 0 ∨ a = 1 ∨ a = 2 ∨ a = 3 by omega) with rfl | rfl | rfl | rfl
    · rw [if_pos rfl] at hD
      by_cases hw : N (15 + t) = 1
      · rw [if_pos hw] at hD
        have z1 : thF 0 0 (N (15 + t)) = 1 := by simp [thF, hw]
        rw [z1, show sdF 0 1 = nI 1 by simp [sdF]]
        exact ⟨_, (hb.ud (by omega) (by omega)).ud (by omega) (by omega), un_s, (un_n (by omega)).trans ((un_n (by omega)).trans e0), (un_n (by omega)).trans ((un_n (by omega)).trans e1), Or.inr ⟨1, by decide, rfl, hD⟩⟩
      · rw [if_neg hw] at hD
        exact chg 2 3 (by decide) hD (by simp [thF, hw]) (by simp [sdF])
    · rw [if_neg (by decide), if_neg (by decide), if_pos rfl] at hD
      exact same 1 (by decide) hD (by simp [thF]) (by simp [sdF])
    · rw [if_neg (by decide), if_pos rfl] at hD
      exact none' hD (by simp [thF]) (by simp [sdF])
    · rw [if_neg (by decide), if_neg (by decide), if_neg (by decide)] at hD
      exact same 2 (by decide) hD (by simp [thF]) (by simp [sdF])
  · -- POST
    unfold mGetBy mPosts at hD
    rw [if_neg (by decide), if_pos rfl, ea] at hD
    rcases (show a = 0 ∨ a = 1 ∨ a = 2 ∨ a = 3 by omega) with rfl | rfl | rfl | rfl
    · rw [if_neg (by decide), if_neg (by decide)] at hD
      exact none' hD (by simp [thF]) (by simp [sdF])
    · rw [if_pos rfl] at hD
      exact chg 5 2 (by decide) hD (by simp [thF]) (by simp [sdF])
    · rw [if_neg (by decide), if_pos rfl] at hD
      exact same 5 (by decide) hD (by simp [thF]) (by simp [sdF])
    · rw [if_neg (by decide), if_neg (by decide)] at hD
      exact none' hD (by simp [thF]) (by simp [sdF])
  · -- TEAR
    unfold mGetBy mTears at hD
    rw [if_neg (by decide), if_neg (by decide), if_pos rfl, ea] at hD
    by_cases z : a = 0 ∨ a = 1
    · rw [if_pos z] at hD
      have z1 : thF 4 a (N (15 + t)) = 3 := by
        unfold thF
        rw [if_neg (by omega), if_neg (by omega), if_pos (Or.inl ⟨rfl, by omega⟩)]
      rw [z1, show sdF 4 3 = -1 by simp [sdF]]
      exact ⟨_, hb.ud (by omega) (by omega), un_s, (un_n (by omega)).trans e0, (un_n (by omega)).trans e1, Or.inl ⟨rfl, hD⟩⟩
    · rw [if_neg z] at hD
      refine none' hD ?_ (by simp [sdF])
      unfold thF
      rw [if_neg (by omega), if_neg (by omega), if_neg (by omega)]
  · -- WHAT
    unfold mGetBy mWhatC at hD
    rw [if_neg (by decide), if_neg (by decide), if_neg (by decide), ea] at hD
    rcases (show a = 0 ∨ a = 1 ∨ a = 2 ∨ a = 3 by omega) with rfl | rfl | rfl | rfl
    · rw [if_pos rfl] at hD
      exact chg 4 3 (by decide) (by rw [if_pos rfl]; exact hD) (by simp [thF]) (by simp [sdF])
    · rw [if_neg (by decide), if_neg (by decide), if_neg (by decide)] at hD
      exact none' hD (by simp [thF]) (by simp [sdF])
    · rw [if_neg (by decide), if_pos rfl] at hD
      exact same 3 (by decide) (by rw [if_pos rfl]; exact hD) (by simp [thF]) (by simp [sdF])
    · rw [if_neg (by decide), if_neg (by decide), if_pos rfl] at hD
      exact same 4 (by decide) (by rw [if_pos rfl]; exact hD) (by simp [thF]) (by simp [sdF])
/-- the end of a delivery to a clerk -/
theorem fin_s {M X : NS} {q x : Nat} (h : bas N t M) (ht : t < 4) (hd : d < 8) (hp : p < N 6) (h6 : N 6 ≤ 60) (hX : X = mSend q d t x M) : (N 6 - 1 < X 6 ∧ X (150 + 4 * (N 6 - 1) + 0) = q ∧ X (150 + 4 * (N 6 - 1) + 1) = d ∧ X (150 + 4 * (N 6 - 1) + 2) = t ∧ X (150 + 4 * (N 6 - 1) + 3) = x) ∧ X 6 = N 6 ∧ X (20 + t) + N (10 + t) = N (20 + t) + 1 ∧ X (25 + t) = N (25 + t) + 1 ∧ X 8 = N 8 + N (10 + t) ∧ X 5 = N 5 ∧ X (30 + 14 * d + (6 + t)) = M (30 + 14 * d + (6 + t)) ∧ X (30 + 14 * d + 0) = M (30 + 14 * d + 0) ∧ X (30 + 14 * d + 1) = M (30 + 14 * d + 1) := by
  obtain ⟨h1, h2, h3, h4, h5⟩ := h
  subst hX
  have hne : ¬ M 6 = 60 := by omega
  have hM6 : M 6 ≤ 60 := by omega
  refine ⟨⟨?_, ?_, ?_, ?_, ?_⟩, ?_, ?_, ?_, ?_, ?_, ?_, ?_, ?_⟩
  · rw [mSend_n6 (by omega), if_neg hne]; omega
  · rw [← h1]; exact mSend_s0 hne
  · rw [← h1]; exact mSend_s1 hne
  · rw [← h1]; exact mSend_s2 hne
  · rw [← h1]; exact mSend_s3 hne
  · rw [mSend_n6 (by omega), if_neg hne]; omega
  · rw [mSend_n (by omega) hM6 (by omega) (by omega) (by omega)]; exact h3
  · rw [mSend_sf (by omega), h4]
  · rw [mSend_n8 (by omega), if_neg hne, h2]
  · rw [mSend_n (by omega) hM6 (by omega) (by omega) (by omega)]; exact h5
  · exact mSend_n (by omega) hM6 (by omega) (by omega) (by omega)
  · exact mSend_n (by omega) hM6 (by omega) (by omega) (by omega)
  · exact mSend_n (by omega) hM6 (by omega) (by omega) (by omega)
def DSc (N : NS) (p d : Nat) (sd : Int32) (ck vt st rc : Nat) : Prop := (vt < 16 ∧ st < 4 ∧ rc < 16) ∧ ∃ M : NS, bas N 4 M ∧ M (30 + 14 * d + 1) = st ∧ M (30 + 14 * d + 4) = vt ∧ M (30 + 14 * d + 5) = rc ∧ ((sd = -1 ∧ mDlv p N = M) ∨ ∃ q, q < 7 ∧ sd = nI q ∧ ck < 16 ∧ mDlv p N = sa q d 4 ck 4 M)
theorem dsc_ill (h3 : N (150 + 4 * p + 3) = 4) (hi : N 14 = 1) (hd : d < 8) (hF : FI N) {ck : Nat} : DSc N p d (-1) ck (N (30 + 14 * d + 4)) (N (30 + 14 * d + 1)) (N (30 + 14 * d + 5)) := by
  refine ⟨⟨hF.f4 hd, hF.f1 hd, hF.f5 hd⟩, _, bas.ill (t := 4) (p := p) (by omega) hi, ?_, ?_, ?_, Or.inl ⟨rfl, dlv_ill h3 hi⟩⟩
  · rw [un_n (by omega), mDrop_n (by omega) (by omega)]
  · rw [un_n (by omega), mDrop_n (by omega) (by omega)]
  · rw [un_n (by omega), mDrop_n (by omega) (by omega)]
theorem sa_1 {q d c : Nat} {M : NS} (hc : c < 4) : sa q d 4 (2 ^ c) 4 M = mSend q d 4 c M := by
  rcases (show c = 0 ∨ c = 1 ∨ c = 2 ∨ c = 3 by omega) with rfl | rfl | rfl | rfl <;> rfl
theorem dsc_ans {M0 : NS} (hb : bas N 4 M0) (hF : FI N) (hd : d < 8) (hf : f < 4) (e1 : M0 (30 + 14 * d + 1) = N (30 + 14 * d + 1)) (e4 : M0 (30 + 14 * d + 4) = N (30 + 14 * d + 4)) (e5 : M0 (30 + 14 * d + 5) = N (30 + 14 * d + 5)) (hD : mDlv p N = mAns d f M0) : DSc N p d (ansF (N (30 + 14 * d + 1))) (2 ^ f) (N (30 + 14 * d + 4)) (N (30 + 14 * d + 1)) (N (30 + 14 * d + 5)) := by
  refine ⟨⟨hF.f4 hd, hF.f1 hd, hF.f5 hd⟩, M0, hb, e1, e4, e5, ?_⟩
  unfold mAns at hD
  rw [e1] at hD
  unfold ansF
  by_cases z : N (30 + 14 * d + 1) = 1 ∨ N (30 + 14 * d + 1) = 3
  · rw [if_pos z] at hD ⊢
    exact Or.inr ⟨3, by decide, rfl, pow_lt16 f hf, hD.trans (sa_1 hf).symm⟩
  · rw [if_neg z] at hD ⊢
    by_cases y : N (30 + 14 * d + 1) = 2
    · rw [if_pos y] at hD ⊢
      exact Or.inr ⟨4, by decide, rfl, pow_lt16 f hf, hD.trans (sa_1 hf).symm⟩
    · rw [if_neg y] at hD ⊢
      exact Or.inl ⟨rfl, hD⟩
theorem b0 {p : Nat} (hi : N 14 = 0) (hd : d < 8) : bas N 4 (mTo 4 (mDrop p N)) ∧ ∀ k, k < 14 → mTo 4 (mDrop p N) (30 + 14 * d + k) = N (30 + 14 * d + k) := ⟨bas.to (by decide) hi, fun k hk => to_d (by decide) (by omega)⟩
theorem dsc_6 (h0 : N (150 + 4 * p + 0) = k) (h1 : N (150 + 4 * p + 1) = d) (h2 : N (150 + 4 * p + 2) = f) (h3 : N (150 + 4 * p + 3) = 4) (hi : N 14 = 0) (hF : FI N) (hd : d < 8) (hf : f < 4) (hk : ¬ k = 1 ∧ ¬ k = 2 ∧ ¬ k = 5) : DSc N p d (ansF (N (30 + 14 * d + 1))) (2 ^ f) (N (30 + 14 * d + 4)) (N (30 + 14 * d + 1)) (N (30 + 14 * d + 5)) := by
  have hD := dlv_b h0 h1 h2 h3 (by omega)
  obtain ⟨hb, he⟩ := b0 (p := p) hi hd
  unfold mGet at hD
  rw [if_neg hk.1, if_neg hk.2.1, if_neg hk.2.2] at hD
  exact dsc_ans hb hF hd hf (he 1 (by decide)) (he 4 (by decide)) (he 5 (by decide)) hD
def vt1 (N : NS) (d f : Nat) : Nat := N (30 + 14 * d + 4) ||| (if N (30 + 14 * d + 1) = 0 then 2 ^ f else 0)
def ps1 (N : NS) (d f : Nat) : Prop := N (30 + 14 * d + 1) = 0 ∧ vt1 N d f = N (30 + 14 * d + 0)
theorem dsc_1 (h0 : N (150 + 4 * p + 0) = 1) (h1 : N (150 + 4 * p + 1) = d) (h2 : N (150 + 4 * p + 2) = f) (h3 : N (150 + 4 * p + 3) = 4) (hi : N 14 = 0) (hF : FI N) (hd : d < 8) (hf : f < 4) {sd : Int32} {ck st : Nat} (hsd : sd = if N (30 + 14 * d + 1) = 0 then (if vt1 N d f = N (30 + 14 * d + 0) then nI 3 else -1) else ansF (N (30 + 14 * d + 1))) (hck : ck = if N (30 + 14 * d + 1) = 0 ∧ vt1 N d f = N (30 + 14 * d + 0) then N (30 + 14 * d + 0) else 2 ^ f) (hst : st = if N (30 + 14 * d + 1) = 0 ∧ vt1 N d f = N (30 + 14 * d + 0) then 1 else N (30 + 14 * d + 1)) : DSc N p d sd ck (vt1 N d f) st (N (30 + 14 * d + 5)) := by
  have hD := dlv_b h0 h1 h2 h3 (by omega)
  obtain ⟨hb, he⟩ := b0 (p := p) hi hd
  have e1 := he 1 (by decide)
  have e0 := he 0 (by decide)
  have e4 := he 4 (by decide)
  have e5 := he 5 (by decide)
  have f1 := hF.f1 hd
  have g4 := or_lt16 _ (hF.f4 hd) f hf
  unfold mGet at hD
  rw [if_pos rfl] at hD
  by_cases z : N (30 + 14 * d + 1) = 0
  · have hv : vt1 N d f = N (30 + 14 * d + 4) ||| 2 ^ f := by unfold vt1; rw [if_pos z]
    unfold mYes at hD
    rw [e1, if_pos z, e4, e0] at hD
    rw [if_pos z] at hsd
    by_cases y : vt1 N d f = N (30 + 14 * d + 0)
    · rw [if_pos (hv ▸ y)] at hD
      rw [if_pos y] at hsd
      rw [if_pos ⟨z, y⟩] at hck hst
      subst hsd hck hst
      refine ⟨⟨by rw [hv]; exact g4, by decide, hF.f5 hd⟩, _, ((hb.ud (by decide) (by omega)).ud (by decide) (by omega)).ud (by decide) (by omega), ?_, ?_, ?_, Or.inr ⟨3, by decide, rfl, hF.f0 hd, hD⟩⟩
      · rw [un_n (by omega), un_s]
      · rw [un_n (by omega), un_n (by omega), un_s, hv]
      · rw [un_n (by omega), un_n (by omega), un_n (by omega)]; exact e5
    · rw [if_neg (hv ▸ y)] at hD
      rw [if_neg y] at hsd
      rw [if_neg (fun q => y q.2)] at hck hst
      subst hsd hck hst
      refine ⟨⟨by rw [hv]; exact g4, f1, hF.f5 hd⟩, _, hb.ud (by decide) (by omega), ?_, ?_, ?_, Or.inl ⟨rfl, hD⟩⟩
      · rw [un_n (by omega)]; exact e1
      · rw [un_s, hv]
      · rw [un_n (by omega)]; exact e5
  · have hv : vt1 N d f = N (30 + 14 * d + 4) := by unfold vt1; rw [if_neg z, Nat.or_zero]
    unfold mYes at hD
    rw [e1, if_neg z] at hD
    rw [if_neg z] at hsd
    rw [if_neg (fun q => z q.1)] at hck hst
    subst hsd hck hst
    rw [hv]
    exact dsc_ans hb hF hd hf e1 e4 e5 hD
theorem dsc_2 (h0 : N (150 + 4 * p + 0) = 2) (h1 : N (150 + 4 * p + 1) = d) (h2 : N (150 + 4 * p + 2) = f) (h3 : N (150 + 4 * p + 3) = 4) (hi : N 14 = 0) (hF : FI N) (hd : d < 8) (hf : f < 4) {sd : Int32} {st : Nat} (hsd : sd = if N (30 + 14 * d + 1) = 0 then nI 4 else -1) (hst : st = if N (30 + 14 * d + 1) = 0 then 2 else N (30 + 14 * d + 1)) : DSc N p d sd (N (30 + 14 * d + 0) &&& (15 ^^^ 2 ^ f)) (N (30 + 14 * d + 4)) st (N (30 + 14 * d + 5)) := by
  have hD := dlv_b h0 h1 h2 h3 (by omega)
  obtain ⟨hb, he⟩ := b0 (p := p) hi hd
  have e1 := he 1 (by decide)
  have e0 := he 0 (by decide)
  have e4 := he 4 (by decide)
  have e5 := he 5 (by decide)
  have f1 := hF.f1 hd
  unfold mGet at hD
  rw [if_neg (by decide), if_pos rfl] at hD
  unfold mNo mTear at hD
  rw [e1, e0] at hD
  by_cases z : N (30 + 14 * d + 1) = 0
  · rw [if_pos z] at hD hsd hst
    subst hsd hst
    refine ⟨⟨hF.f4 hd, by decide, hF.f5 hd⟩, _, hb.ud (by decide) (by omega), un_s, ?_, ?_, Or.inr ⟨4, by decide, rfl, and_lt16 (hF.f0 hd), hD⟩⟩
    · rw [un_n (by omega)]; exact e4
    · rw [un_n (by omega)]; exact e5
  · rw [if_neg z] at hD hsd hst
    subst hsd hst
    exact ⟨⟨hF.f4 hd, f1, hF.f5 hd⟩, _, hb, e1, e4, e5, Or.inl ⟨rfl, hD⟩⟩
def rc1 (N : NS) (d f : Nat) : Nat := N (30 + 14 * d + 5) ||| (if N (30 + 14 * d + 1) = 1 then 2 ^ f else 0)
theorem dsc_5 (h0 : N (150 + 4 * p + 0) = 5) (h1 : N (150 + 4 * p + 1) = d) (h2 : N (150 + 4 * p + 2) = f) (h3 : N (150 + 4 * p + 3) = 4) (hi : N 14 = 0) (hF : FI N) (hd : d < 8) (hf : f < 4) {ck st : Nat} (hst : st = if N (30 + 14 * d + 1) = 1 ∧ rc1 N d f = N (30 + 14 * d + 0) then 3 else N (30 + 14 * d + 1)) : DSc N p d (-1) ck (N (30 + 14 * d + 4)) st (rc1 N d f) := by
  have hD := dlv_b h0 h1 h2 h3 (by omega)
  obtain ⟨hb, he⟩ := b0 (p := p) hi hd
  have e1 := he 1 (by decide)
  have e0 := he 0 (by decide)
  have e4 := he 4 (by decide)
  have e5 := he 5 (by decide)
  have f1 := hF.f1 hd
  have g5 := or_lt16 _ (hF.f5 hd) f hf
  unfold mGet at hD
  rw [if_neg (by decide), if_neg (by decide), if_pos rfl] at hD
  unfold mGot at hD
  rw [e1, e0, e5] at hD
  by_cases z : N (30 + 14 * d + 1) = 1
  · have hv : rc1 N d f = N (30 + 14 * d + 5) ||| 2 ^ f := by unfold rc1; rw [if_pos z]
    rw [if_pos z] at hD
    have hst2 : st = if N (30 + 14 * d + 5) ||| 2 ^ f = N (30 + 14 * d + 0) then 3 else 1 := by
      rw [hst, hv]
      by_cases y : N (30 + 14 * d + 5) ||| 2 ^ f = N (30 + 14 * d + 0)
      · rw [if_pos ⟨z, y⟩, if_pos y]
      · rw [if_neg (fun q => y q.2), if_neg y, z]
    refine ⟨⟨hF.f4 hd, by rw [hst2]; split <;> decide, by rw [hv]; exact g5⟩, _, (hb.ud (by decide) (by omega)).ud (by decide) (by omega), ?_, ?_, ?_, Or.inl ⟨rfl, hD⟩⟩
    · rw [un_s, hst2]
    · rw [un_n (by omega), un_n (by omega)]; exact e4
    · rw [un_n (by omega), un_s, hv]
  · have hv : rc1 N d f = N (30 + 14 * d + 5) := by unfold rc1; rw [if_neg z, Nat.or_zero]
    rw [if_neg z] at hD
    rw [if_neg (fun q => z q.1)] at hst
    subst hst
    rw [hv]
    exact ⟨⟨hF.f4 hd, f1, hF.f5 hd⟩, _, hb, e1, e4, e5, Or.inl ⟨rfl, hD⟩⟩
/-- the end of a delivery to the go-between -/
theorem fin_a {M X : NS} {q ck : Nat} (h : bas N 4 M) (hd : d < 8) (hp : p < N 6) (h6 : N 6 ≤ 60) (hX : X = sa q d 4 ck 4 M) : snt2 X (N 6 - 1) q d 4 ck ∧ X 6 = N 6 - 1 + pcn ck 4 - (N 6 - 1 + pcn ck 4 - 60) ∧ X 24 + N 14 = N 24 + 1 ∧ X 29 = N 29 + pcn ck 4 ∧ X 8 = N 8 + N 14 + (N 6 - 1 + pcn ck 4 - 60) ∧ X 5 = N 5 ∧ ∀ k, k < 14 → X (30 + 14 * d + k) = M (30 + 14 * d + k) := by
  obtain ⟨h1, h2, h3, h4, h5⟩ := h
  subst hX
  have hM6 : M 6 ≤ 60 := by omega
  refine ⟨?_, ?_, ?_, ?_, ?_, ?_, fun k hk => ?_⟩
  · rw [← h1]; exact snt2_sa (by decide) hM6
  · rw [sa_c6 (by decide) hM6, h1]
  · rw [sa_n (by decide) hM6 (by decide) (by decide) (by omega)]; exact h3
  · have := sa_sf (k := q) (d := d) (f := 4) (S := ck) (M := M) (by decide) 4
    rw [h4] at this; exact this
  · rw [sa_c8 (by decide) hM6, h1, h2]
  · rw [sa_n (by decide) hM6 (by decide) (by decide) (by omega)]; exact h5
  · exact sa_n (by decide) hM6 (by omega) (by omega) (by omega) 4
end DLV

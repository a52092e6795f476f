/-! ===== pure: what all calls keep of messages and clerks ===== -/
def mok (S D k d f t : Nat) : Prop := k < 7 ∧ d < D ∧ f < 5 ∧ t < 5 ∧ (t < 4 → S.testBit t = true) ∧ (f < 4 → S.testBit f = true) ∧ (k = 1 ∨ k = 2 ∨ k = 5 → t = 4 ∧ f < 4) ∧ (k = 0 ∨ k = 3 ∨ k = 4 → t < 4) ∧ (k = 6 → f < 4)
def MsgI (N : NS) : Prop := ∀ p, p < N 6 → mok (N (30 + 14 * N (150 + 4 * p + 1) + 0)) (N 5) (N (150 + 4 * p)) (N (150 + 4 * p + 1)) (N (150 + 4 * p + 2)) (N (150 + 4 * p + 3))
def NPI (N : NS) : Prop := ∀ d c, d < 8 → c < 4 → (N (30 + 14 * d + 0)).testBit c = false → N (30 + 14 * d + (6 + c)) = 0
def UDI (N : NS) : Prop := ∀ d, N 5 ≤ d → d < 8 → N (30 + 14 * d + 0) = 0
def Inv (N : NS) : Prop := FI N ∧ MsgI N ∧ NPI N ∧ UDI N
theorem mok_of {N M : NS} {p q : Nat} (g : mok (N (30 + 14 * N (150 + 4 * q + 1) + 0)) (N 5) (N (150 + 4 * q)) (N (150 + 4 * q + 1)) (N (150 + 4 * q + 2)) (N (150 + 4 * q + 3)))
    (e0 : M (150 + 4 * p) = N (150 + 4 * q)) (e1 : M (150 + 4 * p + 1) = N (150 + 4 * q + 1)) (e2 : M (150 + 4 * p + 2) = N (150 + 4 * q + 2)) (e3 : M (150 + 4 * p + 3) = N (150 + 4 * q + 3)) (e5 : M 5 = N 5)
    (es : M (30 + 14 * N (150 + 4 * q + 1) + 0) = N (30 + 14 * N (150 + 4 * q + 1) + 0)) : mok (M (30 + 14 * M (150 + 4 * p + 1) + 0)) (M 5) (M (150 + 4 * p)) (M (150 + 4 * p + 1)) (M (150 + 4 * p + 2)) (M (150 + 4 * p + 3)) := by
  rw [e1, e0, e2, e3, e5, es]; exact g
/-- what lies ahead of the messages stays, but for the counters -/
theorem Inv.front {N M : NS} (h : Inv N) (hF : FI M) (h6 : M 6 ≤ N 6) (h5 : M 5 = N 5) (hm : ∀ j, 150 ≤ j → M j = N j) (hd : ∀ d k, d < 8 → k = 0 ∨ (6 ≤ k ∧ k < 10) → M (30 + 14 * d + k) = N (30 + 14 * d + k)) : Inv M := by
  obtain ⟨h1, h2, h3, h4⟩ := h
  refine ⟨hF, fun p hp => ?_, fun d c hd8 hc hb => ?_, fun d hdu hd8 => ?_⟩
  · have g := h2 p (by omega)
    have gd := g.2.1
    have g8 := h1.2.1
    exact mok_of g (hm _ (by omega)) (hm _ (by omega)) (hm _ (by omega)) (hm _ (by omega)) h5 (hd _ 0 (by omega) (Or.inl rfl))
  · rw [hd d 0 hd8 (Or.inl rfl)] at hb
    rw [hd d (6 + c) hd8 (by omega)]
    exact h3 d c hd8 hc hb
  · rw [hd d 0 hd8 (Or.inl rfl)]
    exact h4 d (by omega) hd8
theorem Inv.uc {N : NS} (h : Inv N) {j v : Nat} (hj : j = 4 ∨ j = 7 ∨ j = 8 ∨ (20 ≤ j ∧ j < 30)) : Inv (un N j v) :=
  h.front (h.1.uc (by omega)) (by rw [un_n (by omega)]; exact Nat.le_refl _) (by rw [un_n (by omega)]) (fun i hi => un_n (by omega)) (fun d k hd hk => un_n (by omega))
theorem Inv.uw {N : NS} (h : Inv N) {j v : Nat} (hj : 10 ≤ j ∧ j < 20) (hv : v ≤ 1) : Inv (un N j v) :=
  h.front (h.1.uw hj hv) (by rw [un_n (by omega)]; exact Nat.le_refl _) (by rw [un_n (by omega)]) (fun i hi => un_n (by omega)) (fun d k hd hk => un_n (by omega))
theorem Inv.ud {N : NS} (h : Inv N) {d0 k0 v : Nat} (hd0 : d0 < 8) (hk0 : (1 ≤ k0 ∧ k0 < 6) ∨ (10 ≤ k0 ∧ k0 < 14)) (hv : k0 < 10 → k0 ≠ 2 → k0 ≠ 3 → v ≤ (if k0 = 1 ∨ 6 ≤ k0 then 3 else 15)) : Inv (un N (30 + 14 * d0 + k0) v) :=
  h.front (h.1.ud hd0 (by omega) hv) (by rw [un_n (by omega)]; exact Nat.le_refl _) (by rw [un_n (by omega)]) (fun i hi => un_n (by omega)) (fun d k hd hk => un_n (by omega))
theorem Inv.uf {N : NS} (h : Inv N) {d0 c0 v : Nat} (hd0 : d0 < 8) (hc0 : c0 < 4) (hv : v ≤ 3) (hb : (N (30 + 14 * d0 + 0)).testBit c0 = true) : Inv (un N (30 + 14 * d0 + (6 + c0)) v) := by
  obtain ⟨h1, h2, h3, h4⟩ := h
  refine ⟨h1.ud hd0 (by omega) (fun _ _ _ => by rw [if_pos (by omega)]; exact hv), fun p hp => ?_, fun d c hd8 hc hbb => ?_, fun d hdu hd8 => ?_⟩
  · rw [un_n (by omega)] at hp
    have g := h2 p hp
    have gd := g.2.1
    have g8 := h1.2.1
    rw [un_n (j := 150 + 4 * p) (by omega), un_n (j := 150 + 4 * p + 1) (by omega), un_n (j := 150 + 4 * p + 2) (by omega), un_n (j := 150 + 4 * p + 3) (by omega), un_n (j := 5) (by omega), un_n (by omega)]
    exact g
  · rw [un_n (by omega)] at hbb
    by_cases q : 30 + 14 * d + (6 + c) = 30 + 14 * d0 + (6 + c0)
    · obtain ⟨rfl, rfl⟩ : d = d0 ∧ c = c0 := by omega
      rw [hb] at hbb; cases hbb
    · rw [un_n q]; exact h3 d c hd8 hc hbb
  · rw [un_n (by omega)]
    rw [un_n (by omega)] at hdu
    exact h4 d hdu hd8
theorem Inv.snd {N : NS} (h : Inv N) {k d f t : Nat} (hm : mok (N (30 + 14 * d + 0)) (N 5) k d f t) : Inv (mSend k d f t N) := by
  have hf : f < 5 := hm.2.2.1
  have hd : d < N 5 := hm.2.1
  obtain ⟨h1, h2, h3, h4⟩ := h
  have h6 := h1.1
  have h8 := h1.2.1
  have rd : ∀ j, j ≠ 6 → j ≠ 8 → j < 25 ∨ (30 ≤ j ∧ j < 150) → mSend k d f t N j = N j := fun j a b c => mSend_n hf h6 a b c
  refine ⟨h1.snd hf, fun p hp => ?_, fun d c hd8 hc hbb => ?_, fun d hdu hd8 => ?_⟩
  · by_cases hq : p < N 6
    · have g := h2 p hq
      have gd := g.2.1
      have e : ∀ i, i < 4 → mSend k d f t N (150 + 4 * p + i) = N (150 + 4 * p + i) := by
        intro i hi
        unfold mSend
        split
        · rw [un_n (by omega), un_n (by omega)]
        · rw [un_n (by omega), un_n (by omega), un_n (by omega), un_n (by omega), un_n (by omega), un_n (by omega)]
      rw [show mSend k d f t N (150 + 4 * p) = N (150 + 4 * p) from e 0 (by decide), e 1 (by decide), e 2 (by decide), e 3 (by decide), rd 5 (by decide) (by decide) (by decide), rd _ (by omega) (by omega) (by omega)]
      exact g
    · have hL : ¬ N 6 = 60 := by
        intro z
        rw [mSend, if_pos z, un_n (by omega), un_n (by omega)] at hp
        omega
      have hp2 : p = N 6 := by
        rw [mSend, if_neg hL, un_s] at hp
        omega
      subst hp2
      have e0 : mSend k d f t N (150 + 4 * N 6) = k := by
        rw [mSend, if_neg hL, un_n (by omega), un_n (by omega), un_n (by omega), un_n (by omega), un_s]
      have e1 : mSend k d f t N (150 + 4 * N 6 + 1) = d := by
        rw [mSend, if_neg hL, un_n (by omega), un_n (by omega), un_n (by omega), un_s]
      have e2 : mSend k d f t N (150 + 4 * N 6 + 2) = f := by
        rw [mSend, if_neg hL, un_n (by omega), un_n (by omega), un_s]
      have e3 : mSend k d f t N (150 + 4 * N 6 + 3) = t := by
        rw [mSend, if_neg hL, un_n (by omega), un_s]
      rw [e0, e1, e2, e3, rd 5 (by decide) (by decide) (by decide), rd _ (by omega) (by omega) (by omega)]
      exact hm
  · rw [rd _ (by omega) (by omega) (by omega)] at hbb
    rw [rd _ (by omega) (by omega) (by omega)]
    exact h3 d c hd8 hc hbb
  · rw [rd 5 (by decide) (by decide) (by decide)] at hdu
    rw [rd _ (by omega) (by omega) (by omega)]
    exact h4 d hdu hd8
theorem Inv.sal {N : NS} (h : Inv N) {k d f S : Nat} (hm : ∀ c, c < 4 → S.testBit c = true → mok (N (30 + 14 * d + 0)) (N 5) k d f c) (hf : f < 5) (hd : d < 8) : ∀ c, c ≤ 4 → Inv (sa k d f S c N)
  | 0, _ => h
  | c + 1, hc => by
    have ih := Inv.sal h hm hf hd c (by omega)
    rw [sa]
    split
    · rename_i hb
      refine ih.snd ?_
      rw [sa_n hf h.1.1 (by omega) (by omega) (by omega), sa_n hf h.1.1 (by omega) (by omega) (by omega)]
      exact hm c (by omega) hb
    · exact ih
theorem mDrop_m {p q i : Nat} {N : NS} (hq : q < N 6 - 1) (hi : i < 4) : mDrop p N (150 + 4 * q + i) = N (150 + 4 * (if q < p then q else q + 1) + i) := by
  unfold mDrop mDropTo
  rw [if_neg (by omega)]
  by_cases h : q < p
  · rw [if_neg (by omega), if_pos h]
  · rw [if_pos (by omega), if_neg h]
    congr 1; omega
theorem Inv.drp {N : NS} (h : Inv N) {p : Nat} (hp : p < N 6) : Inv (mDrop p N) := by
  obtain ⟨h1, h2, h3, h4⟩ := h
  have h8 := h1.2.1
  refine ⟨h1.drp, fun q hq => ?_, fun d c hd8 hc hbb => ?_, fun d hdu hd8 => ?_⟩
  · rw [mDrop_6] at hq
    have g := h2 (if q < p then q else q + 1) (by split <;> omega)
    have gd := g.2.1
    rw [show mDrop p N (150 + 4 * q) = _ from mDrop_m (i := 0) hq (by decide), mDrop_m hq (by decide), mDrop_m hq (by decide), mDrop_m hq (by decide), mDrop_n (j := 5) (by decide) (by decide), mDrop_n (by omega) (by omega)]
    exact g
  · rw [mDrop_n (by omega) (by omega)] at hbb
    rw [mDrop_n (by omega) (by omega)]
    exact h3 d c hd8 hc hbb
  · rw [mDrop_n (by omega) (by omega)] at hdu
    rw [mDrop_n (by omega) (by omega)]
    exact h4 d hdu hd8
theorem Inv.tto {N : NS} (h : Inv N) {t : Nat} (ht : t < 5) : Inv (mTo t N) := (h.uc (by omega)).uc (by omega)
theorem bit_and {S T c : Nat} (h : (S &&& T).testBit c = true) : S.testBit c = true := by
  rw [Nat.testBit_and, Bool.and_eq_true] at h
  exact h.1
theorem Inv.anz {N : NS} (h : Inv N) {d c : Nat} (hd : d < N 5) (hc : c < 4) (hb : (N (30 + 14 * d + 0)).testBit c = true) : Inv (mAns d c N) := by
  unfold mAns
  split
  · exact h.snd ⟨by decide, hd, by decide, by omega, fun _ => hb, fun z => absurd z (by decide), fun z => by omega, fun _ => hc, fun z => by omega⟩
  · split
    · exact h.snd ⟨by decide, hd, by decide, by omega, fun _ => hb, fun z => absurd z (by decide), fun z => by omega, fun _ => hc, fun z => by omega⟩
    · exact h
theorem mok4 {S D k d : Nat} (hd : d < D) (hk : k = 0 ∨ k = 3 ∨ k = 4) {T : Nat} (hT : ∀ c, T.testBit c = true → S.testBit c = true) : ∀ c, c < 4 → T.testBit c = true → mok S D k d 4 c := fun c hc hb =>
  ⟨by omega, hd, by decide, by omega, fun _ => hT c hb, fun z => absurd z (by decide), fun z => by omega, fun _ => hc, fun z => by omega⟩
theorem Inv.ter {N : NS} (h : Inv N) {d S : Nat} (hd : d < N 5) (hS : ∀ c, S.testBit c = true → (N (30 + 14 * d + 0)).testBit c = true) : Inv (mTear d S N) := by
  have h8 := h.1.2.1
  refine (h.ud (by omega) (by omega) (fun _ _ _ => by decide)).sal ?_ (by decide) (by omega) 4 (by decide)
  rw [un_n (by omega), un_n (by omega)]
  exact mok4 hd (by decide) hS
theorem Inv.gt {N : NS} (h : Inv N) {k d c : Nat} (hd : d < N 5) (hc : c < 4) (hb : (N (30 + 14 * d + 0)).testBit c = true) : Inv (mGet k d c N) := by
  have h8 := h.1.2.1
  have g4 := or_lt16 _ (h.1.f4 (d := d) (by omega)) c hc
  have g5 := or_lt16 _ (h.1.f5 (d := d) (by omega)) c hc
  unfold mGet mYes mNo mGot
  split
  · split
    · split
      · refine (((h.ud (by omega) (by omega) (fun _ _ _ => by show _ ≤ 15; omega)).ud (by omega) (by omega) (fun _ _ _ => by decide)).ud (by omega) (by omega) (fun _ _ q => absurd rfl q)).sal ?_ (by decide) (by omega) 4 (by decide)
        rw [un_n (by omega), un_n (by omega), un_n (by omega), un_n (by omega), un_n (by omega), un_n (by omega)]
        exact mok4 hd (by decide) (fun _ q => q)
      · exact h.ud (by omega) (by omega) (fun _ _ _ => by show _ ≤ 15; omega)
    · exact h.anz hd hc hb
  · split
    · split
      · exact h.ter hd (fun _ q => bit_and q)
      · exact h
    · split
      · split
        · refine (h.ud (by omega) (by omega) (fun _ _ _ => by show _ ≤ 15; omega)).ud (by omega) (by omega) (fun _ _ _ => ?_)
          show _ ≤ 3
          split <;> decide
        · exact h
      · exact h.anz hd hc hb
theorem mokB {S D k d c : Nat} (hd : d < D) (hk : k = 1 ∨ k = 2 ∨ k = 5 ∨ k = 6) (hc : c < 4) (hb : S.testBit c = true) : mok S D k d c 4 :=
  ⟨by omega, hd, by omega, by decide, fun z => absurd z (by decide), fun _ => hb, fun _ => ⟨rfl, hc⟩, fun z => by omega, fun _ => hc⟩
theorem mokC {S D k d c f : Nat} (hd : d < D) (hk : k = 3 ∨ k = 4) (hc : c < 4) (hb : S.testBit c = true) (hf : f < 4) (hbf : S.testBit f = true) : mok S D k d c f :=
  ⟨by omega, hd, by omega, by omega, fun _ => hbf, fun _ => hb, fun z => by omega, fun _ => hf, fun z => by omega⟩
theorem Inv.gtb {N : NS} (h : Inv N) {c k d f : Nat} (hd : d < N 5) (hc : c < 4) (hb : (N (30 + 14 * d + 0)).testBit c = true) (hk : ¬ (k = 0 ∨ k = 3 ∨ k = 4) → f < 4 ∧ (N (30 + 14 * d + 0)).testBit f = true) : Inv (mGetBy c k d f N) := by
  have h8 := h.1.2.1
  have hst : ∀ v, v ≤ 3 → Inv (un N (30 + 14 * d + (6 + c)) v) := fun v hv => h.uf (by omega) hc hv hb
  have hs : ∀ v kk, v ≤ 3 → kk = 1 ∨ kk = 2 ∨ kk = 5 ∨ kk = 6 → Inv (mSend kk d c 4 (un N (30 + 14 * d + (6 + c)) v)) := fun v kk hv hkk => (hst v hv).snd (by rw [un_n (by omega), un_n (by omega)]; exact mokB hd hkk hc hb)
  unfold mGetBy mAsk mPosts mTears mWhatC
  split
  · split
    · split
      · refine Inv.snd (Inv.uf (h.ud (by omega) (by omega) (fun q => absurd q (by omega))) (by omega) hc (by decide) (by rw [un_n (by omega)]; exact hb)) ?_
        rw [un_n (by omega), un_n (by omega), un_n (by omega), un_n (by omega)]
        exact mokB hd (by decide) hc hb
      · exact hs 3 2 (by decide) (by decide)
    · split
      · exact h
      · split
        · exact h.snd (mokB hd (by decide) hc hb)
        · exact h.snd (mokB hd (by decide) hc hb)
  · split
    · split
      · exact hs 2 5 (by decide) (by decide)
      · split
        · exact h.snd (mokB hd (by decide) hc hb)
        · exact h
    · split
      · split
        · exact hst 3 (by decide)
        · exact h
      · have hk2 := hk (by omega)
        split
        · exact (hst 3 (by decide)).snd (by rw [un_n (by omega), un_n (by omega)]; exact mokC hd (by decide) hc hb hk2.1 hk2.2)
        · split
          · exact h.snd (mokC hd (by decide) hc hb hk2.1 hk2.2)
          · split
            · exact h.snd (mokC hd (by decide) hc hb hk2.1 hk2.2)
            · exact h
theorem Inv.dlv {N : NS} (h : Inv N) {p : Nat} (hp : p < N 6) : Inv (mDlv p N) := by
  have h8 := h.1.2.1
  obtain ⟨g1, g2, g3, g4, g5, g6, g7, g9, g10⟩ := h.2.1 p hp
  have hD := h.drp hp
  have e5 : mTo (N (150 + 4 * p + 3)) (mDrop p N) 5 = N 5 := by
    unfold mTo
    rw [un_n (by omega), un_n (by omega), mDrop_n (by omega) (by omega)]
  have e0 : mTo (N (150 + 4 * p + 3)) (mDrop p N) (30 + 14 * N (150 + 4 * p + 1) + 0) = N (30 + 14 * N (150 + 4 * p + 1) + 0) := by
    unfold mTo
    rw [un_n (by omega), un_n (by omega), mDrop_n (by omega) (by omega)]
  unfold mDlv
  split
  · exact hD.uc (by omega)
  · split
    · rename_i h4
      have hf : N (150 + 4 * p + 2) < 4 := by
        rcases Nat.lt_or_ge (N (150 + 4 * p + 2)) 4 with q | q
        · exact q
        · exfalso
          have : ¬ N (150 + 4 * p) = 6 := fun z => by have := g10 z; omega
          have : ¬ (N (150 + 4 * p) = 1 ∨ N (150 + 4 * p) = 2 ∨ N (150 + 4 * p) = 5) := fun z => by have := g7 z; omega
          have : ¬ (N (150 + 4 * p) = 0 ∨ N (150 + 4 * p) = 3 ∨ N (150 + 4 * p) = 4) := fun z => by have := g9 z; omega
          omega
      exact (hD.tto g4).gt (by rw [e5]; exact g2) hf (by rw [e0]; exact g6 hf)
    · rename_i h4
      have ht : N (150 + 4 * p + 3) < 4 := by omega
      refine (hD.tto g4).gtb (by rw [e5]; exact g2) ht (by rw [e0]; exact g5 ht) (fun z => ?_)
      have hf : N (150 + 4 * p + 2) < 4 := by
        have : ¬ (N (150 + 4 * p) = 1 ∨ N (150 + 4 * p) = 2 ∨ N (150 + 4 * p) = 5) := fun z => by have := g7 z; omega
        exact g10 (by omega)
      exact ⟨hf, by rw [e0]; exact g6 hf⟩
theorem Inv.pB {N : NS} (h : Inv N) {d : Nat} (hd : d < N 5) : Inv (mPassB d N) := by
  have h8 := h.1.2.1
  unfold mPassB
  split
  · exact h.ter hd (fun _ q => q)
  · split
    · exact h.sal (mok4 hd (by decide) (fun _ q => bit_and q)) (by decide) (by omega) 4 (by decide)
    · exact h
theorem Inv.pC {N : NS} (h : Inv N) {c d : Nat} (hc : c < 4) (hd : d < N 5) : Inv (mPassC c d N) := by
  have h8 := h.1.2.1
  unfold mPassC
  split
  · rename_i hb
    refine (h.snd (mokB hd (by decide) hc hb.1)).sal ?_ (by omega) (by omega) 4 (by decide)
    rw [mSend_n (by omega) h.1.1 (by omega) (by omega) (by omega), mSend_n (by omega) h.1.1 (by omega) (by omega) (by omega)]
    intro t ht hbt
    have hbt2 : (N (30 + 14 * d + 0)).testBit t = true := by
      split at hbt
      · exact bit_and hbt
      · rw [Nat.zero_testBit] at hbt; cases hbt
    exact ⟨by decide, hd, by omega, by omega, fun _ => hbt2, fun _ => hb.1, fun z => by omega, fun z => by omega, fun _ => hc⟩
  · exact h
theorem Inv.pb8 {N : NS} (h : Inv N) : ∀ d, d ≤ N 5 → Inv (pbs d N)
  | 0, _ => h
  | d + 1, hd => by
    have h8 := h.1.2.1
    rw [pbs]
    exact (Inv.pb8 h d (by omega)).pB (by rw [pbs_n h.1 (by decide) _ (by omega)]; omega)
theorem Inv.pc8 {N : NS} (h : Inv N) {c : Nat} (hc : c < 4) : ∀ d, d ≤ N 5 → Inv (pcs c d N)
  | 0, _ => h
  | d + 1, hd => by
    rw [pcs]
    exact (Inv.pc8 h hc d (by omega)).pC hc (by rw [pcs_n h.1 hc (by decide)]; omega)
theorem Inv.pl4 {N : NS} (h : Inv N) : ∀ c, c ≤ 4 → Inv (pcl c N)
  | 0, _ => h
  | c + 1, hc => by
    rw [pcl]
    split
    · exact Inv.pl4 h c (by omega)
    · exact (Inv.pl4 h c (by omega)).pc8 (by omega) _ (by rw [pcl_n h.1 (by decide) _ (by omega)]; exact Nat.le_refl _)
theorem Inv.pss {N : NS} (h : Inv N) : Inv (mPass N) := by
  unfold mPass
  refine Inv.uc (Inv.pl4 ?_ 4 (by decide)) (by omega)
  split
  · exact h
  · exact h.pb8 _ (Nat.le_refl _)
theorem mAns_6 {d c : Nat} {N : NS} : N 6 ≤ mAns d c N 6 := by
  unfold mAns
  split
  · exact mSend_6ge (by decide)
  · split
    · exact mSend_6ge (by decide)
    · exact Nat.le_refl _
theorem mTear_6 {d S : Nat} {N : NS} : N 6 ≤ mTear d S N 6 := by
  unfold mTear
  refine Nat.le_trans ?_ (sa_6ge (by decide) 4)
  rw [un_n (by omega)]; exact Nat.le_refl _
theorem mGet_6 {k d c : Nat} {N : NS} : N 6 ≤ mGet k d c N 6 := by
  unfold mGet mYes mNo mGot
  split
  · split
    · split
      · refine Nat.le_trans ?_ (sa_6ge (by decide) 4)
        rw [un_n (by omega), un_n (by omega), un_n (by omega)]; exact Nat.le_refl _
      · rw [un_n (by omega)]; exact Nat.le_refl _
    · exact mAns_6
  · split
    · split
      · exact mTear_6
      · exact Nat.le_refl _
    · split
      · split
        · rw [un_n (by omega), un_n (by omega)]; exact Nat.le_refl _
        · exact Nat.le_refl _
      · exact mAns_6
theorem mGetBy_6 {c k d f : Nat} {N : NS} (hc : c < 4) : N 6 ≤ mGetBy c k d f N 6 := by
  have hs : ∀ kk t v, N 6 ≤ mSend kk d c t (un N (30 + 14 * d + (6 + c)) v) 6 := fun kk t v => Nat.le_trans (by rw [un_n (by omega)]; exact Nat.le_refl _) (mSend_6ge (by omega))
  have hs0 : ∀ kk t, N 6 ≤ mSend kk d c t N 6 := fun kk t => mSend_6ge (by omega)
  unfold mGetBy mAsk mPosts mTears mWhatC
  split
  · split
    · split
      · refine Nat.le_trans ?_ (mSend_6ge (by omega))
        rw [un_n (by omega), un_n (by omega)]; exact Nat.le_refl _
      · exact hs _ _ _
    · split
      · exact Nat.le_refl _
      · split
        · exact hs0 _ _
        · exact hs0 _ _
  · split
    · split
      · exact hs _ _ _
      · split
        · exact hs0 _ _
        · exact Nat.le_refl _
    · split
      · split
        · rw [un_n (by omega)]; exact Nat.le_refl _
        · exact Nat.le_refl _
      · split
        · exact hs _ _ _
        · split
          · exact hs0 _ _
          · split
            · exact hs0 _ _
            · exact Nat.le_refl _
theorem mDlv_6 {N : NS} (h : Inv N) {p : Nat} (hp : p < N 6) : N 6 - 1 ≤ mDlv p N 6 := by
  obtain ⟨g1, g2, g3, g4, g5, g6, g7, g9, g10⟩ := h.2.1 p hp
  have e6 : mTo (N (150 + 4 * p + 3)) (mDrop p N) 6 = N 6 - 1 := by
    unfold mTo
    rw [un_n (by omega), un_n (by omega), mDrop_6]
  unfold mDlv
  split
  · rw [un_n (by omega), mDrop_6]; exact Nat.le_refl _
  · split
    · exact Nat.le_trans (Nat.le_of_eq e6.symm) mGet_6
    · exact Nat.le_trans (Nat.le_of_eq e6.symm) (mGetBy_6 (by omega))
theorem dl0s_I {N : NS} (h : Inv N) : ∀ k, k ≤ N 6 → Inv (dl0s k N) ∧ N 6 ≤ dl0s k N 6 + k
  | 0, _ => ⟨h, Nat.le_refl _⟩
  | k + 1, hk => by
    obtain ⟨i1, i2⟩ := dl0s_I h k (by omega)
    rw [dl0s]
    have := mDlv_6 i1 (p := 0) (by omega)
    exact ⟨i1.dlv (by omega), by omega⟩
theorem Inv.rnd {N : NS} (h : Inv N) : Inv (mRound N) := (dl0s_I h _ (Nat.le_refl _)).1.pss
theorem Inv.los {N : NS} (h : Inv N) {p : Nat} (hp : p < N 6) : Inv (mLose p N) := (h.drp hp).uc (by omega)
theorem mTw_l {p i j : Nat} {N : NS} (hj : j < 150 + 4 * N 6) : mTw p N i j = N j := if_neg (by omega)
theorem Inv.twi {N : NS} (h : Inv N) {p : Nat} (hp : p < N 6) (hn : ¬ N 6 = 60) : Inv (mTwi p N) := by
  obtain ⟨h1, h2, h3, h4⟩ := h
  have h8 := h1.2.1
  have rd : ∀ j, j ≠ 6 → j < 150 + 4 * N 6 → mTwi p N j = N j := fun j a b => by unfold mTwi; rw [un_n a, mTw_l b]
  refine ⟨h1.twi hn, fun q hq => ?_, fun d c hd8 hc hbb => ?_, fun d hdu hd8 => ?_⟩
  · by_cases z : q < N 6
    · have g := h2 q z
      have gd := g.2.1
      exact mok_of g (rd _ (by omega) (by omega)) (rd _ (by omega) (by omega)) (rd _ (by omega) (by omega)) (rd _ (by omega) (by omega)) (rd 5 (by omega) (by omega)) (rd _ (by omega) (by omega))
    · have hq2 : q = N 6 := by
        rw [mTwi, un_s] at hq; omega
      subst hq2
      have g := h2 p hp
      have gd := g.2.1
      have e : ∀ i, i < 4 → mTwi p N (150 + 4 * N 6 + i) = N (150 + 4 * p + i) := fun i hi => by
        unfold mTwi mTw
        rw [un_n (by omega), if_pos (by omega)]
        congr 1; omega
      exact mok_of g (e 0 (by decide)) (e 1 (by decide)) (e 2 (by decide)) (e 3 (by decide)) (rd 5 (by omega) (by omega)) (rd _ (by omega) (by omega))
  · rw [rd _ (by omega) (by omega)] at hbb
    rw [rd _ (by omega) (by omega)]
    exact h3 d c hd8 hc hbb
  · rw [rd _ (by omega) (by omega)] at hdu
    rw [rd _ (by omega) (by omega)]
    exact h4 d hdu hd8
theorem un_id {N : NS} {k : Nat} : un N k (N k) = N := by
  funext j
  unfold un
  by_cases h : j = k
  · rw [if_pos h, h]
  · rw [if_neg h]
theorem Inv.fgt {N : NS} (h : Inv N) {w d : Nat} (hw : w < 5) (hd : d < 8) : Inv (mFgt w d N) := by
  have g5 := h.1.f5 hd
  have g1 := h.1.f1 hd
  unfold mFgt
  split
  · refine (h.ud hd (by omega) (fun _ _ _ => ?_)).ud hd (by omega) (fun _ _ _ => ?_)
    · show _ ≤ 15; split <;> omega
    · show _ ≤ 3; split <;> omega
  · split
    · rename_i h4 h0
      by_cases hb : (N (30 + 14 * d + 0)).testBit w = true
      · rw [if_pos hb]; exact h.uf hd (by omega) (by decide) hb
      · rw [if_neg hb, ← h0, un_id]; exact h
    · exact h
theorem Inv.fgs {N : NS} (h : Inv N) {w : Nat} (hw : w < 5) : ∀ d, d ≤ 8 → Inv (fgs w d N)
  | 0, _ => h
  | d + 1, hd => (Inv.fgs h hw d (by omega)).fgt hw (by omega)
theorem Inv.fall {N : NS} (h : Inv N) {w : Nat} (hw : w < 5) : Inv (mFall w N) := (h.uw (by omega) (by decide)).fgs hw _ h.1.2.1
theorem Inv.rise {N : NS} (h : Inv N) {w : Nat} (hw : w < 5) : Inv (mRise w N) := h.uw (by omega) (by decide)
theorem Inv.ticks {N : NS} (h : Inv N) : ∀ t, Inv (mTicks t N)
  | 0 => h
  | t + 1 => (Inv.ticks h t).pss
theorem Inv.opn {N : NS} (h : Inv N) {S : Nat} (hS : S < 16) (h5 : ¬ N 5 = 8) : Inv (mOpen S N) := by
  obtain ⟨h1, h2, h3, h4⟩ := h
  have h8 := h1.2.1
  have hz := h4 (N 5) (Nat.le_refl _) (by omega)
  have hB : Inv (un (un (un N 5 (N 5 + 1)) (30 + 14 * N 5 + 0) S) (30 + 14 * N 5 + 2) (N 4)) := by
    refine ⟨((h1.u5 (by omega)).ud (by omega) (by decide) (fun _ _ _ => by show _ ≤ 15; omega)).ud (by omega) (by decide) (fun _ q => absurd rfl q), fun p hp => ?_, fun d c hd8 hc hbb => ?_, fun d hdu hd8 => ?_⟩
    · rw [un_n (by omega), un_n (by omega), un_n (by omega)] at hp
      have g := h2 p hp
      have gd := g.2.1
      have rd : ∀ j, 150 ≤ j → un (un (un N 5 (N 5 + 1)) (30 + 14 * N 5 + 0) S) (30 + 14 * N 5 + 2) (N 4) j = N j := fun j hj => by rw [un_n (by omega), un_n (by omega), un_n (by omega)]
      obtain ⟨k1, k2, k3⟩ := g
      have g' : mok (N (30 + 14 * N (150 + 4 * p + 1) + 0)) (N 5 + 1) (N (150 + 4 * p)) (N (150 + 4 * p + 1)) (N (150 + 4 * p + 2)) (N (150 + 4 * p + 3)) := ⟨k1, by omega, k3⟩
      rw [rd (150 + 4 * p) (by omega), rd (150 + 4 * p + 1) (by omega), rd (150 + 4 * p + 2) (by omega), rd (150 + 4 * p + 3) (by omega)]
      rw [show un (un (un N 5 (N 5 + 1)) (30 + 14 * N 5 + 0) S) (30 + 14 * N 5 + 2) (N 4) 5 = N 5 + 1 by rw [un_n (by omega), un_n (by omega), un_s]]
      rw [show un (un (un N 5 (N 5 + 1)) (30 + 14 * N 5 + 0) S) (30 + 14 * N 5 + 2) (N 4) (30 + 14 * N (150 + 4 * p + 1) + 0) = N (30 + 14 * N (150 + 4 * p + 1) + 0) by rw [un_n (by omega), un_n (by omega), un_n (by omega)]]
      exact g'
    · rw [un_n (by omega), un_n (by omega), un_n (by omega)]
      by_cases q : d = N 5
      · subst q
        exact h3 _ c hd8 hc (by rw [hz]; exact Nat.zero_testBit c)
      · rw [un_n (by omega), un_n (by omega), un_n (by omega)] at hbb
        exact h3 d c hd8 hc hbb
    · rw [un_n (by omega), un_n (by omega), un_s] at hdu
      rw [un_n (by omega), un_n (by omega), un_n (by omega)]
      exact h4 d (by omega) hd8
  unfold mOpen
  refine hB.sal ?_ (by decide) (by omega) 4 (by decide)
  rw [un_n (by omega), un_s, un_n (by omega), un_n (by omega), un_s]
  exact mok4 (by omega) (by decide) (fun _ q => q)

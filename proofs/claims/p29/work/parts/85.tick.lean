/-! ===== pure: what a tick sends -/
def Ap (X Y : NS) (k d f : Nat) (R : Nat → Prop) : Prop := (X 6 ≤ Y 6 ∧ Y 6 ≤ 60) ∧ (∀ j, 150 ≤ j → j < 150 + 4 * X 6 → Y j = X j) ∧ ∀ q, X 6 ≤ q → q < Y 6 → Y (150 + 4 * q + 0) = k ∧ Y (150 + 4 * q + 1) = d ∧ Y (150 + 4 * q + 2) = f ∧ R (Y (150 + 4 * q + 3))
section TICK
variable {X Y N : NS} {k d f t : Nat} {R : Nat → Prop}
theorem Ap.cg (h6 : X 6 ≤ 60) (e6 : Y 6 = X 6) (e : ∀ j, 150 ≤ j → Y j = X j) : Ap X Y k d f R := ⟨⟨by omega, by omega⟩, fun j h1 _ => e j h1, fun q h1 h2 => by omega⟩
theorem Ap.snd (h : Ap X Y k d f R) (hf : f < 5) (hR : R t) : Ap X (mSend k d f t Y) k d f R := by
  obtain ⟨⟨h1, h2⟩, h3, h4⟩ := h
  refine ⟨⟨Nat.le_trans h1 (mSend_6ge hf), mSend_6 hf h2⟩, fun j a b => ?_, fun q a b => ?_⟩
  · rw [mSend_old hf a (by omega)]; exact h3 j a b
  · rw [mSend_n6 hf] at b
    by_cases e : Y 6 = 60
    · rw [if_pos e] at b
      rw [mSend_old hf (by omega) (by omega), mSend_old hf (by omega) (by omega), mSend_old hf (by omega) (by omega), mSend_old hf (by omega) (by omega)]
      exact h4 q a b
    · rw [if_neg e] at b
      by_cases z : q = Y 6
      · subst z
        rw [mSend_s0 e, mSend_s1 e, mSend_s2 e, mSend_s3 e]
        exact ⟨rfl, rfl, rfl, hR⟩
      · rw [mSend_old hf (by omega) (by omega), mSend_old hf (by omega) (by omega), mSend_old hf (by omega) (by omega), mSend_old hf (by omega) (by omega)]
        exact h4 q a (by omega)
theorem Ap.sal {S : Nat} (h : Ap X Y k d f R) (hf : f < 5) : ∀ n, (∀ c, c < n → S.testBit c = true → R c) → Ap X (sa k d f S n Y) k d f R
  | 0, _ => h
  | n + 1, hR => by
    have ih := Ap.sal h hf n (fun c hc => hR c (by omega))
    rw [sa]
    split
    · exact ih.snd hf (hR n (by omega) (by assumption))
    · exact ih
def MsgR (X : NS) (z : Nat) (G : Nat → Nat → Nat → Nat → Prop) : Prop := ∀ q, z ≤ q → q < X 6 → G (X (150 + 4 * q + 0)) (X (150 + 4 * q + 1)) (X (150 + 4 * q + 2)) (X (150 + 4 * q + 3))
def Srt (X : NS) (z i : Nat) : Prop := ∀ q, z ≤ q → q + 1 < X 6 → X (150 + 4 * q + i) ≤ X (150 + 4 * (q + 1) + i)
theorem MsgR.ext {z : Nat} {G : Nat → Nat → Nat → Nat → Prop} (h : MsgR X z G) (a : Ap X Y k d f R) (hG : ∀ t, R t → G k d f t) : MsgR Y z G := by
  obtain ⟨-, h3, h4⟩ := a
  intro q hz hq
  by_cases e : q < X 6
  · rw [h3 _ (by omega) (by omega), h3 _ (by omega) (by omega), h3 _ (by omega) (by omega), h3 _ (by omega) (by omega)]
    exact h q hz e
  · obtain ⟨g0, g1, g2, g3⟩ := h4 q (by omega) hq
    rw [g0, g1, g2]
    exact hG _ g3
theorem MsgR.mono {z : Nat} {G G' : Nat → Nat → Nat → Nat → Prop} (h : MsgR X z G) (hG : ∀ k d f t, G k d f t → G' k d f t) : MsgR X z G' := fun q hz hq => hG _ _ _ _ (h q hz hq)
theorem Srt.ext1 {z : Nat} {G : Nat → Nat → Nat → Nat → Prop} (h : Srt X z 1) (m : MsgR X z G) (a : Ap X Y k d f R) (hG : ∀ k' e f' t, G k' e f' t → e ≤ d) : Srt Y z 1 := by
  obtain ⟨-, h3, h4⟩ := a
  intro q hz hq
  by_cases e : q + 1 < X 6
  · rw [h3 _ (by omega) (by omega), h3 _ (by omega) (by omega)]
    exact h q hz e
  · rw [(h4 (q + 1) (by omega) hq).2.1]
    by_cases e2 : q < X 6
    · rw [h3 _ (by omega) (by omega)]
      exact hG _ _ _ _ (m q hz e2)
    · rw [(h4 q (by omega) (by omega)).2.1]
      exact Nat.le_refl _
theorem Srt.ext2 {z : Nat} {G : Nat → Nat → Nat → Nat → Prop} (h : Srt X z 2) (m : MsgR X z G) (a : Ap X Y k d f R) (hG : ∀ k' e f' t, G k' e f' t → f' ≤ f) : Srt Y z 2 := by
  obtain ⟨-, h3, h4⟩ := a
  intro q hz hq
  by_cases e : q + 1 < X 6
  · rw [h3 _ (by omega) (by omega), h3 _ (by omega) (by omega)]
    exact h q hz e
  · rw [(h4 (q + 1) (by omega) hq).2.2.1]
    by_cases e2 : q < X 6
    · rw [h3 _ (by omega) (by omega)]
      exact hG _ _ _ _ (m q hz e2)
    · rw [(h4 q (by omega) (by omega)).2.2.1]
      exact Nat.le_refl _
/-- the patience of a deal ends -/
def EN2 (N : NS) (d : Nat) : Prop := N (30 + 14 * d + 1) = 0 ∧ ¬ nI (N 4) - nI (N (30 + 14 * d + 2)) < nI (N 0)
def GB (N : NS) (D k d f t : Nat) : Prop := f = 4 ∧ d < D ∧ t < 4 ∧ ((k = 4 ∧ EN2 N d) ∨ (k = 3 ∧ N (30 + 14 * d + 1) = 1 ∧ ¬ (N (30 + 14 * d + 5)).testBit t = true))
theorem mPassB_o {e i : Nat} (hX : X 6 ≤ 60) (he : e ≠ d) (hi : i < 14) (he8 : e < 8) : mPassB d X (30 + 14 * e + i) = X (30 + 14 * e + i) := by
  unfold mPassB mTear
  split
  · rw [sa_n (by decide) (by rw [un_n (by omega)]; exact hX) (by omega) (by omega) (by omega), un_n (by omega)]
  · split
    · rw [sa_n (by decide) hX (by omega) (by omega) (by omega)]
    · rfl
theorem mPassB_s {i : Nat} (hX : X 6 ≤ 60) (hi : i < 14) (h1 : i ≠ 1) (hd : d < 8) : mPassB d X (30 + 14 * d + i) = X (30 + 14 * d + i) := by
  unfold mPassB mTear
  split
  · rw [sa_n (by decide) (by rw [un_n (by omega)]; exact hX) (by omega) (by omega) (by omega), un_n (by omega)]
  · split
    · rw [sa_n (by decide) hX (by omega) (by omega) (by omega)]
    · rfl
theorem pbs_f (hF : FI N) : ∀ D, D ≤ 8 → ∀ e i, e < 8 → i < 14 → (D ≤ e ∨ i ≠ 1) → pbs D N (30 + 14 * e + i) = N (30 + 14 * e + i)
  | 0, _, _, _, _, _, _ => rfl
  | D + 1, hD, e, i, he, hi, h => by
    rw [pbs]
    have h6 := (hF.pb8 D (by omega)).1
    by_cases q : e = D
    · subst q
      rw [mPassB_s h6 hi (by omega) he]
      exact pbs_f hF e (by omega) e i he hi (by omega)
    · rw [mPassB_o h6 q hi he]
      exact pbs_f hF D (by omega) e i he hi (by omega)
theorem mPassB_1 (hX : X 6 ≤ 60) (hd : d < 8) [Decidable (EN2 X d)] : mPassB d X (30 + 14 * d + 1) = if EN2 X d then 2 else X (30 + 14 * d + 1) := by
  unfold mPassB mTear
  by_cases z : X (30 + 14 * d + 1) = 0 ∧ ¬ nI (X 4) - nI (X (30 + 14 * d + 2)) < nI (X 0)
  · rw [if_pos z, if_pos (show EN2 X d from z), sa_n (by decide) (by rw [un_n (by omega)]; exact hX) (by omega) (by omega) (by omega), un_s]
  · rw [if_neg z, if_neg (show ¬ EN2 X d from z)]
    split
    · rw [sa_n (by decide) hX (by omega) (by omega) (by omega)]
    · rfl
theorem EN2.cg (e : ∀ i, i < 14 → X (30 + 14 * d + i) = N (30 + 14 * d + i)) (e4 : X 4 = N 4) (e0 : X 0 = N 0) : EN2 X d ↔ EN2 N d := by
  unfold EN2
  rw [e 1 (by decide), e 2 (by decide), e4, e0]
theorem pbs_1 (hF : FI N) : ∀ D, D ≤ 8 → ∀ e, e < D → (EN2 N e → pbs D N (30 + 14 * e + 1) = 2) ∧ (¬ EN2 N e → pbs D N (30 + 14 * e + 1) = N (30 + 14 * e + 1))
  | 0, _, _, h => absurd h (Nat.not_lt_zero _)
  | D + 1, hD, e, h => by
    have h6 := (hF.pb8 D (by omega)).1
    rw [pbs]
    by_cases q : e = D
    · subst q
      have hc := EN2.cg (X := pbs e N) (N := N) (d := e) (fun i hi => pbs_f hF e (by omega) e i (by omega) hi (Or.inl (Nat.le_refl e))) (pbs_n hF (by omega) e (by omega)) (pbs_n hF (by omega) e (by omega))
      have h1 := pbs_f hF e (by omega) e 1 (by omega) (by decide) (Or.inl (Nat.le_refl e))
      refine ⟨fun z => ?_, fun z => ?_⟩
      · have z2 := hc.mpr z
        unfold mPassB mTear
        rw [if_pos (show _ ∧ _ from z2), sa_n (by decide) (by rw [un_n (by omega)]; exact h6) (by omega) (by omega) (by omega), un_s]
      · have z2 : ¬ EN2 (pbs e N) e := fun y => z (hc.mp y)
        unfold mPassB mTear
        rw [if_neg (show ¬ (_ ∧ _) from z2)]
        split
        · rw [sa_n (by decide) h6 (by omega) (by omega) (by omega), h1]
        · exact h1
    · rw [mPassB_o h6 q (by decide) (by omega)]
      exact pbs_1 hF D (by omega) e (by omega)
/-- the go-between's part of a tick -/
theorem pbs_m (hF : FI N) : ∀ D, D ≤ 8 → (N 6 ≤ pbs D N 6 ∧ ∀ j, 150 ≤ j → j < 150 + 4 * N 6 → pbs D N j = N j) ∧ MsgR (pbs D N) (N 6) (GB N D) ∧ Srt (pbs D N) (N 6) 1
  | 0, _ => ⟨⟨Nat.le_refl _, fun _ _ _ => rfl⟩, fun q h1 h2 => by have h3 : q < N 6 := h2; omega, fun q h1 h2 => by have h3 : q + 1 < N 6 := h2; omega⟩
  | D + 1, hD => by
    obtain ⟨⟨g1, g2⟩, g3, g4⟩ := pbs_m hF D (by omega)
    have h6 := (hF.pb8 D (by omega)).1
    have hf := fun i hi => pbs_f hF D (by omega) D i (by omega) hi (Or.inl (Nat.le_refl D))
    have hc := EN2.cg (X := pbs D N) (N := N) (d := D) hf (pbs_n hF (by omega) D (by omega)) (pbs_n hF (by omega) D (by omega))
    rw [pbs]
    have key : ∀ (k : Nat) (R : Nat → Prop), Ap (pbs D N) (mPassB D (pbs D N)) k D 4 R → (∀ t, R t → GB N (D + 1) k D 4 t) → (N 6 ≤ mPassB D (pbs D N) 6 ∧ ∀ j, 150 ≤ j → j < 150 + 4 * N 6 → mPassB D (pbs D N) j = N j) ∧ MsgR (mPassB D (pbs D N)) (N 6) (GB N (D + 1)) ∧ Srt (mPassB D (pbs D N)) (N 6) 1 := fun k R a hR => by
      refine ⟨⟨Nat.le_trans g1 a.1.1, fun j j1 j2 => ?_⟩, MsgR.ext (g3.mono (fun k d f t z => ⟨z.1, by have := z.2.1; omega, z.2.2⟩)) a hR, g4.ext1 g3 a (fun _ e _ _ z => by have := z.2.1; omega)⟩
      rw [a.2.1 j j1 (by omega)]
      exact g2 j j1 j2
    by_cases z : EN2 (pbs D N) D
    · refine key 4 (fun t => t < 4) ?_ (fun t ht => ⟨rfl, by omega, ht, Or.inl ⟨rfl, hc.mp z⟩⟩)
      unfold mPassB mTear
      rw [if_pos (show _ ∧ _ from z)]
      exact (Ap.cg h6 (un_n (by omega)) (fun j hj => un_n (by omega))).sal (by decide) 4 (fun c hc _ => hc)
    · by_cases y : pbs D N (30 + 14 * D + 1) = 1 ∧ isTm (nI (pbs D N 4) - nI (pbs D N (30 + 14 * D + 3))) (nI (pbs D N 2))
      · have y1 := y.1
        rw [hf 1 (by decide)] at y1
        refine key 3 (fun t => t < 4 ∧ ¬ (N (30 + 14 * D + 5)).testBit t = true) ?_ (fun t ht => ⟨rfl, by omega, ht.1, Or.inr ⟨rfl, y1, ht.2⟩⟩)
        unfold mPassB
        rw [if_neg (show ¬ (_ ∧ _) from z), if_pos y]
        refine (Ap.cg h6 rfl (fun _ _ => rfl)).sal (by decide) 4 (fun c hc hb => ⟨hc, ?_⟩)
        rw [bit_an hc, hf 5 (by decide)] at hb
        exact hb.2
      · refine key 3 (fun _ => False) ?_ (fun _ h => h.elim)
        unfold mPassB
        rw [if_neg (show ¬ (_ ∧ _) from z), if_neg y]
        exact Ap.cg h6 rfl (fun _ _ => rfl)
def GC (N : NS) (C k d f t : Nat) : Prop := f < C ∧ f < 4 ∧ k = 6 ∧ N (10 + f) = 0 ∧ d < N 5 ∧ (N (30 + 14 * d + 0)).testBit f = true ∧ N (30 + 14 * d + (6 + f)) = 1 ∧ t ≠ f ∧ (t = 4 ∨ (t < 4 ∧ N 3 = 1 ∧ (N (30 + 14 * d + 0)).testBit t = true))
/-- a clerk's part of a tick -/
theorem pcs_m {c z : Nat} (hF : FI X) (hc : c < 4) (hw : X (10 + c) = 0) (m : MsgR X z (GC X (c + 1))) (s : Srt X z 2) : ∀ D, D ≤ X 5 → (X 6 ≤ pcs c D X 6 ∧ ∀ j, 150 ≤ j → j < 150 + 4 * X 6 → pcs c D X j = X j) ∧ MsgR (pcs c D X) z (GC X (c + 1)) ∧ Srt (pcs c D X) z 2
  | 0, _ => ⟨⟨Nat.le_refl _, fun _ _ _ => rfl⟩, m, s⟩
  | D + 1, hD => by
    obtain ⟨⟨g1, g2⟩, g3, g4⟩ := pcs_m hF hc hw m s D (by omega)
    have h8 := hF.2.1
    have h6 := (hF.pc8 hc D).1
    have hn : ∀ j, j ≠ 6 ∧ j ≠ 8 ∧ (j < 25 ∨ (30 ≤ j ∧ j < 150)) → pcs c D X j = X j := fun j hj => pcs_n hF hc hj D
    rw [pcs]
    have key : ∀ (R : Nat → Prop), Ap (pcs c D X) (mPassC c D (pcs c D X)) 6 D c R → (∀ t, R t → GC X (c + 1) 6 D c t) → (X 6 ≤ mPassC c D (pcs c D X) 6 ∧ ∀ j, 150 ≤ j → j < 150 + 4 * X 6 → mPassC c D (pcs c D X) j = X j) ∧ MsgR (mPassC c D (pcs c D X)) z (GC X (c + 1)) ∧ Srt (mPassC c D (pcs c D X)) z 2 := fun R a hR => by
      refine ⟨⟨Nat.le_trans g1 a.1.1, fun j j1 j2 => ?_⟩, g3.ext a hR, g4.ext2 g3 a (fun _ _ f _ y => by have := y.1; omega)⟩
      rw [a.2.1 j j1 (by omega)]
      exact g2 j j1 j2
    unfold mPassC at key ⊢
    rw [hn (30 + 14 * D + 0) (by omega), hn (30 + 14 * D + (6 + c)) (by omega), hn 3 (by omega)] at key ⊢
    split
    · rename_i y
      rw [if_pos y] at key
      have b : ∀ t, t ≠ c → (t = 4 ∨ (t < 4 ∧ X 3 = 1 ∧ (X (30 + 14 * D + 0)).testBit t = true)) → GC X (c + 1) 6 D c t := fun t h1 h2 => ⟨by omega, hc, rfl, hw, by omega, y.1, y.2.1, h1, h2⟩
      refine key (fun t => GC X (c + 1) 6 D c t) (((Ap.cg h6 rfl (fun _ _ => rfl)).snd (by omega) (b 4 (by omega) (Or.inl rfl))).sal (by omega) 4 (fun e he hb => ?_)) (fun _ h => h)
      by_cases q : X 3 = 1
      · rw [if_pos q, bit_an he, Nat.testBit_two_pow, decide_eq_true_iff] at hb
        exact b e (fun w => hb.2 w.symm) (Or.inr ⟨he, q, hb.1⟩)
      · rw [if_neg q, Nat.zero_testBit] at hb; cases hb
    · rw [if_neg (by assumption)] at key
      exact key (fun _ => False) (Ap.cg h6 rfl (fun _ _ => rfl)) (fun _ h => h.elim)
theorem GC.cg {C k d f t : Nat} (e : ∀ j, j ≠ 6 ∧ j ≠ 8 ∧ (j < 25 ∨ (30 ≤ j ∧ j < 150)) → X j = Y j) (hF : FI Y) : GC X C k d f t ↔ GC Y C k d f t := by
  have h8 := hF.2.1
  have e5 := e 5 (by omega)
  have e3 := e 3 (by omega)
  unfold GC
  rw [e5, e3]
  constructor
  · rintro ⟨a1, a2, a3, a4, a5, a6, a7, a8, a9⟩
    rw [e _ (by omega)] at a4 a6 a7 a9
    exact ⟨a1, a2, a3, a4, a5, a6, a7, a8, a9⟩
  · rintro ⟨a1, a2, a3, a4, a5, a6, a7, a8, a9⟩
    exact ⟨a1, a2, a3, by rw [e _ (by omega)]; exact a4, a5, by rw [e _ (by omega)]; exact a6, by rw [e _ (by omega)]; exact a7, a8, by rw [e _ (by omega)]; exact a9⟩
theorem pcl_m (hF : FI Y) : ∀ C, C ≤ 4 → (Y 6 ≤ pcl C Y 6 ∧ ∀ j, 150 ≤ j → j < 150 + 4 * Y 6 → pcl C Y j = Y j) ∧ MsgR (pcl C Y) (Y 6) (GC Y C) ∧ Srt (pcl C Y) (Y 6) 2
  | 0, _ => ⟨⟨Nat.le_refl _, fun _ _ _ => rfl⟩, fun q h1 h2 => by have h3 : q < Y 6 := h2; omega, fun q h1 h2 => by have h3 : q + 1 < Y 6 := h2; omega⟩
  | C + 1, hC => by
    obtain ⟨⟨g1, g2⟩, g3, g4⟩ := pcl_m hF C (by omega)
    have hX := hF.pl4 C (by omega)
    have hn : ∀ j, j ≠ 6 ∧ j ≠ 8 ∧ (j < 25 ∨ (30 ≤ j ∧ j < 150)) → pcl C Y j = Y j := fun j hj => pcl_n hF hj C (by omega)
    have hi := hX.il (w := C) (by omega)
    have up : ∀ k d f t, GC Y C k d f t → GC Y (C + 1) k d f t := fun k d f t h => ⟨by have := h.1; omega, h.2⟩
    rw [pcl]
    split
    · exact ⟨⟨g1, g2⟩, g3.mono up, g4⟩
    · have hm : MsgR (pcl C Y) (Y 6) (GC (pcl C Y) (C + 1)) := g3.mono (fun k d f t h => (GC.cg hn hF).mpr (up k d f t h))
      obtain ⟨⟨k1, k2⟩, k3, k4⟩ := pcs_m hX (c := C) (by omega) (by omega) hm g4 (Y 5) (by rw [hn 5 (by omega)]; exact Nat.le_refl _)
      refine ⟨⟨Nat.le_trans g1 k1, fun j j1 j2 => ?_⟩, k3.mono (fun k d f t h => (GC.cg hn hF).mp h), k4⟩
      rw [k2 j j1 (by omega)]
      exact g2 j j1 j2
/-- all that a tick sends, in its order: first the go-between's, then the clerks' -/
theorem pass_m (hI : Inv N) : ∃ z, N 6 ≤ z ∧ z ≤ mPass N 6 ∧ (∀ q, N 6 ≤ q → q < z → N 14 = 0 ∧ GB N (N 5) (mPass N (150 + 4 * q + 0)) (mPass N (150 + 4 * q + 1)) (mPass N (150 + 4 * q + 2)) (mPass N (150 + 4 * q + 3))) ∧ (∀ q, N 6 ≤ q → q + 1 < z → mPass N (150 + 4 * q + 1) ≤ mPass N (150 + 4 * (q + 1) + 1)) ∧ (∀ q, z ≤ q → q < mPass N 6 → GC N 4 (mPass N (150 + 4 * q + 0)) (mPass N (150 + 4 * q + 1)) (mPass N (150 + 4 * q + 2)) (mPass N (150 + 4 * q + 3))) ∧ (∀ q, z ≤ q → q + 1 < mPass N 6 → mPass N (150 + 4 * q + 2) ≤ mPass N (150 + 4 * (q + 1) + 2)) := by
  have hF := hI.1
  have h8 := hF.2.1
  have hY := hF_p0 hF
  obtain ⟨⟨g1, g2⟩, g3, g4⟩ := pcl_m hY 4 (Nat.le_refl 4)
  have hp6 : mPass N 6 = pcl 4 (if N 14 = 1 then N else pbs (N 5) N) 6 := un_n (by omega)
  have hpj : ∀ j, 150 ≤ j → mPass N j = pcl 4 (if N 14 = 1 then N else pbs (N 5) N) j := fun j hj => un_n (by omega)
  have hi : N 14 ≤ 1 := hF.il (w := 4) (by decide)
  refine ⟨(if N 14 = 1 then N else pbs (N 5) N) 6, ?_, ?_, fun q q1 q2 => ?_, fun q q1 q2 => ?_, fun q q1 q2 => ?_, fun q q1 q2 => ?_⟩
  · split
    · exact Nat.le_refl _
    · exact (pbs_m hF (N 5) h8).1.1
  · rw [hp6]; exact g1
  · rw [hpj _ (by omega), hpj _ (by omega), hpj _ (by omega), hpj _ (by omega), g2 _ (by omega) (by omega), g2 _ (by omega) (by omega), g2 _ (by omega) (by omega), g2 _ (by omega) (by omega)]
    by_cases e : N 14 = 1
    · rw [if_pos e] at q2; omega
    · rw [if_neg e] at q2 ⊢
      exact ⟨by omega, (pbs_m hF (N 5) h8).2.1 q q1 q2⟩
  · rw [hpj _ (by omega), hpj _ (by omega), g2 _ (by omega) (by omega), g2 _ (by omega) (by omega)]
    by_cases e : N 14 = 1
    · rw [if_pos e] at q2; omega
    · rw [if_neg e] at q2 ⊢
      exact (pbs_m hF (N 5) h8).2.2 q q1 q2
  · rw [hp6] at q2
    rw [hpj _ (by omega), hpj _ (by omega), hpj _ (by omega), hpj _ (by omega)]
    have h := g3 q q1 q2
    obtain ⟨a1, a2, a3, a4, a5, a6, a7, a8, a9⟩ := h
    have e5 : (if N 14 = 1 then N else pbs (N 5) N) 5 = N 5 := hF_p0n hF (by omega)
    have e3 : (if N 14 = 1 then N else pbs (N 5) N) 3 = N 3 := hF_p0n hF (by omega)
    rw [e5] at a5
    rw [e3] at a9
    have ed : ∀ i, i < 14 → i ≠ 1 → (if N 14 = 1 then N else pbs (N 5) N) (30 + 14 * pcl 4 (if N 14 = 1 then N else pbs (N 5) N) (150 + 4 * q + 1) + i) = N (30 + 14 * pcl 4 (if N 14 = 1 then N else pbs (N 5) N) (150 + 4 * q + 1) + i) := fun i hi h1 => by
      generalize pcl 4 (if N 14 = 1 then N else pbs (N 5) N) (150 + 4 * q + 1) = e at a5
      split
      · rfl
      · exact pbs_f hF (N 5) h8 e i (by omega) hi (Or.inr h1)
    rw [ed 0 (by decide) (by decide)] at a6 a9
    rw [ed (6 + _) (by omega) (by omega)] at a7
    rw [hF_p0n hF (by omega)] at a4
    exact ⟨a1, a2, a3, a4, a5, a6, a7, a8, a9⟩
  · rw [hp6] at q2
    rw [hpj _ (by omega), hpj _ (by omega)]
    exact g4 q q1 q2
theorem pass_f (hI : Inv N) {e i : Nat} (he : e < N 5) (hi : i < 14) (h1 : i ≠ 1) : mPass N (30 + 14 * e + i) = N (30 + 14 * e + i) := by
  have hF := hI.1
  have h8 := hF.2.1
  unfold mPass
  rw [un_n (by omega), pcl_n (hF_p0 hF) (by omega) 4 (by omega)]
  split
  · rfl
  · exact pbs_f hF (N 5) h8 e i (by omega) hi (Or.inr h1)
theorem pass_1 (hI : Inv N) {e : Nat} (he : e < N 5) : ((N 14 = 0 ∧ EN2 N e) → mPass N (30 + 14 * e + 1) = 2) ∧ (¬ (N 14 = 0 ∧ EN2 N e) → mPass N (30 + 14 * e + 1) = N (30 + 14 * e + 1)) := by
  have hF := hI.1
  have h8 := hF.2.1
  have hi : N 14 ≤ 1 := hF.il (w := 4) (by decide)
  unfold mPass
  rw [un_n (by omega), pcl_n (hF_p0 hF) (by omega) 4 (by omega)]
  by_cases z : N 14 = 1
  · rw [if_pos z]
    exact ⟨fun y => by omega, fun _ => rfl⟩
  · rw [if_neg z]
    obtain ⟨p1, p2⟩ := pbs_1 hF (N 5) h8 e he
    exact ⟨fun y => p1 y.2, fun y => p2 (fun w => y ⟨by omega, w⟩)⟩
theorem pass_lo (hI : Inv N) {j : Nat} (hj : j ≠ 4 ∧ j ≠ 6 ∧ j ≠ 8 ∧ j < 25) : mPass N j = N j := by
  have hF := hI.1
  unfold mPass
  rw [un_n hj.1, pcl_n (hF_p0 hF) (by omega) 4 (by omega), hF_p0n hF (by omega)]
end TICK

/-! ===== pure: what holds of a deal's votes and of the messages that are on their way ===== -/
def flg (N : NS) (Q : Nat → Nat → Nat → Prop) : Prop := ∃ p, p < N 6 ∧ Q (N (150 + 4 * p + 0)) (N (150 + 4 * p + 1)) (N (150 + 4 * p + 2))
def Yf (N : NS) (d c : Nat) : Prop := flg N (fun k e f => k = 1 ∧ e = d ∧ f = c)
def POf (N : NS) (d : Nat) : Prop := flg N (fun k e _ => k = 3 ∧ e = d)
def TEf (N : NS) (d : Nat) : Prop := flg N (fun k e _ => k = 4 ∧ e = d)
def REf (N : NS) (d c : Nat) : Prop := flg N (fun k e f => k = 5 ∧ e = d ∧ f = c)
def DMo (S st vt : Nat) (a : Nat → Nat) (Y : Nat → Prop) : Prop := st = 2 ∨ ∃ c, c < 4 ∧ S.testBit c = true ∧ a c = 3 ∧ vt.testBit c = false ∧ ¬ Y c
def DOK (S st vt rc : Nat) (a : Nat → Nat) (Y : Nat → Prop) (PO TE : Prop) (RE : Nat → Prop) : Prop :=
  (S ≠ 0 ∧ (∀ c, vt.testBit c = true → S.testBit c = true) ∧ (∀ c, rc.testBit c = true → S.testBit c = true)) ∧
  ((st = 1 ∨ st = 3 → vt = S) ∧ (st = 0 → vt ≠ S) ∧ (st = 3 → rc = S)) ∧
  (∀ c, c < 4 → S.testBit c = true → (a c = 2 → st = 1 ∨ st = 3) ∧ (rc.testBit c = true → a c = 2) ∧ (vt.testBit c = true → a c ≠ 0) ∧ (a c = 3 → DMo S st vt a Y) ∧ (Y c → a c ≠ 0) ∧ (RE c → a c = 2)) ∧
  (PO → st = 1 ∨ st = 3) ∧ (TE → DMo S st vt a Y)
section VIP
variable {S st vt rc : Nat} {a a' : Nat → Nat} {Y Y' : Nat → Prop} {PO PO' TE TE' : Prop} {RE RE' : Nat → Prop} {c0 : Nat}
theorem DMo.of {vt' : Nat} (h : DMo S st vt a Y) (g : ∀ c, c < 4 → S.testBit c = true → a c = 3 → vt.testBit c = false → ¬ Y c → a' c = 3 ∧ vt'.testBit c = false ∧ ¬ Y' c) : DMo S st vt' a' Y' := by
  rcases h with h | ⟨c, h1, h2, h3, h4, h5⟩
  · exact Or.inl h
  · obtain ⟨g1, g2, g3⟩ := g c h1 h2 h3 h4 h5
    exact Or.inr ⟨c, h1, h2, g1, g2, g3⟩
/-- more messages, other clerks' standing told alike -/
theorem DOK.add (h : DOK S st vt rc a Y PO TE RE) (ha : ∀ c, c < 4 → a' c = a c) (hY : ∀ c, c < 4 → Y' c → Y c ∨ a c = 1) (hP : PO' → PO ∨ (st = 1 ∨ st = 3)) (hT : TE' → TE ∨ DMo S st vt a Y) (hR : ∀ c, c < 4 → RE' c → RE c ∨ a c = 2) : DOK S st vt rc a' Y' PO' TE' RE' := by
  obtain ⟨h1, h2, h3, h4, h5⟩ := h
  have hD : DMo S st vt a Y → DMo S st vt a' Y' := fun z => z.of (fun c hc _ k3 k4 k5 => ⟨(ha c hc).trans k3, k4, fun y => (hY c hc y).elim k5 (fun q => by omega)⟩)
  refine ⟨h1, h2, fun c hc hS => ?_, fun z => (hP z).elim h4 id, fun z => hD ((hT z).elim h5 id)⟩
  obtain ⟨q1, q2, q3, q4, q5, q6⟩ := h3 c hc hS
  rw [ha c hc]
  exact ⟨q1, q2, q3, fun z => hD (q4 z), fun z => (hY c hc z).elim q5 (fun q => by omega), fun z => (hR c hc z).elim q6 id⟩
theorem DOK.mono (h : DOK S st vt rc a Y PO TE RE) (hY : ∀ c, Y' c → Y c) (hP : PO' → PO) (hT : TE' → TE) (hR : ∀ c, RE' c → RE c) : DOK S st vt rc a Y' PO' TE' RE' :=
  h.add (fun _ _ => rfl) (fun c _ z => Or.inl (hY c z)) (fun z => Or.inl (hP z)) (fun z => Or.inl (hT z)) (fun c _ z => Or.inl (hR c z))
/-- a clerk who was NEW is READY -/
theorem DOK.at1 (h : DOK S st vt rc a Y PO TE RE) (h0 : a c0 = 0) (hc0 : c0 < 4) (hS0 : S.testBit c0 = true) (e0 : a' c0 = 1) (ha : ∀ c, c < 4 → c ≠ c0 → a' c = a c) : DOK S st vt rc a' Y PO TE RE := by
  obtain ⟨h1, h2, h3, h4, h5⟩ := h
  have hD : DMo S st vt a Y → DMo S st vt a' Y := fun z => z.of (fun c hc _ k3 k4 k5 => ⟨(ha c hc (fun e => by rw [e] at k3; omega)).trans k3, k4, k5⟩)
  refine ⟨h1, h2, fun c hc hS => ?_, h4, fun z => hD (h5 z)⟩
  obtain ⟨q1, q2, q3, q4, q5, q6⟩ := h3 c hc hS
  by_cases e : c = c0
  · subst e
    rw [e0]
    exact ⟨fun z => by omega, fun z => absurd (q2 z) (by omega), fun _ => by decide, fun z => by omega, fun _ => by decide, fun z => absurd (q6 z) (by omega)⟩
  · rw [ha c hc e]
    exact ⟨q1, q2, q3, fun z => hD (q4 z), q5, q6⟩
/-- a clerk who was NEW is TORN -/
theorem DOK.at30 (h : DOK S st vt rc a Y PO TE RE) (h0 : a c0 = 0) (hc0 : c0 < 4) (hS0 : S.testBit c0 = true) (e0 : a' c0 = 3) (ha : ∀ c, c < 4 → c ≠ c0 → a' c = a c) : DOK S st vt rc a' Y PO TE' RE := by
  obtain ⟨h1, h2, h3, h4, h5⟩ := h
  obtain ⟨p1, p2, p3, p4, p5, p6⟩ := h3 c0 hc0 hS0
  have hv : vt.testBit c0 = false := by
    cases q : vt.testBit c0
    · rfl
    · exact absurd h0 (p3 q)
  have hD : DMo S st vt a' Y := Or.inr ⟨c0, hc0, hS0, e0, hv, fun y => p5 y h0⟩
  refine ⟨h1, h2, fun c hc hS => ?_, h4, fun _ => hD⟩
  obtain ⟨q1, q2, q3, q4, q5, q6⟩ := h3 c hc hS
  by_cases e : c = c0
  · subst e
    rw [e0]
    exact ⟨fun z => by omega, fun z => absurd (q2 z) (by omega), fun _ => by decide, fun _ => hD, fun _ => by decide, fun z => absurd (q6 z) (by omega)⟩
  · rw [ha c hc e]
    exact ⟨q1, q2, q3, fun _ => hD, q5, q6⟩
/-- a clerk who was NEW or READY is TORN by a TEAR -/
theorem DOK.at3 (h : DOK S st vt rc a Y PO TE RE) (h0 : a c0 = 0 ∨ a c0 = 1) (hT : DMo S st vt a Y) (e0 : a' c0 = 3) (ha : ∀ c, c < 4 → c ≠ c0 → a' c = a c) : DOK S st vt rc a' Y PO TE RE := by
  obtain ⟨h1, h2, h3, h4, h5⟩ := h
  have hD : DMo S st vt a' Y := hT.of (fun c hc _ k3 k4 k5 => ⟨(ha c hc (fun e => by rw [e] at k3; omega)).trans k3, k4, k5⟩)
  refine ⟨h1, h2, fun c hc hS => ?_, h4, fun _ => hD⟩
  obtain ⟨q1, q2, q3, q4, q5, q6⟩ := h3 c hc hS
  by_cases e : c = c0
  · subst e
    rw [e0]
    exact ⟨fun z => by omega, fun z => absurd (q2 z) (by omega), fun _ => by decide, fun _ => hD, fun _ => by decide, fun z => absurd (q6 z) (by omega)⟩
  · rw [ha c hc e]
    exact ⟨q1, q2, q3, fun _ => hD, q5, q6⟩
/-- a clerk who was READY is POSTED -/
theorem DOK.at2 (h : DOK S st vt rc a Y PO TE RE) (h0 : a c0 = 1) (hst : st = 1 ∨ st = 3) (e0 : a' c0 = 2) (ha : ∀ c, c < 4 → c ≠ c0 → a' c = a c) : DOK S st vt rc a' Y PO TE RE := by
  obtain ⟨h1, h2, h3, h4, h5⟩ := h
  have hD : DMo S st vt a Y → DMo S st vt a' Y := fun z => z.of (fun c hc _ k3 k4 k5 => ⟨(ha c hc (fun e => by rw [e] at k3; omega)).trans k3, k4, k5⟩)
  refine ⟨h1, h2, fun c hc hS => ?_, h4, fun z => hD (h5 z)⟩
  obtain ⟨q1, q2, q3, q4, q5, q6⟩ := h3 c hc hS
  by_cases e : c = c0
  · subst e
    rw [e0]
    exact ⟨fun _ => hst, fun _ => rfl, fun _ => by decide, fun z => by omega, fun _ => by decide, fun _ => rfl⟩
  · rw [ha c hc e]
    exact ⟨q1, q2, q3, fun z => hD (q4 z), q5, q6⟩
theorem bit_or {S c x : Nat} : (S ||| 2 ^ c).testBit x = (S.testBit x || decide (c = x)) := by rw [Nat.testBit_or, Nat.testBit_two_pow]
/-- a YES comes, not all are there -/
theorem DOK.yes (h : DOK S 0 vt rc a Y PO TE RE) (hY : Y c0) (hS0 : S.testBit c0 = true) (hn : vt ||| 2 ^ c0 ≠ S) : DOK S 0 (vt ||| 2 ^ c0) rc a Y PO TE RE := by
  obtain ⟨h1, h2, h3, h4, h5⟩ := h
  have hD : DMo S 0 vt a Y → DMo S 0 (vt ||| 2 ^ c0) a Y := fun z => z.of (fun c hc _ k3 k4 k5 => ⟨k3, by
    rw [bit_or, k4, Bool.false_or]
    exact decide_eq_false (fun e => k5 (e ▸ hY)), k5⟩)
  refine ⟨⟨h1.1, fun c z => ?_, h1.2.2⟩, ⟨fun z => by omega, fun _ => hn, fun z => by omega⟩, fun c hc hS => ?_, h4, fun z => hD (h5 z)⟩
  · rw [bit_or, Bool.or_eq_true, decide_eq_true_iff] at z
    rcases z with z | z
    · exact h1.2.1 c z
    · exact z ▸ hS0
  · obtain ⟨q1, q2, q3, q4, q5, q6⟩ := h3 c hc hS
    refine ⟨q1, q2, fun z => ?_, fun z => hD (q4 z), q5, q6⟩
    rw [bit_or, Bool.or_eq_true, decide_eq_true_iff] at z
    rcases z with z | z
    · exact q3 z
    · subst z; exact q5 hY
/-- the last YES comes -/
theorem DOK.yesAll (h : DOK S 0 vt rc a Y PO TE RE) (hY : Y c0) (hS0 : S.testBit c0 = true) (he : vt ||| 2 ^ c0 = S) : DOK S 1 (vt ||| 2 ^ c0) rc a Y PO' TE RE := by
  obtain ⟨h1, h2, h3, h4, h5⟩ := h
  have hD : ¬ DMo S 0 vt a Y := fun z => by
    rcases z with z | ⟨c, k1, k2, k3, k4, k5⟩
    · omega
    · rw [← he, bit_or, k4, Bool.false_or, decide_eq_true_iff] at k2
      exact k5 (k2 ▸ hY)
  refine ⟨⟨h1.1, fun c z => he ▸ z, h1.2.2⟩, ⟨fun _ => he, fun z => by omega, fun z => by omega⟩, fun c hc hS => ?_, fun _ => Or.inl rfl, fun z => absurd (h5 z) hD⟩
  obtain ⟨q1, q2, q3, q4, q5, q6⟩ := h3 c hc hS
  refine ⟨fun _ => Or.inl rfl, q2, fun z => ?_, fun z => absurd (q4 z) hD, q5, q6⟩
  rw [bit_or, Bool.or_eq_true, decide_eq_true_iff] at z
  rcases z with z | z
  · exact q3 z
  · subst z; exact q5 hY
/-- the deal is torn -/
theorem DOK.torn (h : DOK S 0 vt rc a Y PO TE RE) : DOK S 2 vt rc a Y PO TE' RE := by
  obtain ⟨h1, h2, h3, h4, h5⟩ := h
  refine ⟨h1, ⟨fun z => by omega, fun z => by omega, fun z => by omega⟩, fun c hc hS => ?_, fun z => absurd (h4 z) (by omega), fun _ => Or.inl rfl⟩
  obtain ⟨q1, q2, q3, q4, q5, q6⟩ := h3 c hc hS
  exact ⟨fun z => absurd (q1 z) (by omega), q2, q3, fun _ => Or.inl rfl, q5, q6⟩
/-- a receipt comes -/
theorem DOK.got (h : DOK S 1 vt rc a Y PO TE RE) (ha : a c0 = 2) (hS0 : S.testBit c0 = true) {st' : Nat} (hst : st' = if rc ||| 2 ^ c0 = S then 3 else 1) : DOK S st' vt (rc ||| 2 ^ c0) a Y PO TE RE := by
  obtain ⟨h1, h2, h3, h4, h5⟩ := h
  have hs : st' = 1 ∨ st' = 3 := by rw [hst]; split <;> omega
  have hD : DMo S 1 vt a Y → DMo S st' vt a Y := fun z => by
    rcases z with z | z
    · omega
    · exact Or.inr z
  refine ⟨⟨h1.1, h1.2.1, fun c z => ?_⟩, ⟨fun _ => h2.1 (Or.inl rfl), fun z => by omega, fun z => ?_⟩, fun c hc hS => ?_, fun _ => hs, fun z => hD (h5 z)⟩
  · rw [bit_or, Bool.or_eq_true, decide_eq_true_iff] at z
    rcases z with z | z
    · exact h1.2.2 c z
    · exact z ▸ hS0
  · by_cases q : rc ||| 2 ^ c0 = S
    · exact q
    · rw [if_neg q] at hst; omega
  · obtain ⟨q1, q2, q3, q4, q5, q6⟩ := h3 c hc hS
    refine ⟨fun _ => hs, fun z => ?_, q3, fun z => hD (q4 z), q5, q6⟩
    rw [bit_or, Bool.or_eq_true, decide_eq_true_iff] at z
    rcases z with z | z
    · exact q2 z
    · subst z; exact ha
/-- the go-between forgets the receipts -/
theorem DOK.fgt (h : DOK S 1 vt rc a Y PO TE RE) : DOK S 1 vt 0 a Y PO TE RE := by
  obtain ⟨h1, h2, h3, h4, h5⟩ := h
  refine ⟨⟨h1.1, h1.2.1, fun c z => ?_⟩, ⟨h2.1, h2.2.1, fun z => by omega⟩, fun c hc hS => ?_, h4, h5⟩
  · rw [Nat.zero_testBit] at z; cases z
  · obtain ⟨q1, q2, q3, q4, q5, q6⟩ := h3 c hc hS
    exact ⟨q1, fun z => (by rw [Nat.zero_testBit] at z; cases z), q3, q4, q5, q6⟩
end VIP
def DK (N : NS) (d : Nat) : Prop := DOK (N (30 + 14 * d + 0)) (N (30 + 14 * d + 1)) (N (30 + 14 * d + 4)) (N (30 + 14 * d + 5)) (fun c => N (30 + 14 * d + (6 + c))) (Yf N d) (POf N d) (TEf N d) (REf N d)
def DMN (N : NS) (d : Nat) : Prop := DMo (N (30 + 14 * d + 0)) (N (30 + 14 * d + 1)) (N (30 + 14 * d + 4)) (fun c => N (30 + 14 * d + (6 + c))) (Yf N d)
def VI (N : NS) : Prop := (∀ d, d < N 5 → DK N d) ∧ ∀ d, N 5 ≤ d → d < 8 → N (30 + 14 * d + 1) = 0 ∧ N (30 + 14 * d + 4) = 0 ∧ N (30 + 14 * d + 5) = 0
def fsub (M N : NS) : Prop := ∀ Q, flg M Q → flg N Q
theorem fsub.rf {N : NS} : fsub N N := fun _ h => h
theorem fsub.tr {N M K : NS} (h : fsub K M) (g : fsub M N) : fsub K N := fun Q z => g Q (h Q z)
theorem fsub.cg {N M : NS} (h6 : M 6 = N 6) (hm : ∀ j, 150 ≤ j → M j = N j) : fsub M N := fun Q ⟨p, hp, h⟩ => ⟨p, h6 ▸ hp, by rw [hm _ (by omega), hm _ (by omega), hm _ (by omega)] at h; exact h⟩
theorem fsub.un {N M : NS} (h : fsub M N) {k v : Nat} (hk : k ≠ 6) (hk2 : k < 150) : fsub (un M k v) N := (fsub.cg (un_n (by omega)) (fun j hj => un_n (by omega))).tr h
theorem fsub.drp {N : NS} {p : Nat} (hp : p < N 6) : fsub (mDrop p N) N := fun Q ⟨q, hq, h⟩ => by
  rw [mDrop_6] at hq
  rw [mDrop_m hq (by decide), mDrop_m hq (by decide), mDrop_m hq (by decide)] at h
  refine ⟨if q < p then q else q + 1, ?_, h⟩
  split <;> omega
theorem fsub.tto {N M : NS} (h : fsub M N) {t : Nat} (ht : t < 5) : fsub (mTo t M) N := (h.un (by omega) (by omega)).un (by omega) (by omega)
theorem fsub.twi {N : NS} {p : Nat} (hp : p < N 6) : fsub (mTwi p N) N := fun Q ⟨q, hq, h⟩ => by
  unfold mTwi at hq h
  rw [un_s] at hq
  rw [un_n (by omega), un_n (by omega), un_n (by omega)] at h
  by_cases e : q = N 6
  · subst e
    refine ⟨p, hp, ?_⟩
    unfold mTw at h
    rw [if_pos (by omega), if_pos (by omega), if_pos (by omega)] at h
    rw [show 150 + 4 * N 6 + 0 - (150 + 4 * N 6) = 0 by omega, show 150 + 4 * N 6 + 1 - (150 + 4 * N 6) = 1 by omega, show 150 + 4 * N 6 + 2 - (150 + 4 * N 6) = 2 by omega] at h
    exact h
  · refine ⟨q, by omega, ?_⟩
    rw [mTw_l (by omega), mTw_l (by omega), mTw_l (by omega)] at h
    exact h
/-- messages of one kind, deal and sender may have come to those of N -/
def fput (k d f : Nat) (M N : NS) : Prop := ∀ Q, flg M Q → flg N Q ∨ Q k d f
theorem fput.rf {k d f : Nat} {M N : NS} (h : fsub M N) : fput k d f M N := fun Q z => Or.inl (h Q z)
theorem mSend_s0 {k d f t : Nat} {N : NS} (h : ¬ N 6 = 60) : mSend k d f t N (150 + 4 * N 6 + 0) = k := by
  unfold mSend
  rw [if_neg h, un_n (by omega), un_n (by omega), un_n (by omega), un_n (by omega)]
  exact un_s
theorem mSend_s1 {k d f t : Nat} {N : NS} (h : ¬ N 6 = 60) : mSend k d f t N (150 + 4 * N 6 + 1) = d := by
  unfold mSend
  rw [if_neg h, un_n (by omega), un_n (by omega), un_n (by omega)]
  exact un_s
theorem mSend_s2 {k d f t : Nat} {N : NS} (h : ¬ N 6 = 60) : mSend k d f t N (150 + 4 * N 6 + 2) = f := by
  unfold mSend
  rw [if_neg h, un_n (by omega), un_n (by omega)]
  exact un_s
theorem mSend_s3 {k d f t : Nat} {N : NS} (h : ¬ N 6 = 60) : mSend k d f t N (150 + 4 * N 6 + 3) = t := by
  unfold mSend
  rw [if_neg h, un_n (by omega)]
  exact un_s
theorem mSend_old {k d f t j : Nat} {N : NS} (hf : f < 5) (h1 : 150 ≤ j) (h2 : j < 150 + 4 * N 6) : mSend k d f t N j = N j := by
  unfold mSend
  split
  · rw [un_n (by omega), un_n (by omega)]
  · rw [un_n (by omega), un_n (by omega), un_n (by omega), un_n (by omega), un_n (by omega), un_n (by omega)]
theorem mSend_n6 {k d f t : Nat} {N : NS} (hf : f < 5) : mSend k d f t N 6 = if N 6 = 60 then N 6 else N 6 + 1 := by
  unfold mSend
  split
  · rw [un_n (by omega), un_n (by omega)]
  · rw [un_s]
theorem fput.snd {k d f t : Nat} {M N : NS} (h : fput k d f M N) (hf : f < 5) : fput k d f (mSend k d f t M) N := fun Q ⟨p, hp, z⟩ => by
  rw [mSend_n6 hf] at hp
  by_cases e : M 6 = 60
  · rw [if_pos e] at hp
    rw [mSend_old hf (by omega) (by omega), mSend_old hf (by omega) (by omega), mSend_old hf (by omega) (by omega)] at z
    exact h Q ⟨p, hp, z⟩
  · rw [if_neg e] at hp
    by_cases q : p = M 6
    · subst q
      rw [mSend_s0 e, mSend_s1 e, mSend_s2 e] at z
      exact Or.inr z
    · rw [mSend_old hf (by omega) (by omega), mSend_old hf (by omega) (by omega), mSend_old hf (by omega) (by omega)] at z
      exact h Q ⟨p, by omega, z⟩
theorem fput.sal {k d f S : Nat} {M N : NS} (h : fput k d f M N) (hf : f < 5) : ∀ n, fput k d f (sa k d f S n M) N
  | 0 => h
  | n + 1 => by
    rw [sa]
    split
    · exact (fput.sal h hf n).snd hf
    · exact fput.sal h hf n
/-- what the deals say is told alike -/
def fe (M N : NS) : Prop := M 5 = N 5 ∧ ∀ d k, d < 8 → k < 10 → k ≠ 2 → k ≠ 3 → M (30 + 14 * d + k) = N (30 + 14 * d + k)
theorem fe.rf {N : NS} : fe N N := ⟨rfl, fun _ _ _ _ _ _ => rfl⟩
theorem fe.tr {N M K : NS} (h : fe K M) (g : fe M N) : fe K N := ⟨h.1.trans g.1, fun d k a b c e => (h.2 d k a b c e).trans (g.2 d k a b c e)⟩
theorem fe.un {M N : NS} (h : fe M N) {j v : Nat} (h5 : j ≠ 5) (hj : j < 30 ∨ 142 ≤ j ∨ ∃ d k, j = 30 + 14 * d + k ∧ (k = 2 ∨ k = 3 ∨ 10 ≤ k) ∧ k < 14) : fe (un M j v) N := ⟨by rw [un_n (by omega)]; exact h.1, fun d k hd hk k2 k3 => by
  rw [un_n (by rcases hj with z | z | ⟨e, i, z, z2, z3⟩ <;> omega)]
  exact h.2 d k hd hk k2 k3⟩
theorem fe.lo {M N : NS} (h5 : M 5 = N 5) (h : ∀ j, 30 ≤ j → j < 150 → M j = N j) : fe M N := ⟨h5, fun d k hd hk _ _ => h _ (by omega) (by omega)⟩
theorem fe.snd {M N : NS} (h : fe M N) {k d f t : Nat} (hf : f < 5) (h6 : M 6 ≤ 60) : fe (mSend k d f t M) N := (fe.lo (mSend_n hf h6 (by decide) (by decide) (by omega)) (fun j h1 h2 => mSend_n hf h6 (by omega) (by omega) (by omega))).tr h
theorem fe.sal {M N : NS} (h : fe M N) {k d f S : Nat} (hf : f < 5) (h6 : M 6 ≤ 60) (n : Nat) : fe (sa k d f S n M) N := (fe.lo (sa_n hf h6 (by decide) (by decide) (by omega) n) (fun j h1 h2 => sa_n hf h6 (by omega) (by omega) (by omega) n)).tr h
theorem fe.drp {N : NS} {p : Nat} : fe (mDrop p N) N := fe.lo (mDrop_n (by decide) (by decide)) (fun j h1 h2 => mDrop_n (by omega) h2)
theorem fe.tto {M N : NS} (h : fe M N) {t : Nat} (ht : t < 5) : fe (mTo t M) N := (h.un (by omega) (by omega)).un (by omega) (by omega)
theorem DK.via {M N : NS} {d : Nat} (h : DK N d) (g : fe M N) (hd : d < 8) (hq : fsub M N) : DK M d := by
  unfold DK at h ⊢
  rw [g.2 d 0 hd (by decide) (by decide) (by decide), g.2 d 1 hd (by decide) (by decide) (by decide), g.2 d 4 hd (by decide) (by decide) (by decide), g.2 d 5 hd (by decide) (by decide) (by decide)]
  exact h.add (fun c hc => g.2 d (6 + c) hd (by omega) (by omega) (by omega)) (fun c _ z => Or.inl (hq _ z)) (fun z => Or.inl (hq _ z)) (fun z => Or.inl (hq _ z)) (fun c _ z => Or.inl (hq _ z))
theorem VI.via {M N : NS} (h : VI N) (h8 : N 5 ≤ 8) (g : fe M N) (hq : fsub M N) : VI M :=
  ⟨fun d hd => (h.1 d (by rw [← g.1]; exact hd)).via g (by have := g.1; omega) hq, fun d h1 h2 => by
    rw [g.2 d 1 h2 (by decide) (by decide) (by decide), g.2 d 4 h2 (by decide) (by decide) (by decide), g.2 d 5 h2 (by decide) (by decide) (by decide)]
    exact h.2 d (by rw [← g.1]; exact h1) h2⟩
/-- what may be sent -/
def mayS (N : NS) (k d f : Nat) : Prop := (k = 1 → N (30 + 14 * d + (6 + f)) = 1) ∧ (k = 3 → N (30 + 14 * d + 1) = 1 ∨ N (30 + 14 * d + 1) = 3) ∧ (k = 4 → DMN N d) ∧ (k = 5 → N (30 + 14 * d + (6 + f)) = 2)
theorem VI.put {M N : NS} (h : VI N) (h8 : N 5 ≤ 8) (g : fe M N) {k d f : Nat} (hq : fput k d f M N) (hm : mayS N k d f) : VI M := by
  refine ⟨fun e he => ?_, fun e h1 h2 => ?_⟩
  · have he8 : e < 8 := by have := g.1; omega
    have hN := h.1 e (by rw [← g.1]; exact he)
    unfold DK at hN ⊢
    rw [g.2 e 0 he8 (by decide) (by decide) (by decide), g.2 e 1 he8 (by decide) (by decide) (by decide), g.2 e 4 he8 (by decide) (by decide) (by decide), g.2 e 5 he8 (by decide) (by decide) (by decide)]
    refine hN.add (fun c hc => g.2 e (6 + c) he8 (by omega) (by omega) (by omega)) (fun c _ z => ?_) (fun z => ?_) (fun z => ?_) (fun c _ z => ?_)
    · rcases hq _ z with y | ⟨rfl, rfl, rfl⟩
      · exact Or.inl y
      · exact Or.inr (hm.1 rfl)
    · rcases hq _ z with y | ⟨rfl, rfl⟩
      · exact Or.inl y
      · exact Or.inr (hm.2.1 rfl)
    · rcases hq _ z with y | ⟨rfl, rfl⟩
      · exact Or.inl y
      · exact Or.inr (hm.2.2.1 rfl)
    · rcases hq _ z with y | ⟨rfl, rfl, rfl⟩
      · exact Or.inl y
      · exact Or.inr (hm.2.2.2 rfl)
  · rw [g.2 e 1 h2 (by decide) (by decide) (by decide), g.2 e 4 h2 (by decide) (by decide) (by decide), g.2 e 5 h2 (by decide) (by decide) (by decide)]
    exact h.2 e (by rw [← g.1]; exact h1) h2
/-- one deal changes -/
def feo (d0 : Nat) (M N : NS) : Prop := M 5 = N 5 ∧ ∀ d k, d < 8 → d ≠ d0 → k < 10 → k ≠ 2 → k ≠ 3 → M (30 + 14 * d + k) = N (30 + 14 * d + k)
theorem feo.of {d0 : Nat} {M N : NS} (h : fe M N) : feo d0 M N := ⟨h.1, fun d k a _ b c e => h.2 d k a b c e⟩
theorem feo.un {d0 k0 v : Nat} {M N : NS} (h : feo d0 M N) (hk : k0 < 14) : feo d0 (un M (30 + 14 * d0 + k0) v) N := ⟨by rw [un_n (by omega)]; exact h.1, fun d k hd hne hk k2 k3 => by rw [un_n (by omega)]; exact h.2 d k hd hne hk k2 k3⟩
theorem feo.tr {d0 : Nat} {N M K : NS} (h : feo d0 K M) (g : feo d0 M N) : feo d0 K N := ⟨h.1.trans g.1, fun d k a b c e f => (h.2 d k a b c e f).trans (g.2 d k a b c e f)⟩
theorem VI.one {M N : NS} (h : VI N) (h8 : N 5 ≤ 8) {d0 : Nat} (hd0 : d0 < N 5) (g : feo d0 M N) (hq : fsub M N) (hD : DK M d0) : VI M := by
  refine ⟨fun e he => ?_, fun e h1 h2 => ?_⟩
  · have he8 : e < 8 := by have := g.1; omega
    by_cases q : e = d0
    · rw [q]; exact hD
    · have hN := h.1 e (by rw [← g.1]; exact he)
      unfold DK at hN ⊢
      rw [g.2 e 0 he8 q (by decide) (by decide) (by decide), g.2 e 1 he8 q (by decide) (by decide) (by decide), g.2 e 4 he8 q (by decide) (by decide) (by decide), g.2 e 5 he8 q (by decide) (by decide) (by decide)]
      exact hN.add (fun c hc => g.2 e (6 + c) he8 q (by omega) (by omega) (by omega)) (fun c _ z => Or.inl (hq _ z)) (fun z => Or.inl (hq _ z)) (fun z => Or.inl (hq _ z)) (fun c _ z => Or.inl (hq _ z))
  · have q : e ≠ d0 := by have := g.1; omega
    rw [g.2 e 1 h2 q (by decide) (by decide) (by decide), g.2 e 4 h2 q (by decide) (by decide) (by decide), g.2 e 5 h2 q (by decide) (by decide) (by decide)]
    exact h.2 e (by rw [← g.1]; exact h1) h2

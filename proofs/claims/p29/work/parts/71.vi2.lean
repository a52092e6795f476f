/-! ===== pure: VI through the acts ===== -/
theorem DK.mk {M N : NS} {d S st vt rc : Nat} {a : Nat → Nat} (q : fsub M N) (h : DOK S st vt rc a (Yf N d) (POf N d) (TEf N d) (REf N d)) (e0 : M (30 + 14 * d + 0) = S) (e1 : M (30 + 14 * d + 1) = st) (e4 : M (30 + 14 * d + 4) = vt) (e5 : M (30 + 14 * d + 5) = rc) (ea : ∀ c, c < 4 → M (30 + 14 * d + (6 + c)) = a c) : DK M d := by
  unfold DK
  rw [e0, e1, e4, e5]
  exact h.add ea (fun c _ z => Or.inl (q _ z)) (fun z => Or.inl (q _ z)) (fun z => Or.inl (q _ z)) (fun c _ z => Or.inl (q _ z))
def DKx (N N0 : NS) (d : Nat) : Prop := DOK (N (30 + 14 * d + 0)) (N (30 + 14 * d + 1)) (N (30 + 14 * d + 4)) (N (30 + 14 * d + 5)) (fun c => N (30 + 14 * d + (6 + c))) (Yf N0 d) (POf N0 d) (TEf N0 d) (REf N0 d)
theorem DK.x {N N0 : NS} {d : Nat} (h : DK N0 d) (g : fe N N0) (hd : d < 8) : DKx N N0 d := by
  unfold DKx
  rw [g.2 d 0 hd (by decide) (by decide) (by decide), g.2 d 1 hd (by decide) (by decide) (by decide), g.2 d 4 hd (by decide) (by decide) (by decide), g.2 d 5 hd (by decide) (by decide) (by decide)]
  exact h.add (fun c hc => g.2 d (6 + c) hd (by omega) (by omega) (by omega)) (fun c _ z => Or.inl z) (fun z => Or.inl z) (fun z => Or.inl z) (fun c _ z => Or.inl z)
theorem mayS.other {N : NS} {k d f : Nat} (h : k ≠ 1 ∧ k ≠ 3 ∧ k ≠ 4 ∧ k ≠ 5) : mayS N k d f := ⟨fun z => absurd z h.1, fun z => absurd z h.2.1, fun z => absurd z h.2.2.1, fun z => absurd z h.2.2.2⟩
theorem mayS.k1 {N : NS} {d f : Nat} (h : N (30 + 14 * d + (6 + f)) = 1) : mayS N 1 d f := ⟨fun _ => h, fun z => by omega, fun z => by omega, fun z => by omega⟩
theorem mayS.k3 {N : NS} {d f : Nat} (h : N (30 + 14 * d + 1) = 1 ∨ N (30 + 14 * d + 1) = 3) : mayS N 3 d f := ⟨fun z => by omega, fun _ => h, fun z => by omega, fun z => by omega⟩
theorem mayS.k4 {N : NS} {d f : Nat} (h : DMN N d) : mayS N 4 d f := ⟨fun z => by omega, fun z => by omega, fun _ => h, fun z => by omega⟩
theorem mayS.k5 {N : NS} {d f : Nat} (h : N (30 + 14 * d + (6 + f)) = 2) : mayS N 5 d f := ⟨fun z => by omega, fun z => by omega, fun z => by omega, fun _ => h⟩
theorem VI.snd {N : NS} (h : VI N) (hF : FI N) {k d f t : Nat} (hf : f < 5) (hm : mayS N k d f) : VI (mSend k d f t N) := h.put hF.2.1 (fe.rf.snd hf hF.1) ((fput.rf fsub.rf).snd hf) hm
theorem VI.sal {N : NS} (h : VI N) (hF : FI N) {k d f S : Nat} (hf : f < 5) (hm : mayS N k d f) (n : Nat) : VI (sa k d f S n N) := h.put hF.2.1 (fe.rf.sal hf hF.1 n) ((fput.rf fsub.rf).sal hf n) hm
theorem VI.ans {N : NS} (h : VI N) (hF : FI N) {d c : Nat} : VI (mAns d c N) := by
  unfold mAns
  split
  · exact h.snd hF (by decide) (mayS.k3 (by assumption))
  · split
    · exact h.snd hF (by decide) (mayS.k4 (Or.inl (by assumption)))
    · exact h
theorem VI.ask {N : NS} (h : VI N) (hF : FI N) {d c : Nat} (hd : d < N 5) (hc : c < 4) (hb : (N (30 + 14 * d + 0)).testBit c = true) : VI (mAsk d c N) := by
  have h8 := hF.2.1
  unfold mAsk
  split
  · have z : N (30 + 14 * d + (6 + c)) = 0 := by assumption
    split
    · refine VI.snd (h.one h8 hd (((feo.of fe.rf).un (by omega)).un (by omega)) ((fsub.rf.un (by omega) (by omega)).un (by omega) (by omega)) (DK.mk ((fsub.rf.un (by omega) (by omega)).un (by omega) (by omega)) ((h.1 d hd).at1 (a' := fun x => if x = c then 1 else N (30 + 14 * d + (6 + x))) z hc hb (if_pos rfl) (fun x _ e => if_neg e)) ?_ ?_ ?_ ?_ (fun x hx => ?_))) ?_ (by omega) (mayS.k1 un_s)
      · rw [un_n (by omega), un_n (by omega)]
      · rw [un_n (by omega), un_n (by omega)]
      · rw [un_n (by omega), un_n (by omega)]
      · rw [un_n (by omega), un_n (by omega)]
      · by_cases e : x = c
        · subst e; rw [un_s, if_pos rfl]
        · rw [un_n (by omega), un_n (by omega), if_neg e]
      · exact FI.ud (hF.ud (by omega) (by omega) (fun q => absurd q (by omega))) (by omega) (by omega) (fun _ _ _ => by rw [if_pos (by omega)]; decide)
    · refine VI.snd (h.one h8 hd ((feo.of fe.rf).un (by omega)) (fsub.rf.un (by omega) (by omega)) (DK.mk (fsub.rf.un (by omega) (by omega)) ((h.1 d hd).at30 (TE' := TEf N d) (a' := fun x => if x = c then 3 else N (30 + 14 * d + (6 + x))) z hc hb (if_pos rfl) (fun x _ e => if_neg e)) (un_n (by omega)) (un_n (by omega)) (un_n (by omega)) (un_n (by omega)) (fun x hx => ?_))) ?_ (by omega) (mayS.other (by decide))
      · by_cases e : x = c
        · subst e; rw [un_s, if_pos rfl]
        · rw [un_n (by omega), if_neg e]
      · exact hF.ud (by omega) (by omega) (fun _ _ _ => by rw [if_pos (by omega)]; decide)
  · split
    · exact h
    · split
      · exact h.snd hF (by omega) (mayS.k1 (by assumption))
      · exact h.snd hF (by omega) (mayS.other (by decide))
theorem VI.posts {N : NS} (h : VI N) (hF : FI N) {d c : Nat} (hd : d < N 5) (hc : c < 4) (hst : N (30 + 14 * d + 1) = 1 ∨ N (30 + 14 * d + 1) = 3) : VI (mPosts d c N) := by
  have h8 := hF.2.1
  unfold mPosts
  split
  · have z : N (30 + 14 * d + (6 + c)) = 1 := by assumption
    refine VI.snd (h.one h8 hd ((feo.of fe.rf).un (by omega)) (fsub.rf.un (by omega) (by omega)) (DK.mk (fsub.rf.un (by omega) (by omega)) ((h.1 d hd).at2 (c0 := c) (a' := fun x => if x = c then 2 else N (30 + 14 * d + (6 + x))) z hst (if_pos rfl) (fun x _ e => if_neg e)) (un_n (by omega)) (un_n (by omega)) (un_n (by omega)) (un_n (by omega)) (fun x hx => ?_))) ?_ (by omega) (mayS.k5 un_s)
    · by_cases e : x = c
      · subst e; rw [un_s, if_pos rfl]
      · rw [un_n (by omega), if_neg e]
    · exact hF.ud (by omega) (by omega) (fun _ _ _ => by rw [if_pos (by omega)]; decide)
  · split
    · exact h.snd hF (by omega) (mayS.k5 (by assumption))
    · exact h
theorem VI.tears {N : NS} (h : VI N) (hF : FI N) {d c : Nat} (hd : d < N 5) (hc : c < 4) (hT : DMN N d) : VI (mTears d c N) := by
  have h8 := hF.2.1
  unfold mTears
  split
  · have z : N (30 + 14 * d + (6 + c)) = 0 ∨ N (30 + 14 * d + (6 + c)) = 1 := by assumption
    refine h.one h8 hd ((feo.of fe.rf).un (by omega)) (fsub.rf.un (by omega) (by omega)) (DK.mk (fsub.rf.un (by omega) (by omega)) ((h.1 d hd).at3 (c0 := c) (a' := fun x => if x = c then 3 else N (30 + 14 * d + (6 + x))) z hT (if_pos rfl) (fun x _ e => if_neg e)) (un_n (by omega)) (un_n (by omega)) (un_n (by omega)) (un_n (by omega)) (fun x hx => ?_))
    by_cases e : x = c
    · subst e; rw [un_s, if_pos rfl]
    · rw [un_n (by omega), if_neg e]
  · exact h
theorem VI.at3 {N : NS} (h : VI N) {d c : Nat} (hd : d < N 5) (hc : c < 4) (hb : (N (30 + 14 * d + 0)).testBit c = true) (h3 : N (30 + 14 * d + (6 + c)) = 3) : DMN N d := ((h.1 d hd).2.2.1 c hc hb).2.2.2.1 h3
theorem VI.at2 {N : NS} (h : VI N) {d c : Nat} (hd : d < N 5) (hc : c < 4) (hb : (N (30 + 14 * d + 0)).testBit c = true) (h2 : N (30 + 14 * d + (6 + c)) = 2) : N (30 + 14 * d + 1) = 1 ∨ N (30 + 14 * d + 1) = 3 := ((h.1 d hd).2.2.1 c hc hb).1 h2
/-- a NEW clerk is TORN -/
theorem VI.new3 {N : NS} (h : VI N) (hF : FI N) {d c : Nat} (hd : d < N 5) (hc : c < 4) (hb : (N (30 + 14 * d + 0)).testBit c = true) (z : N (30 + 14 * d + (6 + c)) = 0) : VI (un N (30 + 14 * d + (6 + c)) 3) := by
  have h8 := hF.2.1
  refine h.one h8 hd ((feo.of fe.rf).un (by omega)) (fsub.rf.un (by omega) (by omega)) (DK.mk (fsub.rf.un (by omega) (by omega)) ((h.1 d hd).at30 (TE' := TEf N d) (a' := fun x => if x = c then 3 else N (30 + 14 * d + (6 + x))) z hc hb (if_pos rfl) (fun x _ e => if_neg e)) (un_n (by omega)) (un_n (by omega)) (un_n (by omega)) (un_n (by omega)) (fun x hx => ?_))
  by_cases e : x = c
  · subst e; rw [un_s, if_pos rfl]
  · rw [un_n (by omega), if_neg e]
theorem VI.what {N : NS} (h : VI N) (hF : FI N) {d c f : Nat} (hd : d < N 5) (hc : c < 4) (hb : (N (30 + 14 * d + 0)).testBit c = true) : VI (mWhatC d c f N) := by
  have h8 := hF.2.1
  unfold mWhatC
  split
  · have z : N (30 + 14 * d + (6 + c)) = 0 := by assumption
    have hM := h.new3 hF hd hc hb z
    refine hM.snd (hF.ud (by omega) (by omega) (fun _ _ _ => by rw [if_pos (by omega)]; decide)) (by omega) (mayS.k4 (hM.at3 (c := c) (by rw [un_n (by omega)]; exact hd) hc (by rw [un_n (by omega)]; exact hb) un_s))
  · split
    · exact h.snd hF (by omega) (mayS.k3 (h.at2 hd hc hb (by assumption)))
    · split
      · exact h.snd hF (by omega) (mayS.k4 (h.at3 hd hc hb (by assumption)))
      · exact h
theorem VI.ter {N : NS} (h : VI N) (hF : FI N) {d S : Nat} (hd : d < N 5) (h0 : N (30 + 14 * d + 1) = 0) : VI (mTear d S N) := by
  have h8 := hF.2.1
  unfold mTear
  have hD := h.1 d hd
  unfold DK at hD
  rw [h0] at hD
  have hM : VI (un N (30 + 14 * d + 1) 2) := h.one h8 hd ((feo.of fe.rf).un (by omega)) (fsub.rf.un (by omega) (by omega)) (DK.mk (fsub.rf.un (by omega) (by omega)) (hD.torn (TE' := TEf N d)) (un_n (by omega)) un_s (un_n (by omega)) (un_n (by omega)) (fun x hx => un_n (by omega)))
  exact hM.sal (hF.ud (by omega) (by decide) (by decide)) (by decide) (mayS.k4 (Or.inl un_s)) 4
theorem VI.yes {N N0 : NS} (h0 : VI N0) (hF : FI N) (g : fe N N0) (q : fsub N N0) {d c : Nat} (hd : d < N 5) (hc : c < 4) (hY : Yf N0 d c) (hb : (N (30 + 14 * d + 0)).testBit c = true) : VI (mYes d c N) := by
  have h8 := hF.2.1
  have h80 : N0 5 ≤ 8 := by rw [← g.1]; exact h8
  have hd0 : d < N0 5 := by rw [← g.1]; exact hd
  have g4 := or_lt16 _ (hF.f4 (d := d) (by omega)) c hc
  unfold mYes
  split
  · have hD := (h0.1 d hd0).x g (by omega)
    unfold DKx at hD
    have hz : N (30 + 14 * d + 1) = 0 := by assumption
    rw [hz] at hD
    split
    · have he : N (30 + 14 * d + 4) ||| 2 ^ c = N (30 + 14 * d + 0) := by assumption
      have hq : fsub (un (un (un N (30 + 14 * d + 4) (N (30 + 14 * d + 4) ||| 2 ^ c)) (30 + 14 * d + 1) 1) (30 + 14 * d + 3) (N 4)) N0 := ((q.un (by omega) (by omega)).un (by omega) (by omega)).un (by omega) (by omega)
      have hM : VI (un (un (un N (30 + 14 * d + 4) (N (30 + 14 * d + 4) ||| 2 ^ c)) (30 + 14 * d + 1) 1) (30 + 14 * d + 3) (N 4)) := by
        refine h0.one h80 hd0 ((((feo.of g).un (by omega)).un (by omega)).un (by omega)) hq (DK.mk hq (hD.yesAll (PO' := POf N0 d) hY hb he) ?_ ?_ ?_ ?_ (fun x hx => ?_))
        · rw [un_n (by omega), un_n (by omega), un_n (by omega)]
        · rw [un_n (by omega), un_s]
        · rw [un_n (by omega), un_n (by omega), un_s]
        · rw [un_n (by omega), un_n (by omega), un_n (by omega)]
        · rw [un_n (by omega), un_n (by omega), un_n (by omega)]
      exact hM.sal (((hF.ud (by omega) (by decide) (fun _ _ _ => by rw [if_neg (by decide)]; omega)).ud (by omega) (by decide) (by decide)).ud (by omega) (by decide) (fun _ _ q => absurd rfl q)) (by decide) (mayS.k3 (Or.inl (by rw [un_n (by omega), un_s]))) 4
    · have hn : ¬ N (30 + 14 * d + 4) ||| 2 ^ c = N (30 + 14 * d + 0) := by assumption
      have hq : fsub (un N (30 + 14 * d + 4) (N (30 + 14 * d + 4) ||| 2 ^ c)) N0 := q.un (by omega) (by omega)
      exact h0.one h80 hd0 ((feo.of g).un (by omega)) hq (DK.mk hq (hD.yes hY hb hn) (un_n (by omega)) ((un_n (by omega)).trans hz) un_s (un_n (by omega)) (fun x hx => un_n (by omega)))
  · exact (h0.via h80 g q).ans hF
theorem VI.no {N : NS} (h : VI N) (hF : FI N) {d c : Nat} (hd : d < N 5) : VI (mNo d c N) := by
  unfold mNo
  split
  · exact h.ter hF hd (by assumption)
  · exact h
theorem VI.got {N : NS} (h : VI N) (hF : FI N) {d c : Nat} (hd : d < N 5) (hb : (N (30 + 14 * d + 0)).testBit c = true) (ha : N (30 + 14 * d + (6 + c)) = 2) : VI (mGot d c N) := by
  have h8 := hF.2.1
  unfold mGot
  split
  · have hz : N (30 + 14 * d + 1) = 1 := by assumption
    have hD := h.1 d hd
    unfold DK at hD
    rw [hz] at hD
    have hq : fsub (un (un N (30 + 14 * d + 5) (N (30 + 14 * d + 5) ||| 2 ^ c)) (30 + 14 * d + 1) (if N (30 + 14 * d + 5) ||| 2 ^ c = N (30 + 14 * d + 0) then 3 else 1)) N := (fsub.rf.un (by omega) (by omega)).un (by omega) (by omega)
    refine h.one h8 hd (((feo.of fe.rf).un (by omega)).un (by omega)) hq (DK.mk hq (hD.got (c0 := c) ha hb rfl) ?_ ?_ ?_ ?_ (fun x hx => ?_))
    · rw [un_n (by omega), un_n (by omega)]
    · rw [un_s]
    · rw [un_n (by omega), un_n (by omega)]
    · rw [un_n (by omega), un_s]
    · rw [un_n (by omega), un_n (by omega)]
  · exact h
theorem VI.dlv {N : NS} (hI : Inv N) (h : VI N) {p : Nat} (hp : p < N 6) : VI (mDlv p N) := by
  obtain ⟨hk7, hd, hf5, ht5, htS, hfS, hk4, hk3, hk6⟩ := hI.2.1 p hp
  have h8 := hI.1.2.1
  unfold mDlv
  split
  · exact h.via h8 (fe.drp.un (by omega) (by omega)) ((fsub.drp hp).un (by omega) (by omega))
  · have hIM := (hI.drp hp).tto ht5
    have gM : fe (mTo (N (150 + 4 * p + 3)) (mDrop p N)) N := fe.drp.tto ht5
    have qM : fsub (mTo (N (150 + 4 * p + 3)) (mDrop p N)) N := (fsub.drp hp).tto ht5
    have hM := h.via h8 gM qM
    have h5 := gM.1
    have hd8 : N (150 + 4 * p + 1) < 8 := by omega
    have f0 := gM.2 _ 0 hd8 (by decide) (by decide) (by decide)
    have f1 := gM.2 _ 1 hd8 (by decide) (by decide) (by decide)
    split
    · have ht4 : N (150 + 4 * p + 3) = 4 := by assumption
      have hf4 : N (150 + 4 * p + 2) < 4 := (hI.mk hp).2.2.2.2 ht4
      have hbf : (mTo (N (150 + 4 * p + 3)) (mDrop p N) (30 + 14 * N (150 + 4 * p + 1) + 0)).testBit (N (150 + 4 * p + 2)) = true := by rw [f0]; exact hfS hf4
      unfold mGet
      split
      · exact h.yes hIM.1 gM qM (by rw [h5]; exact hd) hf4 ⟨p, hp, by assumption, rfl, rfl⟩ hbf
      · split
        · exact hM.no hIM.1 (by rw [h5]; exact hd)
        · split
          · refine hM.got hIM.1 (by rw [h5]; exact hd) hbf ?_
            rw [gM.2 _ (6 + _) hd8 (by omega) (by omega) (by omega)]
            exact ((h.1 _ hd).2.2.1 _ hf4 (hfS hf4)).2.2.2.2.2 ⟨p, hp, by assumption, rfl, rfl⟩
          · exact hM.ans hIM.1
    · have ht4 : N (150 + 4 * p + 3) < 4 := by omega
      have hbt : (mTo (N (150 + 4 * p + 3)) (mDrop p N) (30 + 14 * N (150 + 4 * p + 1) + 0)).testBit (N (150 + 4 * p + 3)) = true := by rw [f0]; exact htS ht4
      unfold mGetBy
      split
      · exact hM.ask hIM.1 (by rw [h5]; exact hd) ht4 hbt
      · split
        · refine hM.posts hIM.1 (by rw [h5]; exact hd) ht4 ?_
          rw [f1]
          exact (h.1 _ hd).2.2.2.1 ⟨p, hp, by assumption, rfl⟩
        · split
          · refine hM.tears hIM.1 (by rw [h5]; exact hd) ht4 ?_
            have hT := (h.1 _ hd).2.2.2.2 ⟨p, hp, by assumption, rfl⟩
            unfold DMN
            rw [f0, f1, gM.2 _ 4 hd8 (by decide) (by decide) (by decide)]
            exact hT.of (fun c hc _ k3 k4 k5 => ⟨(gM.2 _ (6 + c) hd8 (by omega) (by omega) (by omega)).trans k3, k4, fun y => k5 (qM _ y)⟩)
          · exact hM.what hIM.1 (by rw [h5]; exact hd) ht4 hbt
theorem VI.los {N : NS} (h : VI N) (h8 : N 5 ≤ 8) {p : Nat} (hp : p < N 6) : VI (mLose p N) := h.via h8 (fe.drp.un (by omega) (by omega)) ((fsub.drp hp).un (by omega) (by omega))
theorem VI.twi {N : NS} (h : VI N) (h8 : N 5 ≤ 8) {p : Nat} (hp : p < N 6) : VI (mTwi p N) := by
  refine h.via h8 ⟨?_, fun d k hd hk _ _ => ?_⟩ (fsub.twi hp)
  · unfold mTwi; rw [un_n (by omega), mTw_l (by omega)]
  · unfold mTwi; rw [un_n (by omega), mTw_l (by omega)]
theorem VI.fgt {N : NS} (hI : Inv N) (h : VI N) {w d : Nat} (hw : w < 5) (hd : d < N 5) : VI (mFgt w d N) := by
  have h8 := hI.1.2.1
  unfold mFgt
  split
  · have hD := h.1 d hd
    unfold DK at hD
    have hq : ∀ x y, fsub (un (un N (30 + 14 * d + 5) x) (30 + 14 * d + 1) y) N := fun x y => (fsub.rf.un (by omega) (by omega)).un (by omega) (by omega)
    have he : ∀ x y, feo d (un (un N (30 + 14 * d + 5) x) (30 + 14 * d + 1) y) N := fun x y => ((feo.of fe.rf).un (by omega)).un (by omega)
    have key : ∀ x y, DOK (N (30 + 14 * d + 0)) y (N (30 + 14 * d + 4)) x (fun c => N (30 + 14 * d + (6 + c))) (Yf N d) (POf N d) (TEf N d) (REf N d) → VI (un (un N (30 + 14 * d + 5) x) (30 + 14 * d + 1) y) := fun x y z => by
      refine h.one h8 hd (he x y) (hq x y) (DK.mk (hq x y) z ?_ ?_ ?_ ?_ (fun c hc => ?_))
      · rw [un_n (by omega), un_n (by omega)]
      · rw [un_s]
      · rw [un_n (by omega), un_n (by omega)]
      · rw [un_n (by omega), un_s]
      · rw [un_n (by omega), un_n (by omega)]
    refine key _ _ ?_
    by_cases h0 : N (30 + 14 * d + 1) = 0
    · rw [if_pos h0, if_neg (show ¬ N (30 + 14 * d + 1) = 1 by omega)]
      rw [h0] at hD
      exact hD.torn
    · by_cases h1 : N (30 + 14 * d + 1) = 1
      · rw [if_pos h1, if_neg h0, h1]
        rw [h1] at hD
        exact hD.fgt
      · rw [if_neg h1, if_neg h0]
        exact hD
  · split
    · have z : N (30 + 14 * d + (6 + w)) = 0 := by assumption
      by_cases hb : (N (30 + 14 * d + 0)).testBit w = true
      · rw [if_pos hb]; exact h.new3 hI.1 hd (by omega) hb z
      · rw [if_neg hb, show un N (30 + 14 * d + (6 + w)) 0 = N from by
          funext j
          unfold un
          split
          · subst j; exact z.symm
          · rfl]
        exact h
    · exact h
theorem fgs_5 {w : Nat} {N : NS} (hw : w < 5) {d : Nat} (hd : d ≤ 8) : fgs w d N 5 = N 5 := fgs_n hw (by omega) d hd
theorem VI.fgs {N : NS} (hI : Inv N) (h : VI N) {w : Nat} (hw : w < 5) : ∀ d, d ≤ N 5 → VI (fgs w d N)
  | 0, _ => h
  | d + 1, hd => by
    have h8 := hI.1.2.1
    exact VI.fgt (hI.fgs hw d (by omega)) (VI.fgs hI h hw d (by omega)) hw (by rw [fgs_5 hw (by omega)]; omega)
theorem VI.fall {N : NS} (hI : Inv N) (h : VI N) {w : Nat} (hw : w < 5) : VI (mFall w N) := by
  have h8 := hI.1.2.1
  have hM : VI (un N (10 + w) 1) := h.via h8 (fe.rf.un (by omega) (by omega)) (fsub.rf.un (by omega) (by omega))
  exact VI.fgs (hI.uw (by omega) (by decide)) hM hw _ (by rw [un_n (by omega)]; exact Nat.le_refl _)
theorem VI.rise {N : NS} (h : VI N) (h8 : N 5 ≤ 8) {w : Nat} (hw : w < 5) : VI (mRise w N) := h.via h8 (fe.rf.un (by omega) (by omega)) (fsub.rf.un (by omega) (by omega))
theorem VI.opn {N : NS} (hI : Inv N) (h : VI N) {S : Nat} (hS : S < 16) (hS0 : S ≠ 0) (h5 : ¬ N 5 = 8) : VI (mOpen S N) := by
  have hF := hI.1
  have h8 := hF.2.1
  have h58 : N 5 < 8 := by omega
  obtain ⟨u1, u4, u5⟩ := h.2 (N 5) (Nat.le_refl _) h58
  have u0 := hI.2.2.2 (N 5) (Nat.le_refl _) h58
  have ua : ∀ c, c < 4 → N (30 + 14 * N 5 + (6 + c)) = 0 := fun c hc => hI.2.2.1 (N 5) c h58 hc (by rw [u0]; exact Nat.zero_testBit c)
  have hno : ∀ Q : Nat → Nat → Nat → Prop, (∀ k e f, Q k e f → e = N 5) → ¬ flg N Q := fun Q hQ ⟨p, hp, z⟩ => by
    have := (hI.2.1 p hp).2.1
    have := hQ _ _ _ z
    omega
  unfold mOpen
  have hq : fsub (un (un (un N 5 (N 5 + 1)) (30 + 14 * N 5 + 0) S) (30 + 14 * N 5 + 2) (N 4)) N := ((fsub.rf.un (by omega) (by omega)).un (by omega) (by omega)).un (by omega) (by omega)
  have rd : ∀ d k, d < 8 → k < 10 → k ≠ 2 → k ≠ 3 → (d = N 5 → k ≠ 0) → un (un (un N 5 (N 5 + 1)) (30 + 14 * N 5 + 0) S) (30 + 14 * N 5 + 2) (N 4) (30 + 14 * d + k) = N (30 + 14 * d + k) := fun d k hd hk k2 k3 hn => by
    rw [un_n (by omega), un_n (by omega), un_n (by omega)]
  have r5 : un (un (un N 5 (N 5 + 1)) (30 + 14 * N 5 + 0) S) (30 + 14 * N 5 + 2) (N 4) 5 = N 5 + 1 := by rw [un_n (by omega), un_n (by omega), un_s]
  have hM : VI (un (un (un N 5 (N 5 + 1)) (30 + 14 * N 5 + 0) S) (30 + 14 * N 5 + 2) (N 4)) := by
    refine ⟨fun d hd => ?_, fun d h1 h2 => ?_⟩
    · rw [r5] at hd
      by_cases e : d = N 5
      · subst e
        refine DK.mk hq (S := S) (st := 0) (vt := 0) (rc := 0) (a := fun _ => 0) ?_ ?_ ?_ ?_ ?_ (fun c hc => ?_)
        · refine ⟨⟨hS0, fun c z => ?_, fun c z => ?_⟩, ⟨fun z => by omega, fun _ z => hS0 z.symm, fun z => by omega⟩, fun c hc _ => ⟨fun z => (by have z2 : (0 : Nat) = 2 := z; omega), fun z => ?_, fun z => ?_, fun z => (by have z2 : (0 : Nat) = 3 := z; omega), fun z => ?_, fun z => ?_⟩, fun z => ?_, fun z => ?_⟩
          · rw [Nat.zero_testBit] at z; cases z
          · rw [Nat.zero_testBit] at z; cases z
          · rw [Nat.zero_testBit] at z; cases z
          · rw [Nat.zero_testBit] at z; cases z
          · exact absurd z (hno _ (fun k e f q => q.2.1))
          · exact absurd z (hno _ (fun k e f q => q.2.1))
          · exact absurd z (hno _ (fun k e f q => q.2))
          · exact absurd z (hno _ (fun k e f q => q.2))
        · rw [un_n (by omega), un_s]
        · rw [rd _ 1 h58 (by decide) (by decide) (by decide) (fun _ => by decide)]; exact u1
        · rw [rd _ 4 h58 (by decide) (by decide) (by decide) (fun _ => by decide)]; exact u4
        · rw [rd _ 5 h58 (by decide) (by decide) (by decide) (fun _ => by decide)]; exact u5
        · rw [rd _ (6 + c) h58 (by omega) (by omega) (by omega) (fun _ => by omega)]; exact ua c hc
      · have hd8 : d < 8 := by omega
        refine DK.mk hq (h.1 d (by omega)) (rd d 0 hd8 (by decide) (by decide) (by decide) (fun z => absurd z e)) (rd d 1 hd8 (by decide) (by decide) (by decide) (fun z => absurd z e)) (rd d 4 hd8 (by decide) (by decide) (by decide) (fun z => absurd z e)) (rd d 5 hd8 (by decide) (by decide) (by decide) (fun z => absurd z e)) (fun c hc => rd d (6 + c) hd8 (by omega) (by omega) (by omega) (fun z => absurd z e))
    · rw [r5] at h1
      rw [rd d 1 h2 (by decide) (by decide) (by decide) (fun z => by omega), rd d 4 h2 (by decide) (by decide) (by decide) (fun z => by omega), rd d 5 h2 (by decide) (by decide) (by decide) (fun z => by omega)]
      exact h.2 d (by omega) h2
  refine hM.sal ?_ (by decide) (mayS.other (by decide)) 4
  exact ((hF.u5 (by omega)).ud (by omega) (by decide) (fun _ _ _ => by rw [if_neg (by decide)]; omega)).ud (by omega) (by decide) (fun _ q => absurd rfl q)
theorem VI.pB {N : NS} (h : VI N) (hF : FI N) {d : Nat} (hd : d < N 5) : VI (mPassB d N) := by
  unfold mPassB
  split
  · exact h.ter hF hd (by rename_i z; exact z.1)
  · split
    · exact h.sal hF (by decide) (mayS.k3 (Or.inl (by rename_i z; exact z.1))) 4
    · exact h
theorem VI.pC {N : NS} (h : VI N) (hF : FI N) {c d : Nat} (hc : c < 4) : VI (mPassC c d N) := by
  unfold mPassC
  split
  · exact (h.snd hF (by omega) (mayS.other (by decide))).sal (hF.snd (by omega)) (by omega) (mayS.other (by decide)) 4
  · exact h
theorem VI.pb8 {N : NS} (h : VI N) (hF : FI N) : ∀ d, d ≤ N 5 → VI (pbs d N)
  | 0, _ => h
  | d + 1, hd => by
    have h8 := hF.2.1
    rw [pbs]; exact (VI.pb8 h hF d (by omega)).pB (hF.pb8 d (by omega)) (by rw [pbs_n hF (by omega) d (by omega)]; omega)
theorem VI.pc8 {N : NS} (h : VI N) (hF : FI N) {c : Nat} (hc : c < 4) : ∀ d, VI (pcs c d N)
  | 0 => h
  | d + 1 => by rw [pcs]; exact (VI.pc8 h hF hc d).pC (hF.pc8 hc d) hc
theorem VI.pl4 {N : NS} (h : VI N) (hF : FI N) : ∀ c, c ≤ 4 → VI (pcl c N)
  | 0, _ => h
  | c + 1, hc => by
    rw [pcl]
    split
    · exact VI.pl4 h hF c (by omega)
    · exact (VI.pl4 h hF c (by omega)).pc8 (hF.pl4 c (by omega)) (by omega) _
theorem VI.pss {N : NS} (h : VI N) (hF : FI N) : VI (mPass N) := by
  unfold mPass
  have hp0 : VI (if N 14 = 1 then N else pbs (N 5) N) := by
    split
    · exact h
    · exact h.pb8 hF _ (Nat.le_refl _)
  exact (hp0.pl4 (hF_p0 hF) 4 (Nat.le_refl 4)).via ((hF_p0 hF).pl4 4 (Nat.le_refl 4)).2.1 (fe.rf.un (by omega) (by omega)) (fsub.rf.un (by omega) (by omega))

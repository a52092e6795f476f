/-! ===== class and model side by side: what holds of both between two calls ===== -/
theorem nat_R {e : Int32} {p q : Nat} (hp : p < 2 ^ 31) (hq : q < 2 ^ 31) (h : nI p ≤ e ∧ e ≤ nI q) : ∃ k, p ≤ k ∧ k ≤ q ∧ e = nI k := by
  obtain ⟨h1, h2⟩ := h
  have h0 : (0 : Int32).toInt = 0 := by decide
  have hn : ¬ e < 0 := by
    rw [Int32.lt_iff_toInt_lt, h0]
    rw [Int32.le_iff_toInt_le, nI_toInt hp] at h1
    omega
  obtain ⟨k, hk, rfl⟩ := nI_of hn
  exact ⟨k, (nI_leI hp hk).mp h1, (nI_leI hk hq).mp h2, rfl⟩
theorem nat_0 {e : Int32} {q : Nat} (hq : q < 2 ^ 31) (h : 0 ≤ e ∧ e < nI q) : ∃ k, k < q ∧ e = nI k := by
  obtain ⟨h1, h2⟩ := h
  have h0 : (0 : Int32).toInt = 0 := by decide
  have hn : ¬ e < 0 := by
    rw [Int32.lt_iff_toInt_lt]
    rw [Int32.le_iff_toInt_le] at h1
    omega
  obtain ⟨k, hk, rfl⟩ := nI_of hn
  exact ⟨k, (nI_ltI hk hq).mp h2, rfl⟩
def okS (T : Nat) (K : NS) : Prop := Inv K ∧ DV K ∧ K 4 ≤ T
theorem okS.up {T T' : Nat} {K : NS} (h : okS T K) (hT : T ≤ T') : okS T' K := ⟨h.1, h.2.1, Nat.le_trans h.2.2 hT⟩
/-- where the j-th of u noted states lies, when nx is next -/
def hix (nx u j : Nat) : Nat := 2 + (nx + 7 - u + j) % 7
def HistR (T u nx : Nat) (h : Nat → Int32) (Ns : Nat → NS) : Prop := ∀ j, j < u → okS T (Ns (hix nx u j)) ∧ ∀ k, k < 390 → h (j * 390 + k) = nI (Ns (hix nx u j) k)
def SavR (T sv : Nat) (sd sb : Nat → Int32) (Ns : Nat → NS) : Prop := ∀ t, t < 2 → (sv.testBit t = true → sb t = nI 1 ∧ okS T (Ns (9 + t)) ∧ ∀ k, k < 390 → sd (t * 390 + k) = nI (Ns (9 + t) k)) ∧ (¬ sv.testBit t = true → sb t = nI 0)
def PadR (n : Nat) (C : Nat → Nat) (pd mp : Nat → Int32) : Prop := n ≤ 60 ∧ (∀ j, j < n → pd j = nI (C j)) ∧ (∀ j, j < n → mp j = nI (C j)) ∧ ∀ j, j < n → 33 ≤ C j ∧ C j < 127
def RC (T nx u n sv : Nat) (C : Nat → Nat) (s : AS) (v pd rv : Nat → Int32) (Ns : Nat → NS) (x : MX) : Prop :=
  (v 0 = nI nx ∧ nx < 7) ∧ (v 1 = nI u ∧ u ≤ 6 ∧ x.1 0 = nI u) ∧ (v 2 = nI sv ∧ sv < 4) ∧ (v 3 = nI n ∧ x.1 1 = nI n) ∧ PadR n C pd (x.2 4) ∧ (rv = rvO s ∧ rB s) ∧ x.1 2 = nI 0 ∧ okS T (Ns 0) ∧ HistR T u nx (x.2 1) Ns ∧ SavR T sv (x.2 2) (x.2 3) Ns
def Rl (T : Nat) (v pd rv : Nat → Int32) (Ns : Nat → NS) (x : MX) : Prop := ∃ (nx u n sv : Nat) (C : Nat → Nat) (s : AS), RC T nx u n sv C s v pd rv Ns x
theorem HistR.up {T T' u nx : Nat} {h : Nat → Int32} {Ns : Nat → NS} (g : HistR T u nx h Ns) (hT : T ≤ T') : HistR T' u nx h Ns := fun j hj => ⟨(g j hj).1.up hT, (g j hj).2⟩
theorem SavR.up {T T' sv : Nat} {sd sb : Nat → Int32} {Ns : Nat → NS} (g : SavR T sv sd sb Ns) (hT : T ≤ T') : SavR T' sv sd sb Ns := fun t ht => ⟨fun z => ⟨((g t ht).1 z).1, ((g t ht).1 z).2.1.up hT, ((g t ht).1 z).2.2⟩, (g t ht).2⟩
theorem HistR.ns {T u nx : Nat} {h : Nat → Int32} {Ns Ms : Nat → NS} (g : HistR T u nx h Ns) (e : ∀ j, j < u → Ms (hix nx u j) = Ns (hix nx u j)) : HistR T u nx h Ms := fun j hj => by
  rw [e j hj]; exact g j hj
theorem SavR.ns {T sv : Nat} {sd sb : Nat → Int32} {Ns Ms : Nat → NS} (g : SavR T sv sd sb Ns) (e : ∀ t, t < 2 → Ms (9 + t) = Ns (9 + t)) : SavR T sv sd sb Ms := fun t ht => by
  rw [e t ht]; exact g t ht
theorem hix_ne {nx u j : Nat} (hnx : nx < 7) (hu : u ≤ 6) (hj : j < u) : hix nx u j ≠ 2 + nx := by unfold hix; omega
theorem hix_lo {nx u j : Nat} : 2 ≤ hix nx u j ∧ hix nx u j < 9 := by unfold hix; omega
/-- the model's world may change where the relation doesn't look -/
theorem RC.xc {T nx u n sv : Nat} {C : Nat → Nat} {s : AS} {v pd rv : Nat → Int32} {Ns : Nat → NS} {x y : MX} (h : RC T nx u n sv C s v pd rv Ns x) (e0 : y.1 0 = x.1 0) (e1 : y.1 1 = x.1 1) (e2 : y.1 2 = x.1 2) (f1 : y.2 1 = x.2 1) (f2 : y.2 2 = x.2 2) (f3 : y.2 3 = x.2 3) (f4 : y.2 4 = x.2 4) : RC T nx u n sv C s v pd rv Ns y := by
  obtain ⟨h1, h2, h3, h4, h5, h6, h7, h8, h9, h10⟩ := h
  refine ⟨h1, ⟨h2.1, h2.2.1, e0.trans h2.2.2⟩, h3, ⟨h4.1, e1.trans h4.2⟩, ?_, h6, e2.trans h7, h8, ?_, ?_⟩
  · rw [f4]; exact h5
  · rw [f1]; exact h9
  · rw [f2, f3]; exact h10
theorem RC.up {T T' nx u n sv : Nat} {C : Nat → Nat} {s : AS} {v pd rv : Nat → Int32} {Ns : Nat → NS} {x : MX} (h : RC T nx u n sv C s v pd rv Ns x) (hT : T ≤ T') : RC T' nx u n sv C s v pd rv Ns x := by
  obtain ⟨h1, h2, h3, h4, h5, h6, h7, h8, h9, h10⟩ := h
  exact ⟨h1, h2, h3, h4, h5, h6, h7, h8.up hT, h9.up hT, h10.up hT⟩
/-- the class's states may change where the relation doesn't look -/
theorem RC.ns {T nx u n sv : Nat} {C : Nat → Nat} {s : AS} {v pd rv : Nat → Int32} {Ns Ms : Nat → NS} {x : MX} (h : RC T nx u n sv C s v pd rv Ns x) (e0 : Ms 0 = Ns 0) (eh : ∀ j, j < u → Ms (hix nx u j) = Ns (hix nx u j)) (es : ∀ t, t < 2 → Ms (9 + t) = Ns (9 + t)) : RC T nx u n sv C s v pd rv Ms x := by
  obtain ⟨h1, h2, h3, h4, h5, h6, h7, h8, h9, h10⟩ := h
  exact ⟨h1, h2, h3, h4, h5, h6, h7, by rw [e0]; exact h8, h9.ns eh, h10.ns es⟩
theorem RC.note {T nx u n sv : Nat} {C : Nat → Nat} {s : AS} {v pd rv : Nat → Int32} {Ns : Nat → NS} {x : MX} (h : RC T nx u n sv C s v pd rv Ns x) : RC T nx u n sv C s v pd rv (va_up Ns (2 + nx) (Ns 0)) x := by
  have hnx := h.1.2
  have hu := h.2.1.2.1
  exact h.ns (va_up_ne _ _ (by omega)) (fun j hj => va_up_ne _ _ (hix_ne hnx hu hj)) (fun t ht => va_up_ne _ _ (by omega))
theorem RC.note0 {T nx u n sv : Nat} {C : Nat → Nat} {s : AS} {v pd rv : Nat → Int32} {Ns : Nat → NS} {x : MX} {M : NS} (h : RC T nx u n sv C s v pd rv Ns x) (hM : M = Ns 0) : RC T nx u n sv C s v pd rv (va_up (va_up Ns (2 + nx) (Ns 0)) 0 M) x := by
  have hnx := h.1.2
  refine h.note.ns ?_ (fun j hj => va_up_ne _ _ (by have := hix_lo (nx := nx) (u := u) (j := j); omega)) (fun t ht => va_up_ne _ _ (by omega))
  rw [va_up_self, va_up_ne _ _ (by omega)]; exact hM
theorem ax_n {x : MX} {k i : Nat} {f : Nat → Int32} (h : k ≠ i) : (ax x i f).2 k = x.2 k := by
  show va_up x.2 i f k = x.2 k
  exact va_up_ne _ _ h
theorem tX_n {x : MX} {k : Nat} {r p w : Int32} {O : Nat → Int32} (h : k ≠ 5) : (tX r p w O x).2 k = x.2 k := by
  show va_up x.2 5 O k = x.2 k
  exact va_up_ne _ _ h
theorem RC.trial {T nx u n sv : Nat} {C : Nat → Nat} {s : AS} {v pd rv : Nat → Int32} {Ns : Nat → NS} {x : MX} (h : RC T nx u n sv C s v pd rv Ns x) {K : NS} {f : Nat → Int32} : RC T nx u n sv C s v pd rv (va_up Ns 1 K) (ax x 0 f) := by
  have g := h.ns (Ms := va_up Ns 1 K) (va_up_ne _ _ (by decide)) (fun j hj => va_up_ne _ _ (by have := hix_lo (nx := nx) (u := u) (j := j); omega)) (fun t ht => va_up_ne _ _ (by omega))
  exact g.xc rfl rfl rfl (ax_n (by decide)) (ax_n (by decide)) (ax_n (by decide)) (ax_n (by decide))
theorem RC.tx {T nx u n sv : Nat} {C : Nat → Nat} {s : AS} {v pd rv : Nat → Int32} {Ns : Nat → NS} {x : MX} (h : RC T nx u n sv C s v pd rv Ns x) {r p w : Int32} {O : Nat → Int32} : RC T nx u n sv C s v pd rv Ns (tX r p w O x) :=
  h.xc rfl rfl rfl (tX_n (by decide)) (tX_n (by decide)) (tX_n (by decide)) (tX_n (by decide))
theorem rcd_x {u : Nat} {N : NS} {x : MX} (h : x.1 2 = nI 0) : rcd u N x = recX u N x := if_pos h
theorem recX_0 {u : Nat} {N : NS} {x : MX} : (recX u N x).1 0 = nI (if u = 6 then 6 else u + 1) := by
  show upd x.1 0 _ 0 = _
  exact if_pos rfl
theorem recX_i {u i : Nat} {N : NS} {x : MX} (h : i ≠ 0) : (recX u N x).1 i = x.1 i := by
  show upd x.1 0 _ i = _
  exact if_neg h
theorem recX_1 {u : Nat} {N : NS} {x : MX} : (recX u N x).2 1 = recH u N (x.2 1) := by
  show va_up x.2 1 _ 1 = _
  exact va_up_self _ _ _
theorem recX_k {u k : Nat} {N : NS} {x : MX} (h : k ≠ 1) : (recX u N x).2 k = x.2 k := by
  show va_up x.2 1 _ k = _
  exact va_up_ne _ _ h
theorem recH_lo {u j k : Nat} {N : NS} {h : Nat → Int32} (hu : ¬ u = 6) (hj : j < u) (hk : k < 390) : recH u N h (j * 390 + k) = h (j * 390 + k) := by
  unfold recH
  rw [if_neg hu]
  unfold hcp
  exact if_neg (by omega)
theorem recH_new {u k : Nat} {N : NS} {h : Nat → Int32} (hk : k < 390) : recH u N h ((if u = 6 then 5 else u) * 390 + k) = nI (N k) := by
  unfold recH
  by_cases hu : u = 6
  · rw [if_pos hu, if_pos hu]
    unfold hcp
    rw [if_pos (by omega), show 5 * 390 + k - 1950 = k by omega]
  · rw [if_neg hu, if_neg hu]
    unfold hcp
    rw [if_pos (by omega), show u * 390 + k - u * 390 = k by omega]
theorem recH_6 {j k : Nat} {N : NS} {h : Nat → Int32} (hj : j < 5) (hk : k < 390) : recH 6 N h (j * 390 + k) = h ((j + 1) * 390 + k) := by
  unfold recH
  rw [if_pos rfl]
  unfold hcp
  rw [if_neg (by omega)]
  unfold hsh
  rw [if_pos (by omega), show j * 390 + k + 390 = (j + 1) * 390 + k by omega]
theorem HistR.rcd {T u nx : Nat} {h : Nat → Int32} {Ns : Nat → NS} {M : NS} (g : HistR T u nx h Ns) (hnx : nx < 7) (hu : u ≤ 6) (hok : okS T (Ns 0)) : HistR T (if u = 6 then 6 else u + 1) (if nx = 6 then 0 else nx + 1) (recH u (Ns 0) h) (va_up (va_up Ns (2 + nx) (Ns 0)) 0 M) := by
  have hlo : ∀ a b c, va_up (va_up Ns (2 + nx) (Ns 0)) 0 M (hix a b c) = va_up Ns (2 + nx) (Ns 0) (hix a b c) := fun a b c => va_up_ne _ _ (by have := hix_lo (nx := a) (u := b) (j := c); omega)
  intro j hj
  rw [hlo]
  by_cases hl : j = if u = 6 then 5 else u
  · have hi : hix (if nx = 6 then 0 else nx + 1) (if u = 6 then 6 else u + 1) j = 2 + nx := by
      unfold hix
      subst hl
      by_cases q : u = 6 <;> by_cases q2 : nx = 6 <;> simp only [q, q2, if_pos, if_neg, if_true, if_false] <;> omega
    rw [hi, va_up_self]
    refine ⟨hok, fun k hk => ?_⟩
    rw [hl]
    exact recH_new hk
  · by_cases q : u = 6
    · subst q
      rw [if_pos rfl] at hj hl ⊢
      have hi : hix (if nx = 6 then 0 else nx + 1) 6 j = hix nx 6 (j + 1) := by
        unfold hix
        by_cases q2 : nx = 6 <;> simp only [q2, if_pos, if_neg, if_true, if_false] <;> omega
      rw [hi, va_up_ne _ _ (hix_ne hnx (by omega) (by omega))]
      obtain ⟨g1, g2⟩ := g (j + 1) (by omega)
      exact ⟨g1, fun k hk => by rw [recH_6 (by omega) hk]; exact g2 k hk⟩
    · rw [if_neg q] at hj hl ⊢
      have hi : hix (if nx = 6 then 0 else nx + 1) (u + 1) j = hix nx u j := by
        unfold hix
        by_cases q2 : nx = 6 <;> simp only [q2, if_pos, if_neg, if_true, if_false] <;> omega
      rw [hi, va_up_ne _ _ (hix_ne hnx hu (by omega))]
      obtain ⟨g1, g2⟩ := g j (by omega)
      exact ⟨g1, fun k hk => by rw [recH_lo q (by omega) hk]; exact g2 k hk⟩
/-- a change is recorded -/
theorem RC.rcd {T T' nx u n sv : Nat} {C : Nat → Nat} {s : AS} {v pd rv : Nat → Int32} {Ns : Nat → NS} {x : MX} {M : NS} (h : RC T nx u n sv C s v pd rv Ns x) (hM : okS T' M) (hT : T ≤ T') : RC T' (if nx = 6 then 0 else nx + 1) (if u = 6 then 6 else u + 1) n sv C s (recV nx u v) pd rv (va_up (va_up Ns (2 + nx) (Ns 0)) 0 M) (rcd u (Ns 0) x) := by
  obtain ⟨h1, h2, h3, h4, h5, h6, h7, h8, h9, h10⟩ := h.up hT
  rw [rcd_x h7]
  have hnx := h1.2
  have hu := h2.2.1
  refine ⟨⟨?_, ?_⟩, ⟨?_, ?_, recX_0⟩, ⟨?_, h3.2⟩, ⟨?_, ?_⟩, ?_, h6, ?_, ?_, ?_, ?_⟩
  · unfold recV upd; rw [if_neg (by decide), if_pos rfl]
  · split <;> omega
  · unfold recV upd; rw [if_pos rfl]
  · split <;> omega
  · unfold recV upd; rw [if_neg (by decide), if_neg (by decide)]; exact h3.1
  · unfold recV upd; rw [if_neg (by decide), if_neg (by decide)]; exact h4.1
  · rw [recX_i (by decide)]; exact h4.2
  · rw [recX_k (by decide)]; exact h5
  · rw [recX_i (by decide)]; exact h7
  · rw [va_up_self]; exact hM
  · rw [recX_1]; exact h9.rcd hnx hu h8
  · rw [recX_k (by decide), recX_k (by decide)]
    exact h10.ns (fun t ht => by rw [va_up_ne _ _ (by omega), va_up_ne _ _ (by omega)])
theorem RC.hT {T nx u n sv : Nat} {C : Nat → Nat} {s : AS} {v pd rv : Nat → Int32} {Ns : Nat → NS} {x : MX} (h : RC T nx u n sv C s v pd rv Ns x) : x.1 2 = zb False := h.2.2.2.2.2.2.1.trans (by decide)
def rmOK (rm : Room) : Prop := rm.cells = 0 ∧ rm.slots = 0 ∧ rm.frames ≤ 9 ∧ rm.locals ≤ 350
/-- a call on both: they answer alike, and the relation holds behind -/
def PairOK (l : Launch) (G : GP) (b a : Nat → Nat) (ad : Nat → Nat → Nat) (yx : MethodName) (cx : ByteArray) (Lx : Nat) (ym : MethodName) (cm : ByteArray) (Lm : Nat) (As : List Value) (Ex : State → Prop) (T : Nat) (v pd rv : Nat → Int32) (Ns : Nat → NS) (x : MX) : Prop :=
  ∃ (rmx rmm : Room) (v' pd' rv' : Nat → Int32) (Ns' : Nat → NS) (x' : MX) (r : Int32), rmOK rmx ∧ rmOK rmm ∧ MI l yx (.code yx cx Lx (some .int) :: GW) rmx (.ref (b 0) :: As) G Ex (cW G b ad v pd rv Ns) (cW G b ad v' pd' rv' Ns') r ∧ MI l ym (.code ym cm Lm (some .int) :: GW) rmm (.ref (a 0) :: As) G ES (mN G a (Ns 0) x) (mN G a (Ns' 0) x') r ∧ Rl T v' pd' rv' Ns' x'
theorem pair_mk {l : Launch} {G : GP} {b a : Nat → Nat} {ad : Nat → Nat → Nat} {yx : MethodName} {cx : ByteArray} {Lx : Nat} {ym : MethodName} {cm : ByteArray} {Lm : Nat} {As : List Value} {Ex : State → Prop} {T : Nat} {v pd rv : Nat → Int32} {Ns : Nat → NS} {x : MX}
    {rmx rmm : Room} {v' pd' rv' : Nat → Int32} {Ns' : Nat → NS} {x' : MX} {r r' : Int32} {M : NS} (h1 : rmOK rmx) (h2 : rmOK rmm) (hx : MI l yx (.code yx cx Lx (some .int) :: GW) rmx (.ref (b 0) :: As) G Ex (cW G b ad v pd rv Ns) (cW G b ad v' pd' rv' Ns') r) (hm : MI l ym (.code ym cm Lm (some .int) :: GW) rmm (.ref (a 0) :: As) G ES (mN G a (Ns 0) x) (mN G a M x') r') (er : r' = r) (eM : M = Ns' 0) {nx u n sv : Nat} {C : Nat → Nat} {s : AS} (hR : RC T nx u n sv C s v' pd' rv' Ns' x') : PairOK l G b a ad yx cx Lx ym cm Lm As Ex T v pd rv Ns x :=
  ⟨rmx, rmm, v', pd', rv', Ns', x', r, h1, h2, hx, by rw [← eM, ← er]; exact hm, nx, u, n, sv, C, s, hR⟩

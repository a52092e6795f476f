/-! ===== the law: what holds at its entry (begins as the skeleton) ===== -/
def R_law : String := "ClerkVotesLaw"
def lw_P (b : Addr) (xs : List Int32) (args : Array Value) (s : State) : Prop := args = #[.ref b] ∧ s.IntsAt b xs ∧ xs.length ≤ 260 ∧ (Jvm.Cond.and given_1 narrow_1).before args s = true
def lw_Q (_ : Array Value) (s : State) (o : Outcome) (t : State) : Prop := o = .returned (some (.int 1)) ∧ Framed s o t [] 1200000 5502250
def lw_Z (below : List Frame) (a : Array Value) (s : State) : State → Prop := fun t => ∃ o, t.status = .running ∧ Ended t below o ∧ lw_Q a s o t
/-- the law's own end, with 1 on the stack, nothing written that was there before, its room as the claim has it -/
theorem lw_ret {p : Program} {l : Launch} {e : Env} {s : State} {m : MethodId} {below : List Frame} {meth : Method} {c : Code} {b : Nat} (hx : p.tables.exec = Jvm.exec) (hb : c.code = code) (hr : meth.sig.returnType = ret) (hlocks : meth.locks = false) {pc : Nat} {H : Heap} {ls : Array Slot} (hdg : decode code pc = .ok (.ireturn, 1)) : W p l e room_1 s m #[Value.ref b] below meth c H [] 1200000 5502250 (lw_Z below #[Value.ref b] s) (F0 m pc ls [.int 1]) := by
  intro T hT X
  obtain ⟨fs, hret, hrun, hended, hW, hframe⟩ := X.leave (v := some (.int 1)) (hlocks := hlocks) (fun h => by rw [hr] at h; cases h)
  have hmeth' : T.vm.method? m = some meth := X.method'
  refine ⟨T.setFrames fs, ?_, .returned (some (.int 1)), hrun, hended, rfl, ⟨_, rfl⟩, hW, hframe⟩
  jvm_step X.here [X.here.top, hx, hb, hdg, hmeth', hr, ret, narrow_b1]
  (try refine ⟨rfl, ?_⟩); (try refine ⟨rfl, ?_⟩)
  first | (intro acts; rw [hret _ acts rfl rfl rfl]) | rw [hret _ _ rfl rfl rfl]
  exact Steps.refl _
/-- what holds at the law's entry: the machine, the code, the tables' words (any of lw_tbl by 'hts w (by decide +kernel)'), the script of L ints xs at the cell b, what the Statement gives of the start (any of its parts by flat_of_before) -/
def lw_At (p : Program) (s : State) (m : MethodId) (meth : Method) (c : Code) (b L : Nat) (xs : Nat → Int32) : Prop :=
  p.tables.exec = Jvm.exec ∧ c.code = code ∧ meth.sig.returnType = ret ∧ c.maxLocals = 3 ∧ s.vm.findClass R_law = some m.cls ∧ (∀ w ∈ lw_tbl, w.before #[Value.ref b] s = true) ∧ va_X b L xs s s.heap ∧ b < s.heap.size ∧ meth.locks = false ∧ (Jvm.Cond.and given_1 narrow_1).before #[Value.ref b] s = true
theorem va_A_eq {n : Nat} : (fun q : Nat => n ≤ q) = va_A [] n := funext fun q => propext ⟨Or.inr, fun z => by
  rcases z with ⟨k, e, hk⟩ | z
  · cases hk
  · exact z⟩
theorem tab_LEAST_VALUE {args : Array Value} {s : State} (hs : ∀ c ∈ flatC (Jvm.Cond.and given_1 narrow_1), c.before args s = true) (hts : ∀ w ∈ lw_tbl, w.before args s = true) : ∃ t : Nat, va_Z RX3 "LEAST_VALUE" "[I" (.ref t) (va_A [] s.heap.size) s s.heap ∧ va_T .int t 4 (fun k => .int (nI (loK k))) (va_A [] s.heap.size) s s.heap := by
  obtain ⟨t, ht, hT⟩ := va_Tof (tm := .static "ClerkVotes" "LEAST_VALUE" "[I") (ty := .int) (N := 4) (f := fun k => .int (nI (loK k))) (A := va_A [] s.heap.size) (by decide) (hs _ (by decide +kernel)) (va_eqt (hs (Cond.eq (.length (.static "ClerkVotes" "LEAST_VALUE" "[I")) (.int 4)) (by decide +kernel))) (fun j hj => by
    rcases (show j = 0 ∨ j = 1 ∨ j = 2 ∨ j = 3 by omega) with rfl | rfl | rfl | rfl
    · exact va_eqt (hs (Cond.eq (.elem (.static "ClerkVotes" "LEAST_VALUE" "[I") (.int 0)) (.int 1)) (by decide +kernel))
    · exact va_eqt (hs (Cond.eq (.elem (.static "ClerkVotes" "LEAST_VALUE" "[I") (.int 1)) (.int 1)) (by decide +kernel))
    · exact va_eqt (hs (Cond.eq (.elem (.static "ClerkVotes" "LEAST_VALUE" "[I") (.int 2)) (.int 1)) (by decide +kernel))
    · exact va_eqt (hs (Cond.eq (.elem (.static "ClerkVotes" "LEAST_VALUE" "[I") (.int 3)) (.int 0)) (by decide +kernel))) va_A0
  exact ⟨t, va_Zof (hts _ (List.mem_append_right _ (List.mem_of_getElem? (i := 407) (by decide +kernel)))) (hts _ (GW_in _ mw_1_2)) ht va_A0, hT⟩
theorem tab_MOST_VALUE {args : Array Value} {s : State} (hs : ∀ c ∈ flatC (Jvm.Cond.and given_1 narrow_1), c.before args s = true) (hts : ∀ w ∈ lw_tbl, w.before args s = true) : ∃ t : Nat, va_Z RX3 "MOST_VALUE" "[I" (.ref t) (va_A [] s.heap.size) s s.heap ∧ va_T .int t 4 (fun k => .int (nI (hiK k))) (va_A [] s.heap.size) s s.heap := by
  obtain ⟨t, ht, hT⟩ := va_Tof (tm := .static "ClerkVotes" "MOST_VALUE" "[I") (ty := .int) (N := 4) (f := fun k => .int (nI (hiK k))) (A := va_A [] s.heap.size) (by decide) (hs _ (by decide +kernel)) (va_eqt (hs (Cond.eq (.length (.static "ClerkVotes" "MOST_VALUE" "[I")) (.int 4)) (by decide +kernel))) (fun j hj => by
    rcases (show j = 0 ∨ j = 1 ∨ j = 2 ∨ j = 3 by omega) with rfl | rfl | rfl | rfl
    · exact va_eqt (hs (Cond.eq (.elem (.static "ClerkVotes" "MOST_VALUE" "[I") (.int 0)) (.int 50)) (by decide +kernel))
    · exact va_eqt (hs (Cond.eq (.elem (.static "ClerkVotes" "MOST_VALUE" "[I") (.int 1)) (.int 50)) (by decide +kernel))
    · exact va_eqt (hs (Cond.eq (.elem (.static "ClerkVotes" "MOST_VALUE" "[I") (.int 2)) (.int 50)) (by decide +kernel))
    · exact va_eqt (hs (Cond.eq (.elem (.static "ClerkVotes" "MOST_VALUE" "[I") (.int 3)) (.int 1)) (by decide +kernel))) va_A0
  exact ⟨t, va_Zof (hts _ (List.mem_append_right _ (List.mem_of_getElem? (i := 409) (by decide +kernel)))) (hts _ (GW_in _ mw_1_2)) ht va_A0, hT⟩
theorem XS_start {args : Array Value} {s : State} (hs : ∀ c ∈ flatC (Jvm.Cond.and given_1 narrow_1), c.before args s = true) (hts : ∀ w ∈ lw_tbl, w.before args s = true) : XS [] s := by
  obtain ⟨t1, h1, h2⟩ := tab_LEAST_VALUE hs hts
  obtain ⟨t2, h3, h4⟩ := tab_MOST_VALUE hs hts
  exact ⟨va_Nw.of rfl (hts (.fieldLinkNest RX2 77 RX3 "LEAST_VALUE" "[I" RX3) (List.mem_append_right _ (List.mem_of_getElem? (i := 406) (by decide +kernel)))), va_Nw.of rfl (hts (.fieldLinkNest RX2 80 RX3 "MOST_VALUE" "[I" RX3) (List.mem_append_right _ (List.mem_of_getElem? (i := 408) (by decide +kernel)))), t1, t2, h1, h2, h3, h4⟩
theorem NW_start {args : Array Value} {s : State} (hts : ∀ w ∈ lw_tbl, w.before args s = true) : NW s := ⟨va_Nw.of rfl (hts (.methodLinkNest RX2 69 yX3_isIn RX3) (List.mem_append_right _ (List.mem_of_getElem? (i := 197) (by decide +kernel)))), va_Nw.of rfl (hts (.methodLinkNest RX3 9 yX2_init RX3) (List.mem_append_right _ (List.mem_of_getElem? (i := 18) (by decide +kernel)))), va_Nw.of rfl (hts (.methodLinkNest RX2 17 yX1_init RX3) (List.mem_append_right _ (List.mem_of_getElem? (i := 24) (by decide +kernel)))), va_Nw.of rfl (hts (.methodLinkNest RX3 32 yX0_init RX3) (List.mem_append_right _ (List.mem_of_getElem? (i := 96) (by decide +kernel))))⟩
theorem AO_start {args : Array Value} {s : State} (hts : ∀ w ∈ lw_tbl, w.before args s = true) : va_AO "ClerkVotes$State" s := va_AO.of (hts _ (List.mem_append_right _ (List.mem_of_getElem? (i := 93) (by decide +kernel))))
theorem arr_at {args : Array Value} {s : State} {ty : FieldType} (h : (Cond.arrayClass ty).before args s = true) (hno : ∀ C, ty ≠ .object C) : ∃ cA : ClassId, ArrOfT s cA ty ∧ va_RA s cA ty := by
  obtain ⟨cA, kA, comp, h1, h2, h3⟩ := Cond.arrayClass_spec h
  refine ⟨cA, fun n z => ⟨fun k h => (by cases h), kA, h2, comp, h3⟩, ?_⟩
  cases ty with
  | object C => exact absurd rfl (hno C)
  | _ => exact h1
theorem arr_st {s : State} (h : va_AO "ClerkVotes$State" s) : ∃ cA : ClassId, ArrOfT s cA (.object "ClerkVotes$State") ∧ va_RA s cA (.object "ClerkVotes$State") := by
  obtain ⟨comp, c, k, h1, h2, h3, h4, h5⟩ := Cond.arrayOver_spec h
  exact ⟨c, fun n z => ⟨fun k h => (by cases h), k, h3, comp, h4⟩, k, comp, h3, h4, h1, h5⟩
theorem K_start {args : Array Value} {s : State} (hts : ∀ w ∈ lw_tbl, w.before args s = true) : ∃ G : GP, va_K G.1 vwCl (tyL G) s := by
  have hg : ∀ w ∈ GW, w.before args s = true := fun w h => hts w (GW_in w h)
  obtain ⟨c0, i0, hK0⟩ := u_known (C := RX0) (T := TX0) (N := 4) (n := 4) hg inlX0 (hg _ mw_1_23)
  obtain ⟨c1, i1, hK1⟩ := u_known (C := RX1) (T := TX1) (N := 5) (n := 5) hg inlX1 (hg _ mw_2_8)
  obtain ⟨c2, i2, hK2⟩ := u_known (C := RX2) (T := TX2) (N := 14) (n := 14) hg inlX2 (hg _ mw_1_14)
  obtain ⟨c3, i3, hK3⟩ := u_known (C := RX3) (T := TX3) (N := 10) (n := 10) hg inlX3 (hg _ mw_1_1)
  obtain ⟨a0, ha0⟩ := arr_at (hg _ mw_2_5) (fun C h => by cases h)
  obtain ⟨a1, ha1⟩ := arr_at (hg _ mw_1_20) (fun C h => by cases h)
  obtain ⟨a3, ha3⟩ := arr_st (AO_start hts)
  refine ⟨((fun k => if k = 0 then c0 else if k = 1 then c1 else if k = 2 then c2 else c3, fun k => if k = 0 then i0 else if k = 1 then i1 else if k = 2 then i2 else i3), fun k => if k = 0 then a0 else if k = 1 then a1 else a3), fun c q hq => ?_, fun k q hk => ?_⟩
  · match c, hq with
    | 0, hq => cases hq; exact hK0
    | 1, hq => cases hq; exact hK1
    | 2, hq => cases hq; exact hK2
    | 3, hq => cases hq; exact hK3
    | c + 4, hq => simp [vwCl] at hq
  · match k, hk with
    | 0, hk => cases hk; exact ha0
    | 1, hk => cases hk; exact ha1
    | 2, hk => cases hk; exact ha0
    | 3, hk => cases hk; exact ha3
    | k + 4, hk => simp [tyL] at hk
theorem inv_00 : Inv N00 := by
  have q1 : ∀ j, j < 19 → 10 ≤ j → N00 j ≤ 1 := by decide +kernel
  have q2 : ∀ d, d < 8 → ∀ k, k < 10 → N00 (30 + 14 * d + k) = 0 := by decide +kernel
  refine ⟨⟨by decide, by decide, by decide +kernel, by decide, fun j h1 h2 => q1 j h2 h1, fun d k hd hk _ _ => by rw [q2 d hd k hk]; exact Nat.zero_le _⟩, fun p hp => absurd (show p < 0 from hp) (Nat.not_lt_zero p), fun d c hd hc _ => q2 d hd (6 + c) (by omega), fun d _ hd => q2 d hd 0 (by omega)⟩
theorem ok_00 : okN 0 N00 := by
  have q : ∀ d, d < 8 → ∀ k, k < 10 → N00 (30 + 14 * d + k) = 0 := by decide +kernel
  refine ⟨inv_00, by unfold DV; decide +kernel, ⟨fun d hd => absurd (show d < 0 from hd) (Nat.not_lt_zero d), fun d _ hd => ⟨q d hd 1 (by decide), q d hd 4 (by decide), q d hd 5 (by decide)⟩⟩, by decide, by decide +kernel⟩

def trM (d : Nat) (N T0 : NS) : Nat → NS
  | 0 => T0
  | m + 1 => rToN d 201 (mLose m N)
def mrV (o : Option (Nat × Nat)) : Int32 := match o with
  | none => -6
  | some q => nI q.2
theorem wq_up {d m : Nat} {N : NS} (hm : m ≤ 60) (h : ¬ nI (rTo d 201 (mLose m N)) ≤ mrV (wlP d N m)) : wlP d N (m + 1) = some (m, rTo d 201 (mLose m N)) := by
  have hr := rTo_le (d := d) 201 (mLose m N)
  rw [wlP]
  cases hp : wlP d N m with
  | none => rfl
  | some z =>
    have hz := (wlP_b m z.1 z.2 hp).2
    rw [hp] at h
    have h2 : ¬ rTo d 201 (mLose m N) ≤ z.2 := fun q => h (nI_le q (by omega))
    exact if_pos (Nat.lt_of_not_le h2)
theorem wq_no {d m : Nat} {N : NS} (hm : m ≤ 60) (h : nI (rTo d 201 (mLose m N)) ≤ mrV (wlP d N m)) : wlP d N (m + 1) = wlP d N m := by
  have hr := rTo_le (d := d) 201 (mLose m N)
  rw [wlP]
  cases hp : wlP d N m with
  | none =>
    rw [hp] at h
    have h1 : nI (rTo d 201 (mLose m N)) ≤ (-6 : Int32) := h
    rw [Int32.le_iff_toInt_le, nI_toInt (by omega), show ((-6 : Int32)).toInt = -6 by decide] at h1
    omega
  | some z =>
    have hz := (wlP_b m z.1 z.2 hp).2
    rw [hp] at h
    have h2 : rTo d 201 (mLose m N) ≤ z.2 := (nI_leI (by omega) (by omega)).mp h
    exact if_neg (Nat.not_lt_of_le h2)
theorem mr_gt {d m : Nat} {N : NS} (h : nI 200 < mrV (wlP d N m)) : ∃ b, wlP d N m = some (b, 201) := by
  cases hp : wlP d N m with
  | none => rw [hp] at h; exact absurd h (by decide)
  | some z =>
    have hz := (wlP_b m z.1 z.2 hp).2
    rw [hp] at h
    have h2 : 200 < z.2 := (nI_ltI (by decide) (by omega)).mp h
    exact ⟨z.1, by rw [show (201 : Nat) = z.2 by omega]⟩
theorem wq_stay {d m m2 : Nat} {N : NS} (hm : m ≤ m2) (h : nI 200 < mrV (wlP d N m)) (_ : m2 ≤ 60) : wlP d N m2 = wlP d N m := by
  obtain ⟨b, hb⟩ := mr_gt h
  have key : ∀ k, wlP d N (m + k) = wlP d N m := by
    intro k
    induction k with
    | zero => rfl
    | succ k ih =>
      have hr := rTo_le (d := d) 201 (mLose (m + k) N)
      rw [show m + (k + 1) = (m + k) + 1 by omega, wlP, ih, hb]
      exact if_neg (by omega)
  rw [show m2 = m + (m2 - m) by omega]
  exact key _
theorem wq_eq {d m ms : Nat} {N : NS} (hbe : ∀ q, q < ms → ¬ nI 200 < mrV (wlP d N q)) (hm : m ≤ ms) (h : nI 200 < mrV (wlP d N m)) : m = ms := by
  rcases Nat.lt_or_ge m ms with q | q
  · exact absurd h (hbe m q)
  · omega
theorem wq_st {d m ms : Nat} {N : NS} (hst : ms = N 6 ∨ nI 200 < mrV (wlP d N ms)) (_ : ∀ q, q < ms → ¬ nI 200 < mrV (wlP d N q)) (hm : m ≤ ms) (hmm : m < N 6) (h : ¬ nI 200 < mrV (wlP d N m)) : m < ms := by
  rcases Nat.lt_or_ge m ms with q | q
  · exact q
  · have : m = ms := by omega
    subst this
    rcases hst with z | z
    · omega
    · exact absurd z h
theorem wq_b {d w : Nat} {N : NS} (hw : w = 0) : bestV (wlP d N (N 6)) = wlR d w N := by
  unfold wlR
  cases hp : wlP d N (N 6) with
  | none => rfl
  | some z => exact (if_pos hw).symm
theorem wq_r {d w : Nat} {N : NS} (hw : ¬ w = 0) : mrV (wlP d N (N 6)) = wlR d w N := by
  unfold wlR
  cases hp : wlP d N (N 6) with
  | none => rfl
  | some z => exact (if_neg hw).symm
theorem wq_ex {d : Nat} {N : NS} : ∃ ms, ms ≤ N 6 ∧ (ms = N 6 ∨ nI 200 < mrV (wlP d N ms)) ∧ ∀ q, q < ms → ¬ nI 200 < mrV (wlP d N q) := by
  obtain ⟨k, h1, h2⟩ := pk_least (fun m => m = N 6 ∨ nI 200 < mrV (wlP d N m)) ⟨N 6, Or.inl rfl⟩
  refine ⟨k, ?_, h1, fun q hq z => h2 q hq (Or.inr z)⟩
  rcases Nat.lt_or_ge (N 6) k with q | q
  · exact absurd (Or.inl rfl) (h2 _ q)
  · exact q
/-! ===== the two tables of the settings ===== -/
def loK (k : Nat) : Nat := if k = 3 then 0 else 1
def hiK (k : Nat) : Nat := if k = 3 then 1 else 50
def XS (w : va_W) (U : State) : Prop := va_Nw (.fieldLinkNest RX2 77 RX3 "LEAST_VALUE" "[I" RX3) U ∧ va_Nw (.fieldLinkNest RX2 80 RX3 "MOST_VALUE" "[I" RX3) U ∧ ∃ t1 t2 : Nat, va_Z RX3 "LEAST_VALUE" "[I" (.ref t1) (va_A w U.heap.size) U U.heap ∧ va_T .int t1 4 (fun k => .int (nI (loK k))) (va_A w U.heap.size) U U.heap ∧ va_Z RX3 "MOST_VALUE" "[I" (.ref t2) (va_A w U.heap.size) U U.heap ∧ va_T .int t2 4 (fun k => .int (nI (hiK k))) (va_A w U.heap.size) U U.heap
theorem XS.eb {w : va_W} : EB (XS w) := fun U g mk a h => by
  obtain ⟨h1, h2, t1, t2, h3, h4, h5, h6⟩ := h
  exact ⟨va_Nw.same (u := U) (U := U.calling g mk a) rfl rfl h1, va_Nw.same (u := U) (U := U.calling g mk a) rfl rfl h2, t1, t2, va_Z.moved (u := U) (U := U.calling g mk a) (Vm.Alike.refl U.vm) h3, va_T.moved (u := U) (U := U.calling g mk a) (Vm.Alike.refl U.vm) h4, va_Z.moved (u := U) (U := U.calling g mk a) (Vm.Alike.refl U.vm) h5, va_T.moved (u := U) (U := U.calling g mk a) (Vm.Alike.refl U.vm) h6⟩
theorem XS.to {G : GP} {w big r : va_W} {A : Nat → Prop} {s : State} {H : Heap} {locs : List Loc} {wb : va_W} (h : XS wb s) (hA : A = va_A wb s.heap.size) (hw : HB G A s.heap big H locs) (hp : (w ++ r).Perm big) : ∀ U : State, U.heap = H → s.WarmedH U.vm → XS w U := by
  intro U hU hW
  obtain ⟨h1, h2, t1, t2, h3, h4, h5, h6⟩ := h
  have hF := (hw.cut hp).2.2
  have hk : ∀ a : Nat, a < s.heap.size → ¬ va_A wb s.heap.size a → U.heap[a]? = s.heap[a]? := fun a h1 h2 => by rw [hU]; exact hw.2.2.1.2.1 a h1 (by rw [hA]; exact h2)
  have hn : ∀ q, va_A w U.heap.size q → va_A wb s.heap.size q := fun q hq => by rw [← hA]; exact hF q (by rw [← hU]; exact hq)
  exact ⟨va_Nw.warmF hW h1, va_Nw.warmF hW h2, t1, t2, ((va_Z.moved hW.alike h3).kept hk).narrow hn, ((va_T.moved hW.alike h4).kept hk).narrow hn, ((va_Z.moved hW.alike h5).kept hk).narrow hn, ((va_T.moved hW.alike h6).kept hk).narrow hn⟩
theorem MI.ofX {l : Launch} {y : MethodName} {cc : ByteArray} {maxL : Nat} {ret : Option FieldType} {rm : Room} {av : List Value} {G : GP} {w w' : va_W} {r : Int32} {own : String} (hy : plainName y.cls = true) (ho : y.cls = own) (hsl : (lg_sl av).length ≤ maxL)
    (body : ∀ (p : Program) (e : Env) (s : State) (m : MethodId) (below : List Frame) (meth : Method) (c : Code) (ls : Array Slot) (A : Nat → Prop), EN p c cc s m av.toArray own maxL G → HB G A s.heap w s.heap [] → lv_has ls maxL (lv_args 0 av) → meth.sig.returnType = ret → meth.locks = false → XS w s ∧ A = va_A w s.heap.size →
      W p l e rm s m av.toArray below meth c s.heap [] 0 0 (MQ below (QI G A w' r) av.toArray s 0 0 A) (F0 m 0 ls [])) : MI l y (.code y cc maxL ret :: GW) rm av G (XS w) w w' r := by
  intro sz
  refine Met.ofW (cc := cc) (maxL := maxL) (ret := ret) hy rfl ?_
  intro p e s m args below meth c s₁ B hml hv
  obtain ⟨rfl, hsz, hP, hK, hD0, hN, hEx⟩ := hv
  have hts0 := atoms_spec (ws := .code y cc maxL ret :: GW) B.pre
  have hown : s.vm.findClass y.cls = some m.cls := findClass_of_methodNamed B.named
  subst hsz
  have hl := lv_entry av (n := maxL) hsl
  rw [lg_entry_eq]
  exact body p e s m below meth c _ _ ⟨B.exec, B.bytes, hml, ho ▸ hown, fun w h => hts0 w (List.mem_cons_of_mem _ h), hK, hN⟩ ⟨hP, hD0.self, va_S.rf, fun q h => Or.inr h⟩ hl B.returns B.notSynchronized ⟨hEx, rfl⟩
theorem vp_in_r {v : Int32} (h1 : ¬ v < 0) (h2 : ¬ nI 4 ≤ v) : vp_in v 4 := by
  rw [vp_in_iff]
  rw [Int32.lt_iff_toInt_lt] at h1
  rw [Int32.le_iff_toInt_le, show (nI 4).toInt = 4 by decide] at h2
  rw [show (0 : Int32).toInt = 0 by decide] at h1
  omega
theorem vset_i {k : Nat} {w : Int32} (hk : k < 4) (h1 : ¬ w < nI (loK k)) (h2 : w ≤ nI (hiK k)) : vSet (nI k) w := by
  refine ⟨inN (by omega) (by omega) (by decide), fun z => ?_, fun z => ?_⟩
  · have hk3 : k = 3 := (nI_eq (by omega) (by decide)).mp z
    rw [loK, if_pos hk3] at h1
    rw [hiK, if_pos hk3] at h2
    exact ⟨Int32.not_lt.mp h1, h2⟩
  · have hk3 : ¬ k = 3 := fun q => z (by rw [q])
    rw [loK, if_neg hk3] at h1
    rw [hiK, if_neg hk3] at h2
    exact ⟨Int32.not_lt.mp h1, h2⟩
theorem set_b {N : NS} {k : Nat} (hF : FI N) (hk : k < 4) : N k < 2 ^ 31 := by
  have h3 := hF.2.2.2.1
  by_cases z : k = 3
  · subst z; omega
  · have := hF.2.2.1 k (by omega); omega
theorem YX2_changeSetting : YV yX2_changeSetting RX2 cX2_changeSetting 4 (some .int) 2 := ⟨mw_4_21, mw_4_22, mw_1_15, mw_4_23, by decide +kernel⟩
set_option maxHeartbeats 4000000 in
set_option maxRecDepth 100000 in
theorem c_X2_changeSetting_ok (l : Launch) (G : GP) (a : Nat → Nat) (N : NS) (k v : Nat) (hk : k < 4) (h3 : k = 3 → v ≤ 1) (hn : ¬ k = 3 → 1 ≤ v ∧ v ≤ 50) : MI l yX2_changeSetting (.code yX2_changeSetting cX2_changeSetting 4 (some .int) :: GW) ({ frames := 0, cells := 0, slots := 0, locals := 0 }) [.ref (a 0), .int (nI (k)), .int (nI (v))] G (XS (sN G a N)) (sN G a (N)) (sN G a (un N k v)) (nI (N k)) := by
  refine MI.ofX (own := RX2) rfl rfl (Nat.le_of_ble_eq_true rfl) ?_
  intro pP eE sS mM below meth cC ls AA E hw hl hr hlk hE
  replace hl : lv_has ls 4 [(0, .ref (a 0)), (1, .int (nI (k))), (2, .int (nI (v)))] := hl
  obtain ⟨⟨hn1, hn2, t1, t2, hz1, ht1, hz2, ht2⟩, hAA⟩ := hE
  rw [← hAA] at hz1 ht1 hz2 ht2
  have hlo : (k = 3 → loK k = 0) ∧ (¬ k = 3 → loK k = 1) := ⟨fun z => if_pos z, fun z => if_neg z⟩
  have hhi : (k = 3 → hiK k = 1) ∧ (¬ k = 3 → hiK k = 50) := ⟨fun z => if_pos z, fun z => if_neg z⟩
  refine lv_iload_n E.1 E.2.1 dX2_changeSetting_0 rfl (lv_at hl 1 rfl) ?_
  refine lv_if_ltN (tgt := 27) E.1 E.2.1 (by omega) dX2_changeSetting_1 (by decide) (fun c1 => ?_) (fun c1 => ?_)
  · omega
  · skip
    refine lv_iload_n E.1 E.2.1 dX2_changeSetting_4 rfl (lv_at hl 1 rfl) ?_
    refine lv_iconst (v := nI 4) E.1 E.2.1 dX2_changeSetting_5 (by decide) ?_
    refine lv_icmp_geN (tgt := 27) E.1 E.2.1 (by omega) (by omega) dX2_changeSetting_6 (by decide) (fun c6 => ?_) (fun c6 => ?_)
    · omega
    · skip
      refine lv_iload_n E.1 E.2.1 dX2_changeSetting_9 rfl (lv_at hl 2 rfl) ?_
      refine va_getsN E.1 E.2.1 hz1 hw.2.2.1 E.2.2.2.1 (va_Nw.use rfl hn1) (fun _ h => h) dX2_changeSetting_10 ?_
      refine lv_iload_n E.1 E.2.1 dX2_changeSetting_13 rfl (lv_at hl 1 rfl) ?_
      refine va_ti E.1 E.2.1 ht1 hw.2.2.1 (vp_in_nI (by omega) (by decide)) (v := .int (nI (loK k))) (by rw [nI_clamp (by omega)]) dX2_changeSetting_14 ?_
      refine lv_icmp_ltN (tgt := 27) E.1 E.2.1 (by omega) (by omega) dX2_changeSetting_15 (by decide) (fun c15 => ?_) (fun c15 => ?_)
      · by_cases z : k = 3 <;> omega
      · skip
        refine lv_iload_n E.1 E.2.1 dX2_changeSetting_18 rfl (lv_at hl 2 rfl) ?_
        refine va_getsN E.1 E.2.1 hz2 hw.2.2.1 E.2.2.2.1 (va_Nw.use rfl hn2) (fun _ h => h) dX2_changeSetting_19 ?_
        refine lv_iload_n E.1 E.2.1 dX2_changeSetting_22 rfl (lv_at hl 1 rfl) ?_
        refine va_ti E.1 E.2.1 ht2 hw.2.2.1 (vp_in_nI (by omega) (by decide)) (v := .int (nI (hiK k))) (by rw [nI_clamp (by omega)]) dX2_changeSetting_23 ?_
        refine lv_icmp_leN (tgt := 30) E.1 E.2.1 (by omega) (by omega) dX2_changeSetting_24 (by decide) (fun c24 => ?_) (fun c24 => ?_)
        · skip
          refine lv_aload_n E.1 E.2.1 dX2_changeSetting_30 rfl (lv_at hl 0 rfl) ?_
          refine gX2_4 E hw mw_2_6 dX2_changeSetting_31 ?_
          refine lv_iload_n E.1 E.2.1 dX2_changeSetting_34 rfl (lv_at hl 1 rfl) ?_
          refine lN2_0 E hw (v := N k) (by omega) (rfl) dX2_changeSetting_35 ?_
          refine lv_istore_n (lv' := [(3, .int (nI (N k))), (0, .ref (a 0)), (1, .int (nI (k))), (2, .int (nI (v)))]) E.1 E.2.1 dX2_changeSetting_36 rfl hl (by decide) rfl (fun ls hl => ?_)
          refine lv_aload_n E.1 E.2.1 dX2_changeSetting_37 rfl (lv_at hl 1 rfl) ?_
          refine gX2_4 E hw mw_2_6 dX2_changeSetting_38 ?_
          refine lv_iload_n E.1 E.2.1 dX2_changeSetting_41 rfl (lv_at hl 2 rfl) ?_
          refine lv_iload_n E.1 E.2.1 dX2_changeSetting_42 rfl (lv_at hl 3 rfl) ?_
          refine sN2_0 E hw (by omega) dX2_changeSetting_43 (fun H locs hw => ?_)
          refine lv_iload_n E.1 E.2.1 dX2_changeSetting_44 rfl (lv_at hl 0 rfl) ?_
          exact rI E hr hlk (HB.eq hw (rfl)) (rfl) dX2_changeSetting_45
        · by_cases z : k = 3 <;> omega
set_option maxHeartbeats 4000000 in
set_option maxRecDepth 100000 in
theorem c_X2_changeSetting_bad (l : Launch) (G : GP) (a : Nat → Nat) (N : NS) (v w : Int32) (h : ¬ vSet v w) : MI l yX2_changeSetting (.code yX2_changeSetting cX2_changeSetting 4 (some .int) :: GW) ({ frames := 0, cells := 0, slots := 0, locals := 0 }) [.ref (a 0), .int (v), .int (w)] G (XS (sN G a N)) (sN G a (N)) (sN G a (N)) (-2) := by
  refine MI.ofX (own := RX2) rfl rfl (Nat.le_of_ble_eq_true rfl) ?_
  intro pP eE sS mM below meth cC ls AA E hw hl hr hlk hE
  replace hl : lv_has ls 4 [(0, .ref (a 0)), (1, .int (v)), (2, .int (w))] := hl
  obtain ⟨⟨hn1, hn2, t1, t2, hz1, ht1, hz2, ht2⟩, hAA⟩ := hE
  rw [← hAA] at hz1 ht1 hz2 ht2
  refine lv_iload_n E.1 E.2.1 dX2_changeSetting_0 rfl (lv_at hl 1 rfl) ?_
  refine lv_if_lt (tgt := 27) E.1 E.2.1 dX2_changeSetting_1 (by decide) (fun c1 => ?_) (fun c1 => ?_)
  · skip
    refine lv_bipush (v := -2) E.1 E.2.1 dX2_changeSetting_27 (by decide) ?_
    exact rI E hr hlk (HB.eq hw (rfl)) (rfl) dX2_changeSetting_29
  · skip
    refine lv_iload_n E.1 E.2.1 dX2_changeSetting_4 rfl (lv_at hl 1 rfl) ?_
    refine lv_iconst (v := nI 4) E.1 E.2.1 dX2_changeSetting_5 (by decide) ?_
    refine lv_icmp_ge (tgt := 27) E.1 E.2.1 dX2_changeSetting_6 (by decide) (fun c6 => ?_) (fun c6 => ?_)
    · skip
      refine lv_bipush (v := -2) E.1 E.2.1 dX2_changeSetting_27 (by decide) ?_
      exact rI E hr hlk (HB.eq hw (rfl)) (rfl) dX2_changeSetting_29
    · skip
      obtain ⟨k, hk, rfl⟩ := vp_in_of (x := v) (n := 4) (vp_in_r c1 c6) (by decide)
      have hlo : (k = 3 → loK k = 0) ∧ (¬ k = 3 → loK k = 1) := ⟨fun z => if_pos z, fun z => if_neg z⟩
      have hhi : (k = 3 → hiK k = 1) ∧ (¬ k = 3 → hiK k = 50) := ⟨fun z => if_pos z, fun z => if_neg z⟩
      refine lv_iload_n E.1 E.2.1 dX2_changeSetting_9 rfl (lv_at hl 2 rfl) ?_
      refine va_getsN E.1 E.2.1 hz1 hw.2.2.1 E.2.2.2.1 (va_Nw.use rfl hn1) (fun _ h => h) dX2_changeSetting_10 ?_
      refine lv_iload_n E.1 E.2.1 dX2_changeSetting_13 rfl (lv_at hl 1 rfl) ?_
      refine va_ti E.1 E.2.1 ht1 hw.2.2.1 (vp_in_nI (by omega) (by decide)) (v := .int (nI (loK k))) (by rw [nI_clamp (by omega)]) dX2_changeSetting_14 ?_
      refine lv_icmp_lt (tgt := 27) E.1 E.2.1 dX2_changeSetting_15 (by decide) (fun c15 => ?_) (fun c15 => ?_)
      · skip
        refine lv_bipush (v := -2) E.1 E.2.1 dX2_changeSetting_27 (by decide) ?_
        exact rI E hr hlk (HB.eq hw (rfl)) (rfl) dX2_changeSetting_29
      · skip
        refine lv_iload_n E.1 E.2.1 dX2_changeSetting_18 rfl (lv_at hl 2 rfl) ?_
        refine va_getsN E.1 E.2.1 hz2 hw.2.2.1 E.2.2.2.1 (va_Nw.use rfl hn2) (fun _ h => h) dX2_changeSetting_19 ?_
        refine lv_iload_n E.1 E.2.1 dX2_changeSetting_22 rfl (lv_at hl 1 rfl) ?_
        refine va_ti E.1 E.2.1 ht2 hw.2.2.1 (vp_in_nI (by omega) (by decide)) (v := .int (nI (hiK k))) (by rw [nI_clamp (by omega)]) dX2_changeSetting_23 ?_
        refine lv_icmp_le (tgt := 30) E.1 E.2.1 dX2_changeSetting_24 (by decide) (fun c24 => ?_) (fun c24 => ?_)
        · exact absurd (vset_i hk c15 c24) h
        · skip
          refine lv_bipush (v := -2) E.1 E.2.1 dX2_changeSetting_27 (by decide) ?_
          exact rI E hr hlk (HB.eq hw (rfl)) (rfl) dX2_changeSetting_29
theorem YX3_set : YV yX3_set RX3 cX3_set 3 (some .int) 2 := ⟨mw_3_17, mw_3_18, mw_1_2, mw_3_19, by decide +kernel⟩
set_option maxHeartbeats 4000000 in
set_option maxRecDepth 100000 in
theorem c_X3_set_bad (l : Launch) (G : GP) (b : Nat → Nat) (ad : Nat → Nat → Nat) (v pd rv : Nat → Int32) (Ns : Nat → NS) (nx u : Nat) (hx0 : v 0 = nI nx) (hnx : nx < 7) (hu0 : v 1 = nI u) (hu6 : u ≤ 6) (e w : Int32) (h : ¬ vSet e w) : MI l yX3_set (.code yX3_set cX3_set 3 (some .int) :: GW) ({ frames := 4, cells := 0, slots := 0, locals := 80 }) [.ref (b 0), .int (e), .int (w)] G (XS (cW G b ad v pd rv Ns)) (cW G b ad (v) (pd) (rv) (Ns)) (cW G b ad (v) (pd) (rv) (va_up (Ns) (2 + nx) (Ns 0))) (-2) := by
  refine MI.ofX (own := RX3) rfl rfl (Nat.le_of_ble_eq_true rfl) ?_
  intro pP eE sS mM below meth cC ls AA E hw hl hr hlk hE
  replace hl : lv_has ls 3 [(0, .ref (b 0)), (1, .int (e)), (2, .int (w))] := hl
  refine lv_aload_n E.1 E.2.1 dX3_set_0 rfl (lv_at hl 0 rfl) ?_
  refine callVV E (c_X3_noteStateBefore l G b ad (v) (pd) (rv) (Ns) nx u hx0 hnx hu0 hu6) mw_3_20 YX3_noteStateBefore ⟨rfl, rfl⟩ ⟨Nat.le_of_ble_eq_true rfl, Nat.le_of_ble_eq_true rfl⟩ ⟨Nat.zero_le _, Nat.zero_le _⟩ hw 0 rfl rfl rfl hl rfl (Nat.le_of_ble_eq_true rfl) dX3_set_1 (fun H locs hw => ?_)
  refine lv_aload_n E.1 E.2.1 dX3_set_4 rfl (lv_at hl 0 rfl) ?_
  refine lv_aload_n E.1 E.2.1 dX3_set_5 rfl (lv_at hl 0 rfl) ?_
  refine gX3_0 E hw mw_1_16 dX3_set_6 ?_
  refine lv_iload_n E.1 E.2.1 dX3_set_9 rfl (lv_at hl 1 rfl) ?_
  refine lv_iload_n E.1 E.2.1 dX3_set_10 rfl (lv_at hl 2 rfl) ?_
  refine callVIp E (c_X2_changeSetting_bad l G (ad 0) (Ns 0) e w h) XS.eb (hE.1.to hE.2 hw (cW_p0 (t := 0) (M := Ns 0) (va_up_ne _ _ (by omega)) (by omega))) mw_4_20 YX2_changeSetting ⟨rfl, rfl⟩ ⟨Nat.le_of_ble_eq_true rfl, Nat.le_of_ble_eq_true rfl⟩ ⟨Nat.zero_le _, Nat.zero_le _⟩ hw (cW_p0 (va_up_ne _ _ (by omega)) (by omega)) (cW_p0 (va_up_ne _ _ (by omega)) (by omega)) 0 rfl rfl rfl hl rfl (Nat.le_of_ble_eq_true rfl) dX3_set_11 (fun H locs hw => ?_)
  refine callVI E (c_X3_recorded_neg l G b ad (v) (pd) (rv) (va_up (Ns) (2 + nx) (Ns 0)) nx u hx0 hnx hu0 hu6 (-2) (by decide)) mw_5_0 YX3_recorded ⟨rfl, rfl⟩ ⟨Nat.le_of_ble_eq_true rfl, Nat.le_of_ble_eq_true rfl⟩ ⟨Nat.zero_le _, Nat.zero_le _⟩ hw 0 rfl rfl rfl hl rfl (Nat.le_of_ble_eq_true rfl) dX3_set_14 (fun H locs hw => ?_)
  exact rI E hr hlk (HB.eq hw (rfl)) (rfl) dX3_set_17
set_option maxHeartbeats 4000000 in
set_option maxRecDepth 100000 in
theorem c_X3_set_ok (l : Launch) (G : GP) (b : Nat → Nat) (ad : Nat → Nat → Nat) (v pd rv : Nat → Int32) (Ns : Nat → NS) (nx u : Nat) (hx0 : v 0 = nI nx) (hnx : nx < 7) (hu0 : v 1 = nI u) (hu6 : u ≤ 6) (k w : Nat) (hk : k < 4) (h3 : k = 3 → w ≤ 1) (hn : ¬ k = 3 → 1 ≤ w ∧ w ≤ 50) (hF : FI (Ns 0)) : MI l yX3_set (.code yX3_set cX3_set 3 (some .int) :: GW) ({ frames := 4, cells := 0, slots := 0, locals := 80 }) [.ref (b 0), .int (nI (k)), .int (nI (w))] G (XS (cW G b ad v pd rv Ns)) (cW G b ad (v) (pd) (rv) (Ns)) (cW G b ad (recV nx u v) (pd) (rv) (va_up (va_up (Ns) (2 + nx) (Ns 0)) 0 (un (Ns 0) k w))) (nI (Ns 0 k)) := by
  refine MI.ofX (own := RX3) rfl rfl (Nat.le_of_ble_eq_true rfl) ?_
  intro pP eE sS mM below meth cC ls AA E hw hl hr hlk hE
  replace hl : lv_has ls 3 [(0, .ref (b 0)), (1, .int (nI (k))), (2, .int (nI (w)))] := hl
  have hsk := set_b hF hk
  refine lv_aload_n E.1 E.2.1 dX3_set_0 rfl (lv_at hl 0 rfl) ?_
  refine callVV E (c_X3_noteStateBefore l G b ad (v) (pd) (rv) (Ns) nx u hx0 hnx hu0 hu6) mw_3_20 YX3_noteStateBefore ⟨rfl, rfl⟩ ⟨Nat.le_of_ble_eq_true rfl, Nat.le_of_ble_eq_true rfl⟩ ⟨Nat.zero_le _, Nat.zero_le _⟩ hw 0 rfl rfl rfl hl rfl (Nat.le_of_ble_eq_true rfl) dX3_set_1 (fun H locs hw => ?_)
  refine lv_aload_n E.1 E.2.1 dX3_set_4 rfl (lv_at hl 0 rfl) ?_
  refine lv_aload_n E.1 E.2.1 dX3_set_5 rfl (lv_at hl 0 rfl) ?_
  refine gX3_0 E hw mw_1_16 dX3_set_6 ?_
  refine lv_iload_n E.1 E.2.1 dX3_set_9 rfl (lv_at hl 1 rfl) ?_
  refine lv_iload_n E.1 E.2.1 dX3_set_10 rfl (lv_at hl 2 rfl) ?_
  refine callVIp E (c_X2_changeSetting_ok l G (ad 0) (Ns 0) k w hk h3 hn) XS.eb (hE.1.to hE.2 hw (cW_p0 (t := 0) (M := Ns 0) (va_up_ne _ _ (by omega)) (by omega))) mw_4_20 YX2_changeSetting ⟨rfl, rfl⟩ ⟨Nat.le_of_ble_eq_true rfl, Nat.le_of_ble_eq_true rfl⟩ ⟨Nat.zero_le _, Nat.zero_le _⟩ hw (cW_p0 (va_up_ne _ _ (by omega)) (by omega)) (cW_p (un (Ns 0) k w) (by omega)) 0 rfl rfl rfl hl rfl (Nat.le_of_ble_eq_true rfl) dX3_set_11 (fun H locs hw => ?_)
  refine callVI E (c_X3_recorded l G b ad (v) (pd) (rv) (va_up (va_up (Ns) (2 + nx) (Ns 0)) 0 (un (Ns 0) k w)) nx u hx0 hnx hu0 hu6 (nI (Ns 0 k)) ((nI_pos (by omega)))) mw_5_0 YX3_recorded ⟨rfl, rfl⟩ ⟨Nat.le_of_ble_eq_true rfl, Nat.le_of_ble_eq_true rfl⟩ ⟨Nat.zero_le _, Nat.zero_le _⟩ hw 0 rfl rfl rfl hl rfl (Nat.le_of_ble_eq_true rfl) dX3_set_14 (fun H locs hw => ?_)
  exact rI E hr hlk (HB.eq hw (rfl)) (rfl) dX3_set_17

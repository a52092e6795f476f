/-! ===== my own rows: worlds by permutation, contracts whose end is a function of their start ===== -/
abbrev GP : Type := va_G × (Nat → ClassId)
def tyL (G : GP) : List (ClassId × FieldType) := [(G.2 0, .int), (G.2 1, .char), (G.2 0, .int), (G.2 3, .object "ClerkVotes$State")]
theorem va_P_iff {D : va_G} {cl : List vw_C} {ws : va_W} {H : Heap} : va_P D cl ws H ↔ ∀ q ∈ ws, va_at D cl q H :=
  ⟨fun h q hq => by obtain ⟨k, hk⟩ := List.getElem?_of_mem hq; exact h k q hk, fun h k q hk => h q (List.mem_of_getElem? hk)⟩
theorem va_D_iff {A : Nat → Prop} {ws : va_W} : va_D A ws ↔ (ws.map Prod.fst).Nodup ∧ ∀ q ∈ ws, A q.1 := by
  constructor
  · intro h
    refine ⟨?_, fun q hq => by obtain ⟨k, hk⟩ := List.getElem?_of_mem hq; exact h.2 k q hk⟩
    rw [List.Nodup, List.pairwise_iff_getElem]
    intro i j hi hj hij he
    rw [List.length_map] at hi hj
    rw [List.getElem_map, List.getElem_map] at he
    have := h.1 i j ws[i] ws[j] (List.getElem?_eq_getElem hi) (List.getElem?_eq_getElem hj) he
    omega
  · intro h
    refine ⟨fun i j p q hi hj hpq => ?_, fun k q hk => h.2 q (List.mem_of_getElem? hk)⟩
    have hn := h.1
    rw [List.Nodup, List.pairwise_iff_getElem] at hn
    obtain ⟨hi1, hi2⟩ := List.getElem?_eq_some_iff.mp hi
    obtain ⟨hj1, hj2⟩ := List.getElem?_eq_some_iff.mp hj
    rcases Nat.lt_trichotomy i j with h1 | h1 | h1
    · exact absurd (by rw [List.getElem_map, List.getElem_map, hi2, hj2, hpq]) (hn i j (by rw [List.length_map]; exact hi1) (by rw [List.length_map]; exact hj1) h1)
    · exact h1
    · exact absurd (by rw [List.getElem_map, List.getElem_map, hi2, hj2, hpq]) (hn j i (by rw [List.length_map]; exact hj1) (by rw [List.length_map]; exact hi1) h1)
/-- the heap beside a frame: the world's cells, apart, in A; what isn't in A stays as it was at H0 -/
def HB (G : GP) (A : Nat → Prop) (H0 : Heap) (ws : va_W) (H : Heap) (locs : List Loc) : Prop := va_P G.1 vwCl ws H ∧ va_D A ws ∧ va_S A H0 H locs ∧ (∀ q : Nat, H0.size ≤ q → A q)
theorem HB.perm {G : GP} {A : Nat → Prop} {H0 : Heap} {ws ws' : va_W} {H : Heap} {locs : List Loc} (h : HB G A H0 ws H locs) (hp : ws.Perm ws') : HB G A H0 ws' H locs := by
  obtain ⟨h1, h2, h3⟩ := h
  refine ⟨va_P_iff.mpr fun q hq => va_P_iff.mp h1 q (hp.mem_iff.mpr hq), va_D_iff.mpr ⟨(hp.map _).nodup_iff.mp (va_D_iff.mp h2).1, fun q hq => (va_D_iff.mp h2).2 q (hp.mem_iff.mpr hq)⟩, h3⟩
theorem HB.cut {G : GP} {A : Nat → Prop} {H0 : Heap} {big w r : va_W} {H : Heap} {locs : List Loc} (h : HB G A H0 big H locs) (hp : (w ++ r).Perm big) : va_P G.1 vwCl w H ∧ va_D (fun _ => True) w ∧ (∀ q : Nat, va_A w H.size q → A q) := by
  obtain ⟨h1, h2, h3, h4⟩ := h.perm hp.symm
  have g1 := va_P_iff.mp h1
  obtain ⟨g2, g3⟩ := va_D_iff.mp h2
  rw [List.map_append] at g2
  refine ⟨va_P_iff.mpr fun q hq => g1 q (List.mem_append_left _ hq), va_D_iff.mpr ⟨(List.nodup_append.mp g2).1, fun _ _ => trivial⟩, fun q hq => ?_⟩
  rcases hq with ⟨k, e, hk⟩ | hq
  · exact g3 (q, e) (List.mem_append_left _ (List.mem_of_getElem? hk))
  · exact h4 q (Nat.le_trans h3.1 hq)
theorem HB.glue {G : GP} {A : Nat → Prop} {H0 : Heap} {big big' w w' r : va_W} {H H1 : Heap} {locs locs1 : List Loc} (h : HB G A H0 big H locs) (hp : (w ++ r).Perm big) (hp' : (w' ++ r).Perm big')
    (hk : ∀ q : Nat, q < H.size → ¬ va_A w H.size q → H1[q]? = H[q]?) (hP1 : va_P G.1 vwCl w' H1) (hD1 : va_D (va_A w H.size) w') (hS : va_S A H0 H1 locs1) : HB G A H0 big' H1 locs1 := by
  have hF := (h.cut hp).2.2
  obtain ⟨h1, h2, h3, h4⟩ := h.perm hp.symm
  have g1 := va_P_iff.mp h1
  obtain ⟨g2, g3⟩ := va_D_iff.mp h2
  rw [List.map_append, List.nodup_append] at g2
  obtain ⟨k1, k2⟩ := va_D_iff.mp hD1
  have apart : ∀ q ∈ r, q.1 < H.size ∧ ¬ va_A w H.size q.1 := by
    intro q hq
    have hl := (g1 q (List.mem_append_right _ hq)).lt
    refine ⟨hl, fun z => ?_⟩
    rcases z with ⟨k, e, hk⟩ | z
    · exact g2.2.2 q.1 (List.mem_map.mpr ⟨(q.1, e), List.mem_of_getElem? hk, rfl⟩) q.1 (List.mem_map.mpr ⟨q, hq, rfl⟩) rfl
    · omega
  have hN : HB G A H0 (w' ++ r) H1 locs1 := by
    refine ⟨va_P_iff.mpr fun q hq => ?_, va_D_iff.mpr ⟨?_, fun q hq => ?_⟩, hS, h4⟩
    · rcases List.mem_append.mp hq with z | z
      · exact va_P_iff.mp hP1 q z
      · exact (g1 q (List.mem_append_right _ z)).kept (hk q.1 (apart q z).1 (apart q z).2)
    · rw [List.map_append, List.nodup_append]
      refine ⟨k1, g2.2.1, fun a ha b hb hab => ?_⟩
      obtain ⟨q, hq, rfl⟩ := List.mem_map.mp ha
      obtain ⟨q2, hq2, rfl⟩ := List.mem_map.mp hb
      exact (apart q2 hq2).2 (hab ▸ k2 q hq)
    · rcases List.mem_append.mp hq with z | z
      · exact hF q.1 (k2 q z)
      · exact g3 q (List.mem_append_right _ z)
  exact hN.perm hp'
/-- the links across the nest -/
def NW (U : State) : Prop := va_Nw (.methodLinkNest RX2 69 yX3_isIn RX3) U ∧ va_Nw (.methodLinkNest RX3 9 yX2_init RX3) U ∧ va_Nw (.methodLinkNest RX2 17 yX1_init RX3) U ∧ va_Nw (.methodLinkNest RX3 32 yX0_init RX3) U
theorem NW.warm {s U : State} (hW : s.WarmedH U.vm) (h : NW s) : NW U := ⟨va_Nw.warmM hW h.1, va_Nw.warmM hW h.2.1, va_Nw.warmM hW h.2.2.1, va_Nw.warmM hW h.2.2.2⟩
theorem NW.same {s U : State} (hv : s.vm = U.vm) (h : NW s) : NW U := ⟨va_Nw.same rfl hv h.1, va_Nw.same rfl hv h.2.1, va_Nw.same rfl hv h.2.2.1, va_Nw.same rfl hv h.2.2.2⟩
def PW (G : GP) (sz : Nat) (ws : va_W) (Ex : State → Prop) : State → Prop := fun U => U.heap.size = sz ∧ va_P G.1 vwCl ws U.heap ∧ va_K G.1 vwCl (tyL G) U ∧ va_D (fun _ => True) ws ∧ NW U ∧ Ex U
def EB (Ex : State → Prop) : Prop := ∀ (U : State) (g : JFrame) (mk : MethodId) (a : Array Value), Ex U → Ex (U.calling g mk a)
theorem PW.blind {G : GP} {sz : Nat} {ws : va_W} {Ex : State → Prop} {av : List Value} (hE : EB Ex) : FrameBlind (va_Pc av (PW G sz ws Ex)) := fun a U g mk q => by
  obtain ⟨q0, q1, qP, qK, qD, qN, qE⟩ := q
  exact ⟨q0, q1, qP, va_K.moved (u := U) (U := U.calling g mk a) (Vm.Alike.refl U.vm) qK, qD, NW.same (s := U) (U := U.calling g mk a) rfl qN, hE U g mk a qE⟩
def ES : State → Prop := fun _ => True
theorem ES.eb : EB ES := fun _ _ _ _ _ => trivial
def QI (G : GP) (A : Nat → Prop) (w' : va_W) (r : Int32) : Array Value → State → Outcome → State → Prop := va_Qi (fun (r' : Int32) (_ : Unit) => r' = r) (fun _ t => va_P G.1 vwCl w' t.heap ∧ va_D A w') A
def QV (G : GP) (A : Nat → Prop) (w' : va_W) : Array Value → State → Outcome → State → Prop := va_Qv (fun (_ : Unit) => True) (fun _ t => va_P G.1 vwCl w' t.heap ∧ va_D A w') A
def MI (l : Launch) (y : MethodName) (ws : List Cond) (rm : Room) (av : List Value) (G : GP) (Ex : State → Prop) (w w' : va_W) (r : Int32) : Prop :=
  ∀ sz : Nat, Met l y ws rm (va_Pc av (PW G sz w Ex)) (QI G (va_A w sz) w' r) 0 0 (va_A w sz)
def MV (l : Launch) (y : MethodName) (ws : List Cond) (rm : Room) (av : List Value) (G : GP) (Ex : State → Prop) (w w' : va_W) : Prop :=
  ∀ sz : Nat, Met l y ws rm (va_Pc av (PW G sz w Ex)) (QV G (va_A w sz) w') 0 0 (va_A w sz)
/-- what stands fixed in a method's body -/
def EN (p : Program) (c : Code) (cc : ByteArray) (s : State) (m : MethodId) (args : Array Value) (own : String) (nL : Nat) (G : GP) : Prop :=
  p.tables.exec = Jvm.exec ∧ c.code = cc ∧ c.maxLocals = nL ∧ s.vm.findClass own = some m.cls ∧ (∀ w ∈ GW, w.before args s = true) ∧ va_K G.1 vwCl (tyL G) s ∧ NW s
theorem MI.of {l : Launch} {y : MethodName} {cc : ByteArray} {maxL : Nat} {ret : Option FieldType} {rm : Room} {av : List Value} {G : GP} {Ex : State → Prop} {w w' : va_W} {r : Int32} {own : String} (hy : plainName y.cls = true) (ho : y.cls = own) (hsl : (lg_sl av).length ≤ maxL)
    (body : ∀ (p : Program) (e : Env) (s : State) (m : MethodId) (below : List Frame) (meth : Method) (c : Code) (ls : Array Slot) (A : Nat → Prop), EN p c cc s m av.toArray own maxL G → HB G A s.heap w s.heap [] → lv_has ls maxL (lv_args 0 av) → meth.sig.returnType = ret → meth.locks = false → Ex s →
      W p l e rm s m av.toArray below meth c s.heap [] 0 0 (MQ below (QI G A w' r) av.toArray s 0 0 A) (F0 m 0 ls [])) : MI l y (.code y cc maxL ret :: GW) rm av G Ex w w' r := by
  intro sz
  refine Met.ofW (cc := cc) (maxL := maxL) (ret := ret) hy rfl ?_
  intro p e s m args below meth c s₁ B hml hv
  obtain ⟨rfl, hsz, hP, hK, hD0, hN, hEx⟩ := hv
  have hts0 := atoms_spec (ws := .code y cc maxL ret :: GW) B.pre
  have hown : s.vm.findClass y.cls = some m.cls := findClass_of_methodNamed B.named
  subst hsz
  have hl := lv_entry av (n := maxL) hsl
  rw [lg_entry_eq]
  exact body p e s m below meth c _ _ ⟨B.exec, B.bytes, hml, ho ▸ hown, fun w h => hts0 w (List.mem_cons_of_mem _ h), hK, hN⟩ ⟨hP, hD0.self, va_S.rf, fun q h => Or.inr h⟩ hl B.returns B.notSynchronized hEx
theorem MV.of {l : Launch} {y : MethodName} {cc : ByteArray} {maxL : Nat} {ret : Option FieldType} {rm : Room} {av : List Value} {G : GP} {Ex : State → Prop} {w w' : va_W} {own : String} (hy : plainName y.cls = true) (ho : y.cls = own) (hsl : (lg_sl av).length ≤ maxL)
    (body : ∀ (p : Program) (e : Env) (s : State) (m : MethodId) (below : List Frame) (meth : Method) (c : Code) (ls : Array Slot) (A : Nat → Prop), EN p c cc s m av.toArray own maxL G → HB G A s.heap w s.heap [] → lv_has ls maxL (lv_args 0 av) → meth.sig.returnType = ret → meth.locks = false → Ex s →
      W p l e rm s m av.toArray below meth c s.heap [] 0 0 (MQ below (QV G A w') av.toArray s 0 0 A) (F0 m 0 ls [])) : MV l y (.code y cc maxL ret :: GW) rm av G Ex w w' := by
  intro sz
  refine Met.ofW (cc := cc) (maxL := maxL) (ret := ret) hy rfl ?_
  intro p e s m args below meth c s₁ B hml hv
  obtain ⟨rfl, hsz, hP, hK, hD0, hN, hEx⟩ := hv
  have hts0 := atoms_spec (ws := .code y cc maxL ret :: GW) B.pre
  have hown : s.vm.findClass y.cls = some m.cls := findClass_of_methodNamed B.named
  subst hsz
  have hl := lv_entry av (n := maxL) hsl
  rw [lg_entry_eq]
  exact body p e s m below meth c _ _ ⟨B.exec, B.bytes, hml, ho ▸ hown, fun w h => hts0 w (List.mem_cons_of_mem _ h), hK, hN⟩ ⟨hP, hD0.self, va_S.rf, fun q h => Or.inr h⟩ hl B.returns B.notSynchronized hEx
/-- a callee's words -/
def YV (y : MethodName) (C : String) (bytes : ByteArray) (maxL : Nat) (ret : Option FieldType) (n : Nat) : Prop :=
  Cond.instanceMethod y ∈ GW ∧ Cond.selects C y y ∈ GW ∧ Cond.initialized C ∈ GW ∧ Cond.code y bytes maxL ret ∈ GW ∧ (y.cls = C ∧ y.cls ≠ "java/lang/invoke/MethodHandle" ∧ y.cls ≠ "java/lang/invoke/VarHandle" ∧ (parseMethodDescriptor y.desc).map (fun d => d.parameters.length) = some n)
def YS (y : MethodName) (C : String) (bytes : ByteArray) (maxL : Nat) (ret : Option FieldType) (n : Nat) : Prop :=
  Cond.static y ∈ GW ∧ Cond.initialized C ∈ GW ∧ Cond.code y bytes maxL ret ∈ GW ∧ (y.cls = C ∧ y.cls ≠ "java/lang/invoke/MethodHandle" ∧ y.cls ≠ "java/lang/invoke/VarHandle" ∧ (parseMethodDescriptor y.desc).map (fun d => d.parameters.length) = some n)
theorem GW_good {ws : List Cond} (h : ∀ w ∈ ws, w ∈ GW) : GoodIn GW ws := fun w hw => ⟨h w hw, good_of_word (List.all_eq_true.mp GW_gd w (h w hw))⟩
theorem gwV {own C : String} {index maxL : Nat} {y : MethodName} {bytes : ByteArray} {ret : Option FieldType} (h1 : Cond.methodLink own index y ∈ GW) (h2 : Cond.instanceMethod y ∈ GW) (h3 : Cond.selects C y y ∈ GW) (h4 : Cond.initialized C ∈ GW) (h5 : Cond.code y bytes maxL ret ∈ GW) : GoodIn GW (wsV own index C y (.code y bytes maxL ret :: GW)) := by
  refine GW_good fun w hw => ?_
  rcases List.mem_append.mp hw with h | h
  · simp only [List.mem_cons, List.not_mem_nil, or_false] at h
    rcases h with rfl | rfl | rfl | rfl
    · exact h1
    · exact h2
    · exact h3
    · exact h4
  · rcases List.mem_cons.mp h with rfl | h
    · exact h5
    · exact h
theorem gwS {own C : String} {index maxL : Nat} {y : MethodName} {bytes : ByteArray} {ret : Option FieldType} (hC : y.cls = C) (h1 : Cond.methodLink own index y ∈ GW) (h2 : Cond.static y ∈ GW) (h4 : Cond.initialized C ∈ GW) (h5 : Cond.code y bytes maxL ret ∈ GW) : GoodIn GW (va_wsS own index y (.code y bytes maxL ret :: GW)) := by
  refine GW_good fun w hw => ?_
  rcases List.mem_append.mp hw with h | h
  · simp only [List.mem_cons, List.not_mem_nil, or_false] at h
    rcases h with rfl | rfl | rfl
    · exact h1
    · exact h2
    · rw [hC]; exact h4
  · rcases List.mem_cons.mp h with rfl | h
    · exact h5
    · exact h
section LIB
variable {p : Program} {l : Launch} {e : Env} {R : Room} {s : State} {m : MethodId} {args : Array Value} {below : List Frame} {meth : Method} {c : Code} {H : Heap} {locs : List Loc} {cells slots : Nat} {Q : State → Prop}
variable {cc : ByteArray} {pc : Nat} {ls : Array Slot} {rest st0 : List Value} {A : Nat → Prop} {H0 : Heap} {own : String} {nL : Nat} {G : GP}
theorem rI (E : EN p c cc s m args own nL G) (hr : meth.sig.returnType = some .int) (hlk : meth.locks = false) {w' : va_W} (hw : HB G A s.heap w' H locs) {v r : Int32} (hv : v = r) (hdg : decode cc pc = .ok (.ireturn, 1)) : W p l e R s m args below meth c H locs 0 0 (MQ below (QI G A w' r) args s 0 0 A) (F0 m pc ls [.int v]) :=
  W.iret E.1 E.2.1 hr (fun t ht hW => ⟨⟨v, (), rfl, hv, by rw [ht]; exact hw.1, hw.2.1⟩, hw.2.2.1.F ht⟩) hw.2.2.1.2.2 hdg hlk
theorem rZ (E : EN p c cc s m args own nL G) (hr : meth.sig.returnType = some .boolean) (hlk : meth.locks = false) {w' : va_W} (hw : HB G A s.heap w' H locs) {v r : Int32} (hv : v = r) (hn : narrow .boolean (.int v) = .int v) (hdg : decode cc pc = .ok (.ireturn, 1)) : W p l e R s m args below meth c H locs 0 0 (MQ below (QI G A w' r) args s 0 0 A) (F0 m pc ls [.int v]) :=
  W.zret E.1 E.2.1 hr hn (fun t ht hW => ⟨⟨v, (), rfl, hv, by rw [ht]; exact hw.1, hw.2.1⟩, hw.2.2.1.F ht⟩) hw.2.2.1.2.2 hdg hlk
theorem rV (E : EN p c cc s m args own nL G) (hr : meth.sig.returnType = none) (hlk : meth.locks = false) {w' : va_W} (hw : HB G A s.heap w' H locs) (hdg : decode cc pc = .ok (.return_, 1)) : W p l e R s m args below meth c H locs 0 0 (MQ below (QV G A w') args s 0 0 A) (F0 m pc ls []) :=
  W.vret E.1 E.2.1 hr (fun t ht hW => ⟨⟨(), rfl, trivial, by rw [ht]; exact hw.1, hw.2.1⟩, hw.2.2.1.F ht⟩) hw.2.2.1.2.2 hdg hlk
variable {y : MethodName} {bytes : ByteArray} {maxL index n : Nat} {ret : Option FieldType} {rm : Room} {C : String} {b : Addr} {As : List Value} {Ex : State → Prop} {big big' w w' rr : va_W} {r : Int32} {lv : List (Nat × Value)}
theorem callVIp (E : EN p c cc s m args own nL G) (hM : MI l y (.code y bytes maxL ret :: GW) rm (.ref b :: As) G Ex w w' r) (hEb : EB Ex) (hEx : ∀ U : State, U.heap = H → s.WarmedH U.vm → Ex U) (h1 : Cond.methodLink own index y ∈ GW) (hY : YV y C bytes maxL ret n)
    (hrm : rm.cells = 0 ∧ rm.slots = 0) (hR : rm.frames + 1 ≤ R.frames ∧ 8 + (maxL + 11) + rm.locals ≤ R.locals) (hcs : cells ≤ R.cells ∧ slots ≤ R.slots) (hw : HB G A H0 big H locs) (hp : (w ++ rr).Perm big) (hp' : (w' ++ rr).Perm big')
    (q0 : Nat) {ci : Nat} {fs : List Value} {T : u_T} {N : Nat} (he : w[q0]? = some (b, .inr (ci, fs))) (hc : vwCl[ci]? = some (C, T, N)) (hn : As.length = n) (hl : lv_has ls nL lv) (hst : st0 = As.reverse ++ .ref b :: rest) (hcat : (rest.map fun v => v.category).sum ≤ 8)
    (hdg : decode cc pc = .ok (.invokevirtual index, 3)) (kk : ∀ (H1 : Heap) (locs1 : List Loc), HB G A H0 big' H1 locs1 → W p l e R s m args below meth c H1 locs1 cells slots Q (F0 m (pc + 3) ls (.int r :: rest))) : W p l e R s m args below meth c H locs cells slots Q (F0 m pc ls st0) := by
  obtain ⟨hx, hb, hml, hown, hts, hK, hN⟩ := E
  obtain ⟨hP, hDt, hF⟩ := hw.cut hp
  obtain ⟨g2, g3, g4, g5, g6⟩ := hY
  refine va_calli (va_runV (As := As) (rest := rest) (g := F0 m pc ls st0) (cells := cells) (slots := slots) ⟨hx, hb, hml, hown, hts⟩ (hM H.size) (cwV n hts (gwV h1 g2 g3 g4 g5) rfl hrm.1 hrm.2 g6 hR) ⟨PW.blind hEb, va_recv hK hP hc he, fun U hU hW => ⟨rfl, by rw [hU], by rw [hU]; exact hP, va_K.moved hW.alike hK, hDt, hN.warm hW, hEx U hU hW⟩⟩ rfl hn hl.1 hst (lv_room hcat) hdg hcs) hw.2.2.1 (fun q _ h => hF q h) hF (fun r' u t H1 locs1 ht hvm hpost hB hz hk hS => ?_)
  subst hpost
  exact kk H1 locs1 (hw.glue hp hp' hk (ht ▸ hB.1) hB.2 hS)
theorem callVVp (E : EN p c cc s m args own nL G) (hM : MV l y (.code y bytes maxL ret :: GW) rm (.ref b :: As) G Ex w w') (hEb : EB Ex) (hEx : ∀ U : State, U.heap = H → s.WarmedH U.vm → Ex U) (h1 : Cond.methodLink own index y ∈ GW) (hY : YV y C bytes maxL ret n)
    (hrm : rm.cells = 0 ∧ rm.slots = 0) (hR : rm.frames + 1 ≤ R.frames ∧ 8 + (maxL + 11) + rm.locals ≤ R.locals) (hcs : cells ≤ R.cells ∧ slots ≤ R.slots) (hw : HB G A H0 big H locs) (hp : (w ++ rr).Perm big) (hp' : (w' ++ rr).Perm big')
    (q0 : Nat) {ci : Nat} {fs : List Value} {T : u_T} {N : Nat} (he : w[q0]? = some (b, .inr (ci, fs))) (hc : vwCl[ci]? = some (C, T, N)) (hn : As.length = n) (hl : lv_has ls nL lv) (hst : st0 = As.reverse ++ .ref b :: rest) (hcat : (rest.map fun v => v.category).sum ≤ 8)
    (hdg : decode cc pc = .ok (.invokevirtual index, 3)) (kk : ∀ (H1 : Heap) (locs1 : List Loc), HB G A H0 big' H1 locs1 → W p l e R s m args below meth c H1 locs1 cells slots Q (F0 m (pc + 3) ls rest)) : W p l e R s m args below meth c H locs cells slots Q (F0 m pc ls st0) := by
  obtain ⟨hx, hb, hml, hown, hts, hK, hN⟩ := E
  obtain ⟨hP, hDt, hF⟩ := hw.cut hp
  obtain ⟨g2, g3, g4, g5, g6⟩ := hY
  refine va_callv (va_runV (As := As) (rest := rest) (g := F0 m pc ls st0) (cells := cells) (slots := slots) ⟨hx, hb, hml, hown, hts⟩ (hM H.size) (cwV n hts (gwV h1 g2 g3 g4 g5) rfl hrm.1 hrm.2 g6 hR) ⟨PW.blind hEb, va_recv hK hP hc he, fun U hU hW => ⟨rfl, by rw [hU], by rw [hU]; exact hP, va_K.moved hW.alike hK, hDt, hN.warm hW, hEx U hU hW⟩⟩ rfl hn hl.1 hst (lv_room hcat) hdg hcs) hw.2.2.1 (fun q _ h => hF q h) hF (fun u t H1 locs1 ht hvm hpost hB hz hk hS => ?_)
  exact kk H1 locs1 (hw.glue hp hp' hk (ht ▸ hB.1) hB.2 hS)
theorem callVI (E : EN p c cc s m args own nL G) (hM : MI l y (.code y bytes maxL ret :: GW) rm (.ref b :: As) G ES w w' r) (h1 : Cond.methodLink own index y ∈ GW) (hY : YV y C bytes maxL ret n)
    (hrm : rm.cells = 0 ∧ rm.slots = 0) (hR : rm.frames + 1 ≤ R.frames ∧ 8 + (maxL + 11) + rm.locals ≤ R.locals) (hcs : cells ≤ R.cells ∧ slots ≤ R.slots) (hw : HB G A H0 w H locs)
    (q0 : Nat) {ci : Nat} {fs : List Value} {T : u_T} {N : Nat} (he : w[q0]? = some (b, .inr (ci, fs))) (hc : vwCl[ci]? = some (C, T, N)) (hn : As.length = n) (hl : lv_has ls nL lv) (hst : st0 = As.reverse ++ .ref b :: rest) (hcat : (rest.map fun v => v.category).sum ≤ 8)
    (hdg : decode cc pc = .ok (.invokevirtual index, 3)) (kk : ∀ (H1 : Heap) (locs1 : List Loc), HB G A H0 w' H1 locs1 → W p l e R s m args below meth c H1 locs1 cells slots Q (F0 m (pc + 3) ls (.int r :: rest))) : W p l e R s m args below meth c H locs cells slots Q (F0 m pc ls st0) :=
  callVIp E hM ES.eb (fun _ _ _ => trivial) h1 hY hrm hR hcs hw (rr := []) (by rw [List.append_nil]) (by rw [List.append_nil]) q0 he hc hn hl hst hcat hdg kk
theorem callVV (E : EN p c cc s m args own nL G) (hM : MV l y (.code y bytes maxL ret :: GW) rm (.ref b :: As) G ES w w') (h1 : Cond.methodLink own index y ∈ GW) (hY : YV y C bytes maxL ret n)
    (hrm : rm.cells = 0 ∧ rm.slots = 0) (hR : rm.frames + 1 ≤ R.frames ∧ 8 + (maxL + 11) + rm.locals ≤ R.locals) (hcs : cells ≤ R.cells ∧ slots ≤ R.slots) (hw : HB G A H0 w H locs)
    (q0 : Nat) {ci : Nat} {fs : List Value} {T : u_T} {N : Nat} (he : w[q0]? = some (b, .inr (ci, fs))) (hc : vwCl[ci]? = some (C, T, N)) (hn : As.length = n) (hl : lv_has ls nL lv) (hst : st0 = As.reverse ++ .ref b :: rest) (hcat : (rest.map fun v => v.category).sum ≤ 8)
    (hdg : decode cc pc = .ok (.invokevirtual index, 3)) (kk : ∀ (H1 : Heap) (locs1 : List Loc), HB G A H0 w' H1 locs1 → W p l e R s m args below meth c H1 locs1 cells slots Q (F0 m (pc + 3) ls rest)) : W p l e R s m args below meth c H locs cells slots Q (F0 m pc ls st0) :=
  callVVp E hM ES.eb (fun _ _ _ => trivial) h1 hY hrm hR hcs hw (rr := []) (by rw [List.append_nil]) (by rw [List.append_nil]) q0 he hc hn hl hst hcat hdg kk
/-- a static method of the own class, over any cells (mostly none) -/
theorem callSI (E : EN p c cc s m args own nL G) (hM : MI l y (.code y bytes maxL ret :: GW) rm As G ES w w' r) (h1 : Cond.methodLink own index y ∈ GW) (hY : YS y C bytes maxL ret n)
    (hrm : rm.cells = 0 ∧ rm.slots = 0) (hR : rm.frames + 1 ≤ R.frames ∧ 8 + (maxL + 11) + rm.locals ≤ R.locals) (hcs : cells ≤ R.cells ∧ slots ≤ R.slots) (hw : HB G A H0 big H locs) (hp : (w ++ rr).Perm big) (hp' : (w' ++ rr).Perm big')
    (hn : As.length = n) (hl : lv_has ls nL lv) (hst : st0 = As.reverse ++ rest) (hcat : (rest.map fun v => v.category).sum ≤ 8)
    (hdg : decode cc pc = .ok (.invokestatic index, 3)) (kk : ∀ (H1 : Heap) (locs1 : List Loc), HB G A H0 big' H1 locs1 → W p l e R s m args below meth c H1 locs1 cells slots Q (F0 m (pc + 3) ls (.int r :: rest))) : W p l e R s m args below meth c H locs cells slots Q (F0 m pc ls st0) := by
  obtain ⟨hx, hb, hml, hown, hts, hK, hN⟩ := E
  obtain ⟨hP, hDt, hF⟩ := hw.cut hp
  obtain ⟨g2, g4, g5, g6⟩ := hY
  refine va_calli (va_runS (As := As) (rest := rest) (g := F0 m pc ls st0) (cells := cells) (slots := slots) ⟨hx, hb, hml, hown, hts⟩ (hM H.size) (va_cwS n hts (gwS g6.1 h1 g2 g4 g5) rfl hrm.1 hrm.2 g6.2 hR) ⟨PW.blind ES.eb, fun U hU hW => ⟨rfl, by rw [hU], by rw [hU]; exact hP, va_K.moved hW.alike hK, hDt, hN.warm hW, trivial⟩⟩ rfl hn hl.1 hst (lv_room hcat) hdg hcs) hw.2.2.1 (fun q _ h => hF q h) hF (fun r' u t H1 locs1 ht hvm hpost hB hz hk hS => ?_)
  subst hpost
  exact kk H1 locs1 (hw.glue hp hp' hk (ht ▸ hB.1) hB.2 hS)
/-- a private static method of a nest mate -/
theorem callSNI {host : String} (E : EN p c cc s m args own nL G) (hM : MI l y (.code y bytes maxL ret :: GW) rm As G ES w w' r) (h1 : va_Nw (.methodLinkNest own index y host) s) (hY : YS y C bytes maxL ret n)
    (hrm : rm.cells = 0 ∧ rm.slots = 0) (hR : rm.frames + 1 ≤ R.frames ∧ 8 + (maxL + 11) + rm.locals ≤ R.locals) (hcs : cells ≤ R.cells ∧ slots ≤ R.slots) (hw : HB G A H0 big H locs) (hp : (w ++ rr).Perm big) (hp' : (w' ++ rr).Perm big')
    (hn : As.length = n) (hl : lv_has ls nL lv) (hst : st0 = As.reverse ++ rest) (hcat : (rest.map fun v => v.category).sum ≤ 8)
    (hdg : decode cc pc = .ok (.invokestatic index, 3)) (kk : ∀ (H1 : Heap) (locs1 : List Loc), HB G A H0 big' H1 locs1 → W p l e R s m args below meth c H1 locs1 cells slots Q (F0 m (pc + 3) ls (.int r :: rest))) : W p l e R s m args below meth c H locs cells slots Q (F0 m pc ls st0) := by
  obtain ⟨hx, hb, hml, hown, hts, hK, hN⟩ := E
  obtain ⟨hP, hDt, hF⟩ := hw.cut hp
  obtain ⟨g2, g4, g5, g6⟩ := hY
  have hG : GoodIn GW (.code y bytes maxL ret :: GW) := GW_good fun w hw => (List.mem_cons.mp hw).elim (fun e => e ▸ g5) id
  refine va_calli (va_runSN (As := As) (rest := rest) (g := F0 m pc ls st0) (cells := cells) (slots := slots) ⟨hx, hb, hml, hown, hts⟩ (hM H.size) ⟨va_cnB n hts hG rfl hrm.1 hrm.2 h1 (hts _ (g6.1 ▸ g4)) g6.2 hR, hts _ g2, trivial⟩ ⟨PW.blind ES.eb, fun U hU hW => ⟨rfl, by rw [hU], by rw [hU]; exact hP, va_K.moved hW.alike hK, hDt, hN.warm hW, trivial⟩⟩ rfl hn hl.1 hst (lv_room hcat) hdg hcs) hw.2.2.1 (fun q _ h => hF q h) hF (fun r' u t H1 locs1 ht hvm hpost hB hz hk hS => ?_)
  subst hpost
  exact kk H1 locs1 (hw.glue hp hp' hk (ht ▸ hB.1) hB.2 hS)
end LIB

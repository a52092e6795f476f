/-! ===== the law's own contracts: its script, worlds told by a witness, roads that meet ===== -/
def CV (v : Nat → Int32) : Prop := ∃ nx u : Nat, v 0 = nI nx ∧ nx < 7 ∧ v 1 = nI u ∧ u ≤ 6
theorem CV.rec {v : Nat → Int32} {nx u : Nat} (hnx : nx < 7) (hu : u ≤ 6) : CV (recV nx u v) := by
  refine ⟨if nx = 6 then 0 else nx + 1, if u = 6 then 6 else u + 1, ?_, ?_, ?_, ?_⟩
  · unfold recV upd; rw [if_neg (by decide), if_pos rfl]
  · split <;> omega
  · unfold recV upd; rw [if_pos rfl]
  · split <;> omega
def XSc (sb L : Nat) (xs : Nat → Int32) (U : State) : Prop := va_X sb L xs U U.heap ∧ sb < U.heap.size
theorem XSc.eb {sb L : Nat} {xs : Nat → Int32} : EB (XSc sb L xs) := fun U g mk a h => ⟨va_X.moved (u := U) (U := U.calling g mk a) (Vm.Alike.refl U.vm) h.1, h.2⟩
theorem XSc.to {sb L : Nat} {xs : Nat → Int32} {G : GP} {big : va_W} {A : Nat → Prop} {s : State} {H : Heap} {locs : List Loc} (h : XSc sb L xs s) (hA : ¬ A sb) (hw : HB G A s.heap big H locs) : ∀ U : State, U.heap = H → s.WarmedH U.vm → XSc sb L xs U := by
  intro U hU hW
  have hk : U.heap[sb]? = s.heap[sb]? := by rw [hU]; exact hw.2.2.1.2.1 sb h.2 hA
  refine ⟨(va_X.moved hW.alike h.1).kept hk, ?_⟩
  rw [hU]
  exact Nat.lt_of_lt_of_le h.2 hw.2.2.1.1
def XL (w : va_W) (sb L : Nat) (xs : Nat → Int32) (U : State) : Prop := XS w U ∧ XSc sb L xs U
theorem XL.eb {w : va_W} {sb L : Nat} {xs : Nat → Int32} : EB (XL w sb L xs) := fun U g mk a h => ⟨XS.eb U g mk a h.1, XSc.eb U g mk a h.2⟩
theorem MI.ofE {l : Launch} {y : MethodName} {cc : ByteArray} {maxL : Nat} {ret : Option FieldType} {rm : Room} {av : List Value} {G : GP} {Ex : State → Prop} {w w' : va_W} {r : Int32} {own : String} (hy : plainName y.cls = true) (ho : y.cls = own) (hsl : (lg_sl av).length ≤ maxL)
    (body : ∀ (p : Program) (e : Env) (s : State) (m : MethodId) (below : List Frame) (meth : Method) (c : Code) (ls : Array Slot) (A : Nat → Prop), EN p c cc s m av.toArray own maxL G → HB G A s.heap w s.heap [] → lv_has ls maxL (lv_args 0 av) → meth.sig.returnType = ret → meth.locks = false → Ex s ∧ A = va_A w s.heap.size →
      W p l e rm s m av.toArray below meth c s.heap [] 0 0 (MQ below (QI G A w' r) av.toArray s 0 0 A) (F0 m 0 ls [])) : MI l y (.code y cc maxL ret :: GW) rm av G Ex w w' r := by
  intro sz
  refine Met.ofW (cc := cc) (maxL := maxL) (ret := ret) hy rfl ?_
  intro p e s m args below meth c s₁ B hml hv
  obtain ⟨rfl, hsz, hP, hK, hD0, hN, hEx⟩ := hv
  have hts0 := atoms_spec (ws := .code y cc maxL ret :: GW) B.pre
  have hown : s.vm.findClass y.cls = some m.cls := findClass_of_methodNamed B.named
  subst hsz
  have hl := lv_entry av (n := maxL) hsl
  rw [lg_entry_eq]
  exact body p e s m below meth c _ _ ⟨B.exec, B.bytes, hml, ho ▸ hown, fun w h => hts0 w (List.mem_cons_of_mem _ h), hK, hN⟩ ⟨hP, hD0.self, va_S.rf, fun q h => Or.inr h⟩ hl B.returns B.notSynchronized ⟨hEx, rfl⟩
/-- a method of the law's that answers 1; the world behind it is told by a witness -/
def MU {U : Type} (l : Launch) (y : MethodName) (ws : List Cond) (rm : Room) (av : List Value) (G : GP) (Ex : State → Prop) (w : va_W) (w' : U → va_W) (ok : U → Prop) : Prop :=
  ∀ sz : Nat, Met l y ws rm (va_Pc av (PW G sz w Ex)) (va_Qi (fun (r : Int32) (u : U) => r = 1 ∧ ok u) (fun u t => va_P G.1 vwCl (w' u) t.heap ∧ va_D (va_A w sz) (w' u)) (va_A w sz)) rm.cells rm.slots (va_A w sz)
def QU {U : Type} (G : GP) (A : Nat → Prop) (w' : U → va_W) (ok : U → Prop) : Array Value → State → Outcome → State → Prop := va_Qi (fun (r : Int32) (u : U) => r = 1 ∧ ok u) (fun u t => va_P G.1 vwCl (w' u) t.heap ∧ va_D A (w' u)) A
theorem MU.of {U : Type} {l : Launch} {y : MethodName} {cc : ByteArray} {maxL : Nat} {ret : Option FieldType} {rm : Room} {av : List Value} {G : GP} {Ex : State → Prop} {w : va_W} {w' : U → va_W} {ok : U → Prop} {own : String} (hy : plainName y.cls = true) (ho : y.cls = own) (hsl : (lg_sl av).length ≤ maxL)
    (body : ∀ (p : Program) (e : Env) (s : State) (m : MethodId) (below : List Frame) (meth : Method) (c : Code) (ls : Array Slot) (A : Nat → Prop), EN p c cc s m av.toArray own maxL G → HB G A s.heap w s.heap [] → lv_has ls maxL (lv_args 0 av) → meth.sig.returnType = ret → meth.locks = false → Ex s ∧ A = va_A w s.heap.size →
      W p l e rm s m av.toArray below meth c s.heap [] 0 0 (MQ below (QU G A w' ok) av.toArray s rm.cells rm.slots A) (F0 m 0 ls [])) : MU l y (.code y cc maxL ret :: GW) rm av G Ex w w' ok := by
  intro sz
  refine Met.ofW (cc := cc) (maxL := maxL) (ret := ret) hy rfl ?_
  intro p e s m args below meth c s₁ B hml hv
  obtain ⟨rfl, hsz, hP, hK, hD0, hN, hEx⟩ := hv
  have hts0 := atoms_spec (ws := .code y cc maxL ret :: GW) B.pre
  have hown : s.vm.findClass y.cls = some m.cls := findClass_of_methodNamed B.named
  subst hsz
  have hl := lv_entry av (n := maxL) hsl
  rw [lg_entry_eq]
  exact body p e s m below meth c _ _ ⟨B.exec, B.bytes, hml, ho ▸ hown, fun w h => hts0 w (List.mem_cons_of_mem _ h), hK, hN⟩ ⟨hP, hD0.self, va_S.rf, fun q h => Or.inr h⟩ hl B.returns B.notSynchronized ⟨hEx, rfl⟩
section LLIB
variable {p : Program} {l : Launch} {e : Env} {R : Room} {s : State} {m : MethodId} {args : Array Value} {below : List Frame} {meth : Method} {c : Code} {H : Heap} {locs : List Loc} {cells slots : Nat} {Q : State → Prop}
variable {cc : ByteArray} {pc : Nat} {ls : Array Slot} {rest st0 : List Value} {A : Nat → Prop} {H0 : Heap} {own : String} {nL : Nat} {G : GP}
theorem rU {U : Type} {w' : U → va_W} {ok : U → Prop} {mc ms : Nat} (E : EN p c cc s m args own nL G) (hr : meth.sig.returnType = some .boolean) (hlk : meth.locks = false) (u : U) (hok : ok u) (hw : HB G A s.heap (w' u) H locs) (hdg : decode cc pc = .ok (.ireturn, 1)) : W p l e R s m args below meth c H locs mc ms (MQ below (QU G A w' ok) args s mc ms A) (F0 m pc ls [.int 1]) :=
  W.zret E.1 E.2.1 hr rfl (fun t ht hW => ⟨⟨1, u, rfl, ⟨rfl, hok⟩, by rw [ht]; exact hw.1, hw.2.1⟩, hw.2.2.1.F ht⟩) hw.2.2.1.2.2 hdg hlk
variable {y : MethodName} {bytes : ByteArray} {maxL index n : Nat} {ret : Option FieldType} {rm : Room} {C : String} {b : Addr} {As : List Value} {Ex : State → Prop} {big big' w w' rr : va_W} {r : Int32} {lv : List (Nat × Value)}
/-- a static method of the own class, with more that it asks of the state -/
theorem callSX (E : EN p c cc s m args own nL G) (hM : MI l y (.code y bytes maxL ret :: GW) rm As G Ex w w' r) (hEb : EB Ex) (hEx : ∀ V : State, V.heap = H → s.WarmedH V.vm → Ex V) (h1 : Cond.methodLink own index y ∈ GW) (hY : YS y C bytes maxL ret n)
    (hrm : rm.cells = 0 ∧ rm.slots = 0) (hR : rm.frames + 1 ≤ R.frames ∧ 8 + (maxL + 11) + rm.locals ≤ R.locals) (hcs : cells ≤ R.cells ∧ slots ≤ R.slots) (hw : HB G A H0 big H locs) (hp : (w ++ rr).Perm big) (hp' : (w' ++ rr).Perm big')
    (hn : As.length = n) (hl : lv_has ls nL lv) (hst : st0 = As.reverse ++ rest) (hcat : (rest.map fun v => v.category).sum ≤ 8)
    (hdg : decode cc pc = .ok (.invokestatic index, 3)) (kk : ∀ (H1 : Heap) (locs1 : List Loc), HB G A H0 big' H1 locs1 → W p l e R s m args below meth c H1 locs1 cells slots Q (F0 m (pc + 3) ls (.int r :: rest))) : W p l e R s m args below meth c H locs cells slots Q (F0 m pc ls st0) := by
  obtain ⟨hx, hb, hml, hown, hts, hK, hN⟩ := E
  obtain ⟨hP, hDt, hF⟩ := hw.cut hp
  obtain ⟨g2, g4, g5, g6⟩ := hY
  refine va_calli (va_runS (As := As) (rest := rest) (g := F0 m pc ls st0) (cells := cells) (slots := slots) ⟨hx, hb, hml, hown, hts⟩ (hM H.size) (va_cwS n hts (gwS g6.1 h1 g2 g4 g5) rfl hrm.1 hrm.2 g6.2 hR) ⟨PW.blind hEb, fun U hU hW => ⟨rfl, by rw [hU], by rw [hU]; exact hP, va_K.moved hW.alike hK, hDt, hN.warm hW, hEx U hU hW⟩⟩ rfl hn hl.1 hst (lv_room hcat) hdg hcs) hw.2.2.1 (fun q _ h => hF q h) hF (fun r' u t H1 locs1 ht hvm hpost hB hz hk hS => ?_)
  subst hpost
  exact kk H1 locs1 (hw.glue hp hp' hk (ht ▸ hB.1) hB.2 hS)
theorem callMU {U : Type} {w' : U → va_W} {ok : U → Prop} (E : EN p c cc s m args own nL G) (hM : MU l y (.code y bytes maxL ret :: GW) rm As G Ex w w' ok) (hEb : EB Ex) (hEx : ∀ V : State, V.heap = H → s.WarmedH V.vm → Ex V) (h1 : Cond.methodLink own index y ∈ GW) (hY : YS y C bytes maxL ret n)
    (hR : rm.frames + 1 ≤ R.frames ∧ 8 + (maxL + 11) + rm.locals ≤ R.locals) (hcs : cells + rm.cells ≤ R.cells ∧ slots + rm.slots ≤ R.slots) (hw : HB G A H0 w H locs)
    (hn : As.length = n) (hl : lv_has ls nL lv) (hst : st0 = As.reverse ++ rest) (hcat : (rest.map fun v => v.category).sum ≤ 8)
    (hdg : decode cc pc = .ok (.invokestatic index, 3)) (kk : ∀ (u : U) (H1 : Heap) (locs1 : List Loc), ok u → HB G A H0 (w' u) H1 locs1 → W p l e R s m args below meth c H1 locs1 (cells + rm.cells) (slots + rm.slots) Q (F0 m (pc + 3) ls (.int 1 :: rest))) : W p l e R s m args below meth c H locs cells slots Q (F0 m pc ls st0) := by
  obtain ⟨hx, hb, hml, hown, hts, hK, hN⟩ := E
  have hp : (w ++ []).Perm w := by rw [List.append_nil]
  obtain ⟨hP, hDt, hF⟩ := hw.cut hp
  obtain ⟨g2, g4, g5, g6⟩ := hY
  refine va_calli (va_runS (As := As) (rest := rest) (g := F0 m pc ls st0) (cells := cells) (slots := slots) ⟨hx, hb, hml, hown, hts⟩ (hM H.size) (va_cwS n hts (gwS g6.1 h1 g2 g4 g5) rfl rfl rfl g6.2 hR) ⟨PW.blind hEb, fun U hU hW => ⟨rfl, by rw [hU], by rw [hU]; exact hP, va_K.moved hW.alike hK, hDt, hN.warm hW, hEx U hU hW⟩⟩ rfl hn hl.1 hst (lv_room hcat) hdg hcs) hw.2.2.1 (fun q _ h => hF q h) hF (fun r' u t H1 locs1 ht hvm hpost hB hz hk hS => ?_)
  obtain ⟨rfl, hok⟩ := hpost
  exact kk u H1 locs1 hok (hw.glue hp (by rw [List.append_nil]) hk (ht ▸ hB.1) hB.2 hS)
/-- an array of ints, among the world's first cells -/
theorem aLd (E : EN p c cc s m args own nL G) (hw : HB G A H0 w H locs) (q0 : Nat) {a k : Nat} {f : Nat → Int32} (ha : w[q0]? = some (a, .inl (G.2 0, k, .inl f))) {j : Nat} (hj : j < k) (hk : k < 2 ^ 31) {v : Int32} (hv : f j = v) (hdg : decode cc pc = .ok (.iaload, 1)) (kk : W p l e R s m args below meth c H locs cells slots Q (F0 m (pc + 1) ls (.int v :: rest))) : W p l e R s m args below meth c H locs cells slots Q (F0 m pc ls (.int (nI j) :: .ref a :: rest)) :=
  va_iald E.1 E.2.1 E.2.2.2.2.2.1 hw.1 q0 0 ha rfl (vp_in_nI hj hk) hdg (by rw [nI_clamp (Nat.lt_trans hj hk), hv]; exact kk)
theorem aSt (E : EN p c cc s m args own nL G) (hw : HB G A H0 w H locs) (q0 : Nat) {a k : Nat} {f : Nat → Int32} (ha : w[q0]? = some (a, .inl (G.2 0, k, .inl f))) {j : Nat} (hj : j < k) (hk : k < 2 ^ 31) {z : Int32} (hdg : decode cc pc = .ok (.iastore, 1)) (kk : ∀ (H1 : Heap) (locs1 : List Loc), HB G A H0 (w.set q0 (a, .inl (G.2 0, k, .inl (upd f j z)))) H1 locs1 → W p l e R s m args below meth c H1 locs1 cells slots Q (F0 m (pc + 1) ls rest)) : W p l e R s m args below meth c H locs cells slots Q (F0 m pc ls (.int z :: .int (nI j) :: .ref a :: rest)) :=
  va_iast E.1 E.2.1 E.2.2.2.2.2.1 hw.1 hw.2.1 hw.2.2.1 q0 0 ha rfl (vp_in_nI hj hk) hdg (fun H1 locs1 hP hD hS => kk H1 locs1 (by rw [nI_clamp (Nat.lt_trans hj hk)] at hP hD; exact ⟨hP, hD, hS, hw.2.2.2⟩))
theorem W_join0 (pc2 : Nat) (P : Prop) (I : va_W) (L : List (Nat × Value)) (st2 : List Value)
    (here : (P → ∀ (H : Heap) (locs : List Loc) (ls : Array Slot), HB G A H0 I H locs → lv_has ls nL L → W p l e R s m args below meth c H locs cells slots Q (F0 m pc2 ls st2)) → W p l e R s m args below meth c H locs cells slots Q (F0 m pc ls st0))
    (kont : P → ∀ (H : Heap) (locs : List Loc) (ls : Array Slot), HB G A H0 I H locs → lv_has ls nL L → W p l e R s m args below meth c H locs cells slots Q (F0 m pc2 ls st2)) : W p l e R s m args below meth c H locs cells slots Q (F0 m pc ls st0) := here kont
theorem W_join1 {S1 : Type} (pc2 : Nat) (P : S1 → Prop) (I : S1 → va_W) (L : S1 → List (Nat × Value)) (st2 : S1 → List Value)
    (here : (∀ (x1 : S1), P x1 → ∀ (H : Heap) (locs : List Loc) (ls : Array Slot), HB G A H0 (I x1) H locs → lv_has ls nL (L x1) → W p l e R s m args below meth c H locs cells slots Q (F0 m pc2 ls (st2 x1))) → W p l e R s m args below meth c H locs cells slots Q (F0 m pc ls st0))
    (kont : ∀ (x1 : S1), P x1 → ∀ (H : Heap) (locs : List Loc) (ls : Array Slot), HB G A H0 (I x1) H locs → lv_has ls nL (L x1) → W p l e R s m args below meth c H locs cells slots Q (F0 m pc2 ls (st2 x1))) : W p l e R s m args below meth c H locs cells slots Q (F0 m pc ls st0) := here kont
theorem W_join2 {S1 S2 : Type} (pc2 : Nat) (P : S1 → S2 → Prop) (I : S1 → S2 → va_W) (L : S1 → S2 → List (Nat × Value)) (st2 : S1 → S2 → List Value)
    (here : (∀ (x1 : S1) (x2 : S2), P x1 x2 → ∀ (H : Heap) (locs : List Loc) (ls : Array Slot), HB G A H0 (I x1 x2) H locs → lv_has ls nL (L x1 x2) → W p l e R s m args below meth c H locs cells slots Q (F0 m pc2 ls (st2 x1 x2))) → W p l e R s m args below meth c H locs cells slots Q (F0 m pc ls st0))
    (kont : ∀ (x1 : S1) (x2 : S2), P x1 x2 → ∀ (H : Heap) (locs : List Loc) (ls : Array Slot), HB G A H0 (I x1 x2) H locs → lv_has ls nL (L x1 x2) → W p l e R s m args below meth c H locs cells slots Q (F0 m pc2 ls (st2 x1 x2))) : W p l e R s m args below meth c H locs cells slots Q (F0 m pc ls st0) := here kont
theorem W_join3 {S1 S2 S3 : Type} (pc2 : Nat) (P : S1 → S2 → S3 → Prop) (I : S1 → S2 → S3 → va_W) (L : S1 → S2 → S3 → List (Nat × Value)) (st2 : S1 → S2 → S3 → List Value)
    (here : (∀ (x1 : S1) (x2 : S2) (x3 : S3), P x1 x2 x3 → ∀ (H : Heap) (locs : List Loc) (ls : Array Slot), HB G A H0 (I x1 x2 x3) H locs → lv_has ls nL (L x1 x2 x3) → W p l e R s m args below meth c H locs cells slots Q (F0 m pc2 ls (st2 x1 x2 x3))) → W p l e R s m args below meth c H locs cells slots Q (F0 m pc ls st0))
    (kont : ∀ (x1 : S1) (x2 : S2) (x3 : S3), P x1 x2 x3 → ∀ (H : Heap) (locs : List Loc) (ls : Array Slot), HB G A H0 (I x1 x2 x3) H locs → lv_has ls nL (L x1 x2 x3) → W p l e R s m args below meth c H locs cells slots Q (F0 m pc2 ls (st2 x1 x2 x3))) : W p l e R s m args below meth c H locs cells slots Q (F0 m pc ls st0) := here kont
theorem W_join4 {S1 S2 S3 S4 : Type} (pc2 : Nat) (P : S1 → S2 → S3 → S4 → Prop) (I : S1 → S2 → S3 → S4 → va_W) (L : S1 → S2 → S3 → S4 → List (Nat × Value)) (st2 : S1 → S2 → S3 → S4 → List Value)
    (here : (∀ (x1 : S1) (x2 : S2) (x3 : S3) (x4 : S4), P x1 x2 x3 x4 → ∀ (H : Heap) (locs : List Loc) (ls : Array Slot), HB G A H0 (I x1 x2 x3 x4) H locs → lv_has ls nL (L x1 x2 x3 x4) → W p l e R s m args below meth c H locs cells slots Q (F0 m pc2 ls (st2 x1 x2 x3 x4))) → W p l e R s m args below meth c H locs cells slots Q (F0 m pc ls st0))
    (kont : ∀ (x1 : S1) (x2 : S2) (x3 : S3) (x4 : S4), P x1 x2 x3 x4 → ∀ (H : Heap) (locs : List Loc) (ls : Array Slot), HB G A H0 (I x1 x2 x3 x4) H locs → lv_has ls nL (L x1 x2 x3 x4) → W p l e R s m args below meth c H locs cells slots Q (F0 m pc2 ls (st2 x1 x2 x3 x4))) : W p l e R s m args below meth c H locs cells slots Q (F0 m pc ls st0) := here kont
theorem W_join5 {S1 S2 S3 S4 S5 : Type} (pc2 : Nat) (P : S1 → S2 → S3 → S4 → S5 → Prop) (I : S1 → S2 → S3 → S4 → S5 → va_W) (L : S1 → S2 → S3 → S4 → S5 → List (Nat × Value)) (st2 : S1 → S2 → S3 → S4 → S5 → List Value)
    (here : (∀ (x1 : S1) (x2 : S2) (x3 : S3) (x4 : S4) (x5 : S5), P x1 x2 x3 x4 x5 → ∀ (H : Heap) (locs : List Loc) (ls : Array Slot), HB G A H0 (I x1 x2 x3 x4 x5) H locs → lv_has ls nL (L x1 x2 x3 x4 x5) → W p l e R s m args below meth c H locs cells slots Q (F0 m pc2 ls (st2 x1 x2 x3 x4 x5))) → W p l e R s m args below meth c H locs cells slots Q (F0 m pc ls st0))
    (kont : ∀ (x1 : S1) (x2 : S2) (x3 : S3) (x4 : S4) (x5 : S5), P x1 x2 x3 x4 x5 → ∀ (H : Heap) (locs : List Loc) (ls : Array Slot), HB G A H0 (I x1 x2 x3 x4 x5) H locs → lv_has ls nL (L x1 x2 x3 x4 x5) → W p l e R s m args below meth c H locs cells slots Q (F0 m pc2 ls (st2 x1 x2 x3 x4 x5))) : W p l e R s m args below meth c H locs cells slots Q (F0 m pc ls st0) := here kont
theorem W_join6 {S1 S2 S3 S4 S5 S6 : Type} (pc2 : Nat) (P : S1 → S2 → S3 → S4 → S5 → S6 → Prop) (I : S1 → S2 → S3 → S4 → S5 → S6 → va_W) (L : S1 → S2 → S3 → S4 → S5 → S6 → List (Nat × Value)) (st2 : S1 → S2 → S3 → S4 → S5 → S6 → List Value)
    (here : (∀ (x1 : S1) (x2 : S2) (x3 : S3) (x4 : S4) (x5 : S5) (x6 : S6), P x1 x2 x3 x4 x5 x6 → ∀ (H : Heap) (locs : List Loc) (ls : Array Slot), HB G A H0 (I x1 x2 x3 x4 x5 x6) H locs → lv_has ls nL (L x1 x2 x3 x4 x5 x6) → W p l e R s m args below meth c H locs cells slots Q (F0 m pc2 ls (st2 x1 x2 x3 x4 x5 x6))) → W p l e R s m args below meth c H locs cells slots Q (F0 m pc ls st0))
    (kont : ∀ (x1 : S1) (x2 : S2) (x3 : S3) (x4 : S4) (x5 : S5) (x6 : S6), P x1 x2 x3 x4 x5 x6 → ∀ (H : Heap) (locs : List Loc) (ls : Array Slot), HB G A H0 (I x1 x2 x3 x4 x5 x6) H locs → lv_has ls nL (L x1 x2 x3 x4 x5 x6) → W p l e R s m args below meth c H locs cells slots Q (F0 m pc2 ls (st2 x1 x2 x3 x4 x5 x6))) : W p l e R s m args below meth c H locs cells slots Q (F0 m pc ls st0) := here kont
end LLIB

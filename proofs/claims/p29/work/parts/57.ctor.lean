/-! ===== constructors: contracts that make cells ===== -/
theorem va_RA_fc {U : State} {cA : ClassId} {ty : FieldType} (h : va_RA U cA ty) : U.vm.findClass ("[" ++ ty.toString) = some cA := by
  cases ty with
  | object C => obtain ⟨_, _, _, _, _, h4⟩ := h; exact h4
  | _ => exact h
theorem va_RA_eq {U : State} {cA cB : ClassId} {ty : FieldType} (h : va_RA U cA ty) (g : va_RA U cB ty) : cA = cB := Option.some.inj ((va_RA_fc h).symm.trans (va_RA_fc g))
def MC {U : Type} (l : Launch) (y : MethodName) (ws : List Cond) (rm : Room) (a : Nat) (G : GP) (Ex : State → Prop) (w : va_W) (w' : U → va_W) : Prop :=
  ∀ sz : Nat, Met l y ws rm (va_Pc [.ref a] (PW G sz w Ex)) (va_Qv (fun (_ : U) => True) (fun u t => va_P G.1 vwCl (w' u) t.heap ∧ va_D (va_A w sz) (w' u)) (va_A w sz)) rm.cells rm.slots (va_A w sz)
def QC {U : Type} (G : GP) (A : Nat → Prop) (w' : U → va_W) : Array Value → State → Outcome → State → Prop := va_Qv (fun (_ : U) => True) (fun u t => va_P G.1 vwCl (w' u) t.heap ∧ va_D A (w' u)) A
theorem MC.of {U : Type} {l : Launch} {y : MethodName} {cc : ByteArray} {maxL : Nat} {rm : Room} {a : Nat} {G : GP} {Ex : State → Prop} {w : va_W} {w' : U → va_W} {own : String} (hy : plainName y.cls = true) (ho : y.cls = own) (hsl : 1 ≤ maxL) (hin0 : y.name = "<init>")
    (body : ∀ (p : Program) (e : Env) (s : State) (m : MethodId) (below : List Frame) (meth : Method) (c : Code) (ls : Array Slot) (A : Nat → Prop), EN p c cc s m #[.ref a] own maxL G → HB G A s.heap w s.heap [] → lv_has ls maxL [(0, .ref a)] → meth.sig.returnType = none → meth.locks = false → meth.name = "<init>" → Ex s →
      W p l e rm s m #[.ref a] below meth c s.heap [] 0 0 (MQ below (QC G A w') #[.ref a] s rm.cells rm.slots A) (F0 m 0 ls [])) : MC l y (.code y cc maxL none :: GW) rm a G Ex w w' := by
  intro sz
  refine Met.ofW (cc := cc) (maxL := maxL) (ret := none) hy rfl ?_
  intro p e s m args below meth c s₁ B hml hv
  obtain ⟨rfl, hsz, hP, hK, hD0, hN, hEx⟩ := hv
  have hts0 := atoms_spec (ws := .code y cc maxL none :: GW) B.pre
  have hown : s.vm.findClass y.cls = some m.cls := findClass_of_methodNamed B.named
  have hin : meth.name = y.name := (name_of_methodNamed B.named B.method).1
  subst hsz
  have hl := lv_entry [.ref a] (n := maxL) hsl
  rw [lg_entry_eq]
  exact body p e s m below meth c _ _ ⟨B.exec, B.bytes, hml, ho ▸ hown, fun w h => hts0 w (List.mem_cons_of_mem _ h), hK, hN⟩ ⟨hP, hD0.self, va_S.rf, fun q h => Or.inr h⟩ hl B.returns B.notSynchronized (hin.trans hin0) hEx
/-- a constructor's words -/
def YC (y : MethodName) (C : String) (bytes : ByteArray) (maxL : Nat) : Prop :=
  Cond.instanceMethod y ∈ GW ∧ Cond.initialized C ∈ GW ∧ Cond.code y bytes maxL none ∈ GW ∧ y.name = "<init>" ∧ (y.cls = C ∧ y.cls ≠ "java/lang/invoke/MethodHandle" ∧ y.cls ≠ "java/lang/invoke/VarHandle" ∧ (parseMethodDescriptor y.desc).map (fun d => d.parameters.length) = some 0)
section LIBC
variable {p : Program} {l : Launch} {e : Env} {R : Room} {s : State} {m : MethodId} {args : Array Value} {below : List Frame} {meth : Method} {c : Code} {H : Heap} {locs : List Loc} {cells slots : Nat} {Q : State → Prop}
variable {cc : ByteArray} {pc : Nat} {ls : Array Slot} {rest st0 : List Value} {A : Nat → Prop} {H0 : Heap} {own : String} {nL : Nat} {G : GP}
variable {y : MethodName} {bytes : ByteArray} {maxL index : Nat} {rm : Room} {C : String} {b : Addr} {Ex : State → Prop} {w rr : va_W} {U : Type} {w' : U → va_W} {lv : List (Nat × Value)}
theorem rC (E : EN p c cc s m args own nL G) (hr : meth.sig.returnType = none) (hlk : meth.locks = false) {w' : U → va_W} {mc ms : Nat} (u : U) (hw : HB G A s.heap (w' u) H locs) (hdg : decode cc pc = .ok (.return_, 1)) : W p l e R s m args below meth c H locs mc ms (MQ below (QC G A w') args s mc ms A) (F0 m pc ls []) :=
  W.vret E.1 E.2.1 hr (fun t ht hW => ⟨⟨u, rfl, trivial, by rw [ht]; exact hw.1, hw.2.1⟩, hw.2.2.1.F ht⟩) hw.2.2.1.2.2 hdg hlk
theorem oI (E : EN p c cc s m args own nL G) {idx : Nat} (h1 : Cond.methodLink own idx objectInit ∈ GW) (hl : lv_has ls nL lv) {a : Addr} (hR : 1 ≤ R.frames ∧ (rest.map fun v => v.category).sum + 12 ≤ R.locals) (hdg : decode cc pc = .ok (.invokespecial idx, 3)) (kk : W p l e R s m args below meth c H locs cells slots Q (F0 m (pc + 3) ls rest)) : W p l e R s m args below meth c H locs cells slots Q (F0 m pc ls (.ref a :: rest)) := by
  obtain ⟨hx, hb, hml, hown, hts, hK, hN⟩ := E
  refine W.objInit hx hb hown (hts _ h1) (hts _ mw_1_11) (hts _ mw_1_12) rfl (by rw [hml]; exact hl.1) rfl hdg hR.1 (by show 2 * 0 + _ + 12 ≤ _; omega) ?_
  exact kk
theorem nwA (E : EN p c cc s m args own nL G) (hw : HB G A H0 w H locs) {t : Nat} {ty : FieldType} (ht : (tyL G)[t]? = some (G.2 t, ty)) {atype : ArrayType} (hty : newarray.typeOf atype = ty) (harr : Cond.arrayClass ty ∈ GW) {k : Nat} {a0 : vp_A} (ha : ∀ cA : ClassId, vp_cell cA a0 = arrV cA k (fun _ => defaultValue ty)) (hk : k < 2 ^ 31 ∧ k * componentBytes ty ≤ 536870912) (hcs : cells + 1 ≤ R.cells ∧ slots + k ≤ R.slots) (hdg : decode cc pc = .ok (.newarray atype, 2))
    (kk : ∀ (q : Nat) (H1 : Heap), HB G A H0 (w ++ [(q, .inl (G.2 t, a0))]) H1 locs → W p l e R s m args below meth c H1 locs (cells + 1) (slots + k) Q (F0 m (pc + 2) ls (.ref q :: rest))) : W p l e R s m args below meth c H locs cells slots Q (F0 m pc ls (.int (nI k) :: rest)) := by
  obtain ⟨hx, hb, hml, hown, hts, hK, hN⟩ := E
  refine va_newa hx hb (hts _ (by rw [hty]; exact harr)) hty hK hw.1 hw.2.1 hw.2.2.1 hw.2.2.2 ha (nI_pos hk.1) (nI_clamp hk.1) hk.2 hcs.1 hcs.2 hdg (fun q cA H1 hK1 hP1 hD1 hS1 => ?_)
  have h1 : va_RA s cA ty := (hK1.2 4 (cA, ty) rfl).2
  have h2 : va_RA s (G.2 t) ty := (hK.2 t _ ht).2
  obtain rfl := va_RA_eq h1 h2
  exact kk q H1 ⟨hP1, hD1, hS1, hw.2.2.2⟩
theorem nwO (E : EN p c cc s m args own nL G) (hw : HB G A H0 w H locs) {T : u_T} {N ci : Nat} (hin : ∀ w ∈ u_ws C T N, w ∈ GW) (ty : Nat → FieldType) (hty : ∀ k, k < N → parseFieldDescriptor (T k).2.2.1 = some (ty k)) (hcl : Cond.classLink own index C ∈ GW) (hinst : Cond.instantiable C N ∈ GW) (hini : Cond.initialized C ∈ GW) (hc : vwCl[ci]? = some (C, T, N)) {fs : List Value} (hfs : ∀ j, j < N → defaultValue (ty j) = vp_V fs j) (hcs : cells + 1 ≤ R.cells ∧ slots + N ≤ R.slots) (hdg : decode cc pc = .ok (.new index, 3))
    (kk : ∀ (q : Nat) (H1 : Heap), HB G A H0 (w ++ [(q, .inr (ci, fs))]) H1 locs → W p l e R s m args below meth c H1 locs (cells + 1) (slots + N) Q (F0 m (pc + 3) ls (.ref q :: rest))) : W p l e R s m args below meth c H locs cells slots Q (F0 m pc ls rest) := by
  obtain ⟨hx, hb, hml, hown, hts, hK, hN⟩ := E
  exact va_new hx hb hts hin ty hty hown (hts _ hcl) (hts _ hinst) (hts _ hini) hK hw.1 hw.2.1 hw.2.2.1 hw.2.2.2 hc hfs hcs.1 hcs.2 hdg (fun q H1 hP1 hD1 hS1 => kk q H1 ⟨hP1, hD1, hS1, hw.2.2.2⟩)
/-- a constructor over the nest: its cells come behind -/
theorem callCN {host : String} (E : EN p c cc s m args own nL G) (hM : MC l y (.code y bytes maxL none :: GW) rm b G Ex w w') (hEb : EB Ex) (hEx : ∀ V : State, V.heap = H → s.WarmedH V.vm → Ex V) (h1 : va_Nw (.methodLinkNest own index y host) s) (hY : YC y C bytes maxL)
    (hR : rm.frames + 1 ≤ R.frames ∧ 8 + (maxL + 11) + rm.locals ≤ R.locals) (hcs : cells + rm.cells ≤ R.cells ∧ slots + rm.slots ≤ R.slots) (hw : HB G A H0 (rr ++ w) H locs) (hl : lv_has ls nL lv) (hcat : (rest.map fun v => v.category).sum ≤ 8)
    (hdg : decode cc pc = .ok (.invokespecial index, 3)) (kk : ∀ (u : U) (H1 : Heap) (locs1 : List Loc), HB G A H0 (rr ++ w' u) H1 locs1 → W p l e R s m args below meth c H1 locs1 (cells + rm.cells) (slots + rm.slots) Q (F0 m (pc + 3) ls rest)) : W p l e R s m args below meth c H locs cells slots Q (F0 m pc ls (.ref b :: rest)) := by
  obtain ⟨hx, hb, hml, hown, hts, hK, hN⟩ := E
  obtain ⟨hP, hDt, hF⟩ := hw.cut (w := w) (r := rr) List.perm_append_comm
  obtain ⟨g2, g4, g5, g7, g6⟩ := hY
  have hG : GoodIn GW (.code y bytes maxL none :: GW) := GW_good fun w hw => (List.mem_cons.mp hw).elim (fun e => e ▸ g5) id
  refine va_callv (va_runIN (As := []) (rest := rest) (g := F0 m pc ls (.ref b :: rest)) (cells := cells) (slots := slots) ⟨hx, hb, hml, hown, hts⟩ (hM H.size) ⟨va_cnB 0 hts hG rfl rfl rfl h1 (hts _ (g6.1 ▸ g4)) g6.2 hR, g7, hts _ g2⟩ ⟨PW.blind hEb, fun U hU hW => ⟨rfl, by rw [hU], by rw [hU]; exact hP, va_K.moved hW.alike hK, hDt, hN.warm hW, hEx U hU hW⟩⟩ rfl rfl hl.1 rfl (lv_room hcat) hdg hcs) hw.2.2.1 (fun q _ h => hF q h) hF (fun u t H1 locs1 ht hvm hpost hB hz hk hS => ?_)
  exact kk u H1 locs1 (hw.glue (w := w) (r := rr) (w' := w' u) List.perm_append_comm List.perm_append_comm hk (ht ▸ hB.1) hB.2 hS)
/-- a constructor by a plain link -/
theorem callC (E : EN p c cc s m args own nL G) (hM : MC l y (.code y bytes maxL none :: GW) rm b G Ex w w') (hEb : EB Ex) (hEx : ∀ V : State, V.heap = H → s.WarmedH V.vm → Ex V) (h1 : Cond.methodLink own index y ∈ GW) (hY : YC y C bytes maxL)
    (hR : rm.frames + 1 ≤ R.frames ∧ 8 + (maxL + 11) + rm.locals ≤ R.locals) (hcs : cells + rm.cells ≤ R.cells ∧ slots + rm.slots ≤ R.slots) (hw : HB G A H0 (rr ++ w) H locs) (hl : lv_has ls nL lv) (hcat : (rest.map fun v => v.category).sum ≤ 8)
    (hdg : decode cc pc = .ok (.invokespecial index, 3)) (kk : ∀ (u : U) (H1 : Heap) (locs1 : List Loc), HB G A H0 (rr ++ w' u) H1 locs1 → W p l e R s m args below meth c H1 locs1 (cells + rm.cells) (slots + rm.slots) Q (F0 m (pc + 3) ls rest)) : W p l e R s m args below meth c H locs cells slots Q (F0 m pc ls (.ref b :: rest)) := by
  obtain ⟨hx, hb, hml, hown, hts, hK, hN⟩ := E
  obtain ⟨hP, hDt, hF⟩ := hw.cut (w := w) (r := rr) List.perm_append_comm
  obtain ⟨g2, g4, g5, g7, g6⟩ := hY
  have hG : GoodIn GW (.code y bytes maxL none :: GW) := GW_good fun w hw => (List.mem_cons.mp hw).elim (fun e => e ▸ g5) id
  refine va_callv (va_runI (As := []) (rest := rest) (g := F0 m pc ls (.ref b :: rest)) (cells := cells) (slots := slots) ⟨hx, hb, hml, hown, hts⟩ (hM H.size) (cwI 0 hts hG rfl rfl rfl (hts _ (g6.1 ▸ g4)) (hts _ h1) (hts _ g2) g7 g6.2 hR) ⟨PW.blind hEb, fun U hU hW => ⟨rfl, by rw [hU], by rw [hU]; exact hP, va_K.moved hW.alike hK, hDt, hN.warm hW, hEx U hU hW⟩⟩ rfl rfl hl.1 rfl (lv_room hcat) hdg hcs) hw.2.2.1 (fun q _ h => hF q h) hF (fun u t H1 locs1 ht hvm hpost hB hz hk hS => ?_)
  exact kk u H1 locs1 (hw.glue (w := w) (r := rr) (w' := w' u) List.perm_append_comm List.perm_append_comm hk (ht ▸ hB.1) hB.2 hS)
end LIBC

/-! ===== the law, from its entry; the claim ===== -/
section LAWP
variable {p : Program} {l : Launch} {e : Env} {s : State} {m : MethodId} {below : List Frame} {meth : Method} {c : Code} {G : GP} {b : Nat → Nat} {ad : Nat → Nat → Nat} {pd rv : Nat → Int32} {sb L : Nat} {xs : Nat → Int32}
set_option maxRecDepth 100000 in
set_option maxHeartbeats 4000000 in
theorem law_loop (E : EN p c cL_law s m #[.ref sb] RL 3 G) (hr : meth.sig.returnType = ret) (hlk : meth.locks = false) (hXc : XSc sb L xs s) (hL : L ≤ 260) (hXS : XS [] s) : ∀ (n k : Nat), k ≤ 70 → 71 ≤ k + n → ∀ (v : Nat → Int32) (Ns : Nat → NS) (H : Heap) (locs : List Loc) (ls : Array Slot), CV v → okN (1 + k) (Ns 0) → HB G (fun q : Nat => s.heap.size ≤ q) s.heap (cW G b ad v pd rv Ns) H locs → lv_has ls 3 [(0, .ref sb), (1, .ref (b 0)), (2, .int (nI k))] → W p l e room_1 s m #[.ref sb] below meth c H locs (159 + 3 * k) (4318 + 24 * k) (lw_Z below #[.ref sb] s) (F0 m 28 ls []) := by
  intro n
  induction n with
  | zero => intro k h1 h2; exact absurd h2 (by omega)
  | succ n ih =>
    intro k hk hn v Ns H locs ls hcv hO hw hl
    have hsA : ¬ (fun q : Nat => s.heap.size ≤ q) sb := Nat.not_le.mpr hXc.2
    refine lv_iload_n E.1 E.2.1 dL_law_28 rfl (lv_at hl 2 rfl) ?_
    refine lv_bipush (v := nI 70) E.1 E.2.1 dL_law_29 (by decide) ?_
    refine lv_icmp_geN E.1 E.2.1 (by omega) (by omega) (tgt := 62) dL_law_31 (by decide) (fun z => ?_) (fun z => ?_)
    · refine lv_iconst (v := 1) E.1 E.2.1 dL_law_62 (by decide) ?_
      refine va_forget (fun q hq => hw.2.2.1.2.2 q hq) ?_
      refine W.widen (k := 1200000) (n := 5502250) (by omega) (by omega) ?_
      exact lw_ret E.1 E.2.1 hr hlk dL_law_63
    · have hsb : ∀ q ∈ cW G b ad v pd rv Ns, q.1 ≠ sb := fun q hq z2 => hsA (z2 ▸ (va_D_iff.mp hw.2.1).2 q hq)
      refine lv_aload_n E.1 E.2.1 dL_law_34 rfl (lv_at hl 1 rfl) ?_
      refine lv_aload_n E.1 E.2.1 dL_law_35 rfl (lv_at hl 0 rfl) ?_
      refine lv_iconst (v := nI 1) E.1 E.2.1 dL_law_36 (by decide) ?_
      refine lv_iconst (v := nI 3) E.1 E.2.1 dL_law_37 (by decide) ?_
      refine lv_iload_n E.1 E.2.1 dL_law_38 rfl (lv_at hl 2 rfl) ?_
      refine lv_mulN E.1 E.2.1 dL_law_39 ?_
      refine lv_addN E.1 E.2.1 dL_law_40 ?_
      refine callMU E (c_L_isAct l G b ad v pd rv Ns hcv (1 + k) (by omega) hO sb L xs hL hsb (1 + 3 * k) (by omega)) XL.eb (fun V h1 h2 => ⟨XS.to hXS va_A_eq hw (by rw [List.append_nil]) V h1 h2, XSc.to hXc hsA hw V h1 h2⟩) mn_8_21 YL_isAct ⟨Nat.le_of_ble_eq_true rfl, Nat.le_of_ble_eq_true rfl⟩ ⟨by show 159 + 3 * k + 3 ≤ 1200000; omega, by show 4318 + 24 * k + 24 ≤ 5502250; omega⟩ hw rfl hl rfl (Nat.le_of_ble_eq_true rfl) dL_law_41 (fun u H locs hok hw => ?_)
      obtain ⟨v2, Ns2⟩ := u
      replace hw : HB G (fun q : Nat => s.heap.size ≤ q) s.heap (cW G b ad v2 pd rv Ns2) H locs := hw
      obtain ⟨hcv2, hO2⟩ := hok
      replace hO2 : okN (1 + k + 1) (Ns2 0) := hO2
      obtain ⟨hI, hDV, hV, h4, hs⟩ := id hO2
      refine lv_if_eq E.1 E.2.1 (tgt := 54) dL_law_44 (by decide) (fun c44 => absurd c44 (by decide)) (fun _ => ?_)
      refine lv_aload_n E.1 E.2.1 dL_law_47 rfl (lv_at hl 1 rfl) ?_
      refine callSX E (c_L_agree l G b ad v2 pd rv Ns2 hI hDV hV (by rw [snI_5]; omega)) ES.eb (fun _ _ _ => trivial) mn_15_17 YL_agree ⟨rfl, rfl⟩ ⟨Nat.le_of_ble_eq_true rfl, Nat.le_of_ble_eq_true rfl⟩ ⟨by show 159 + 3 * k + 3 ≤ 1200000; omega, by show 4318 + 24 * k + 24 ≤ 5502250; omega⟩ hw (rr := []) (big' := cW G b ad v2 pd rv Ns2) (by rw [List.append_nil]) (by rw [List.append_nil]) rfl hl rfl (Nat.le_of_ble_eq_true rfl) dL_law_48 (fun H locs hw => ?_)
      refine lv_if_ne E.1 E.2.1 (tgt := 56) dL_law_51 (by decide) (fun _ => ?_) (fun c51 => absurd c51 (by decide))
      refine lv_iincN (k := 2) (lv' := [(2, .int (nI (k + 1))), (0, .ref sb), (1, .ref (b 0))]) E.1 E.2.1 dL_law_56 hl rfl (by decide) rfl (fun ls hl => ?_)
      refine lv_goto (tgt := 28) E.1 E.2.1 dL_law_59 (by decide) ?_
      exact ih (k + 1) (by omega) (by omega) v2 Ns2 H locs ls hcv2 (by rw [show 1 + (k + 1) = 1 + k + 1 by omega]; exact hO2) hw (lv_sub hl [1, 2, 0] rfl)
end LAWP
set_option maxRecDepth 100000 in
set_option maxHeartbeats 4000000 in
/-- THE LAW, from its entry -/
theorem whole_start {p : Program} {e : Env} {s : State} {m : MethodId} {below : List Frame} {meth : Method} {c : Code} (l : Launch) (hflags : l.flags = flags0) {b L : Nat} {xs : Nat → Int32} (hL : L ≤ 260) (C0 : lw_At p s m meth c b L xs) : W p l e room_1 s m #[Value.ref b] below meth c s.heap [] 0 0 (lw_Z below #[Value.ref b] s) (entryFrame m ([Value.ref b] : List Value).toArray 3) := by
  obtain ⟨hx, hb, hr, hml, hown, hts, hX, hbl, hlk, hgv⟩ := C0
  have hs := flat_of_before _ hgv
  obtain ⟨G, hK⟩ := K_start hts
  have hXS := XS_start hs hts
  have hAO := AO_start hts
  have hXc : XSc b L xs s := ⟨hX, hbl⟩
  have hsA : ¬ (fun q : Nat => s.heap.size ≤ q) b := Nat.not_le.mpr hbl
  have E : EN p c cL_law s m #[.ref b] RL 3 G := ⟨hx, hb, hml, hown, fun w h => hts w (GW_in w h), hK, NW_start hts⟩
  have hw : HB G (fun q : Nat => s.heap.size ≤ q) s.heap [] s.heap [] := ⟨fun k q h => (by cases h), ⟨fun i j p q h => (by cases h), fun k q h => (by cases h)⟩, va_S.rf, fun _ h => h⟩
  have hl := lv_entry ([.ref b]) (n := 3) (Nat.le_of_ble_eq_true rfl)
  rw [lg_entry_eq]
  generalize (lg_sl ([.ref b]) ++ List.replicate (3 - (lg_sl ([.ref b])).length) Slot.unset).toArray = ls at hl ⊢
  replace hl : lv_has ls 3 [(0, .ref b)] := hl
  refine nwO E hw (T := TX3) (N := 10) (ci := 3) (fs := [.null, .null, .null, .int 0, .int 0, .null, .int 0, .null, .int 0, .null]) inlX3 tyX3 tyX3_ok mn_1_0 mw_1_1 mw_1_2 rfl (fun j hj => by rcases (show j = 0 ∨ j = 1 ∨ j = 2 ∨ j = 3 ∨ j = 4 ∨ j = 5 ∨ j = 6 ∨ j = 7 ∨ j = 8 ∨ j = 9 by omega) with rfl | rfl | rfl | rfl | rfl | rfl | rfl | rfl | rfl | rfl <;> rfl) ⟨Nat.le_of_ble_eq_true rfl, Nat.le_of_ble_eq_true rfl⟩ dL_law_0 (fun q0 H hw => ?_)
  refine lv_dup E.1 E.2.1 dL_law_3 rfl ?_
  refine callC E (c_X3_init l G q0) (fun U g mk a h => va_AO.moved (u := U) (U := U.calling g mk a) (Vm.Alike.refl U.vm) h) (fun V _ hW => va_AO.moved hW.alike hAO) mn_1_3 YX3_init (rr := []) ⟨Nat.le_of_ble_eq_true rfl, Nat.le_of_ble_eq_true rfl⟩ ⟨Nat.le_of_ble_eq_true rfl, Nat.le_of_ble_eq_true rfl⟩ hw hl (Nat.le_of_ble_eq_true rfl) dL_law_4 (fun u H locs hw => ?_)
  obtain ⟨ub, ad⟩ := u
  replace hw : HB G (fun q : Nat => s.heap.size ≤ q) s.heap (cW G (acons q0 ub) ad (fun _ => 0) (fun _ => 0) (rvO (0, 0, 0, 0)) (fun _ => N00)) H locs := hw
  refine lv_astore_n (lv' := [(1, .ref q0), (0, .ref b)]) E.1 E.2.1 dL_law_7 rfl hl (by decide) rfl (fun ls hl => ?_)
  refine lv_aload_n E.1 E.2.1 dL_law_8 rfl (lv_at hl 0 rfl) ?_
  refine lv_iconst (v := nI 1) E.1 E.2.1 dL_law_9 (by decide) ?_
  refine lv_aload_n E.1 E.2.1 dL_law_10 rfl (lv_at hl 1 rfl) ?_
  refine lv_iconst (v := nI 0) E.1 E.2.1 dL_law_11 (by decide) ?_
  refine lv_bipush (v := nI 15) E.1 E.2.1 dL_law_12 (by decide) ?_
  refine callSX E (c_L_cell l G b L xs hL 0 15 (by omega) (by omega) (by omega)) XSc.eb (XSc.to hXc hsA hw) mn_3_0 YL_cell ⟨rfl, rfl⟩ ⟨Nat.le_of_ble_eq_true rfl, Nat.le_of_ble_eq_true rfl⟩ ⟨Nat.le_of_ble_eq_true rfl, Nat.le_of_ble_eq_true rfl⟩ hw (w := []) (w' := []) (rr := cW G (acons q0 ub) ad (fun _ => 0) (fun _ => 0) (rvO (0, 0, 0, 0)) (fun _ => N00)) (big' := cW G (acons q0 ub) ad (fun _ => 0) (fun _ => 0) (rvO (0, 0, 0, 0)) (fun _ => N00)) (List.Perm.refl _) (List.Perm.refl _) rfl hl rfl (Nat.le_of_ble_eq_true rfl) dL_law_14 (fun H locs hw => ?_)
  obtain ⟨j, hj, ej⟩ : ∃ j, j < 15 ∧ cellR L xs 0 15 = j := ⟨_, cellR_lt (by decide), rfl⟩
  refine lv_eqi (y := nI j) (congrArg nI ej) ?_
  refine lv_addN E.1 E.2.1 dL_law_17 ?_
  have hcv0 : CV (fun _ => (0 : Int32)) := ⟨0, 0, rfl, by decide, rfl, by decide⟩
  refine callMU E (c_L_isOpened l G (acons q0 ub) ad (fun _ => 0) (fun _ => 0) (rvO (0, 0, 0, 0)) (fun _ => N00) hcv0 ok_00.1 ok_00.2.1 ok_00.2.2.1 (1 + j) (by omega)) ES.eb (fun _ _ _ => trivial) mn_3_5 YL_isOpened ⟨Nat.le_of_ble_eq_true rfl, Nat.le_of_ble_eq_true rfl⟩ ⟨Nat.le_of_ble_eq_true rfl, Nat.le_of_ble_eq_true rfl⟩ hw rfl hl rfl (Nat.le_of_ble_eq_true rfl) dL_law_18 (fun u H locs hok hw => ?_)
  obtain ⟨v2, Ns2⟩ := u
  replace hw : HB G (fun q : Nat => s.heap.size ≤ q) s.heap (cW G (acons q0 ub) ad v2 (fun _ => 0) (rvO (0, 0, 0, 0)) Ns2) H locs := hw
  obtain ⟨hcv2, hO2⟩ := hok
  have hO3 : okN (0 + 1) (Ns2 0) := by
    have q : Ns2 0 = nOpen (1 + j) N00 := hO2
    rw [q]; exact ac_open ok_00 (by omega)
  refine lv_if_ne E.1 E.2.1 (tgt := 26) dL_law_21 (by decide) (fun _ => ?_) (fun c21 => absurd c21 (by decide))
  refine lv_iconst (v := nI 0) E.1 E.2.1 dL_law_26 (by decide) ?_
  refine lv_istore_n (lv' := [(2, .int (nI 0)), (1, .ref q0), (0, .ref b)]) E.1 E.2.1 dL_law_27 rfl hl (by decide) rfl (fun ls hl => ?_)
  refine W.widen (k := 159 + 3 * 0) (n := 4318 + 24 * 0) (Nat.le_of_ble_eq_true rfl) (Nat.le_of_ble_eq_true rfl) ?_
  exact law_loop (b := acons q0 ub) (ad := ad) E hr hlk hXc hL hXS 71 0 (by decide) (by decide) v2 Ns2 H locs ls hcv2 hO3 hw (lv_sub hl [2, 1, 0] rfl)
set_option maxHeartbeats 4000000 in
theorem lw_walk (l : Launch) (hflags : l.flags = flags0) (b : Addr) (xs : List Int32) : MetFree l x (headSpec (Jvm.Cond.code x code maxLocals ret :: tables_1) room_1) (lw_P b xs) (fun _ _ _ _ _ => True) lw_Q := by
  refine MetFree.of_bodyS (code := code) (maxLocals := maxLocals) (ret := ret) (by decide) ?_ ?_
  · intro args s m h hn
    obtain ⟨meth, c, h1, h2, h3, h4, h5, h6, -, -⟩ := Cond.code_spec hn (atoms_spec (ws := Jvm.Cond.code x code maxLocals ret :: tables_1) h _ List.mem_cons_self)
    exact ⟨meth, c, h1, h2, h3, h4, h5, h6⟩
  · intro p e s m args below meth c s₁ B hml0 hP _
    obtain ⟨rfl, hx, hbd, hgv⟩ := hP
    obtain ⟨scr, harrAt, hlist, hof, hsmall⟩ := hx
    obtain ⟨hcb, hkn, -, -⟩ := State.arrayAt?_spec harrAt
    have hown : s.vm.findClass R_law = some m.cls := findClass_of_methodNamed B.named
    have hts0 : ∀ c ∈ (Jvm.Cond.code x code maxLocals ret :: tables_1), c.before #[Value.ref b] s = true := atoms_spec (ws := Jvm.Cond.code x code maxLocals ret :: tables_1) B.pre
    have hts : ∀ w ∈ lw_tbl, w.before #[Value.ref b] s = true := k2_hts_sels lw_privs (fun w hw => hts0 w (List.mem_cons_of_mem _ hw)) lw_privs_ok
    have hml : c.maxLocals = 3 := B.maxLocals_eq (hts0 _ List.mem_cons_self)
    have X₀ : Stand p l e room_1 s m #[Value.ref b] below meth c s₁ [] 0 0 := Stand.of_body B
    have hh0 : s₁.heap = s.heap := by rw [B.state]; rfl
    have hsz : scr.slots.size = xs.length := by rw [← Array.length_toList, hlist, List.length_map]
    have hval : ∀ j : Nat, j < xs.length → scr.slots[j]? = some (.int (xs.getD j 0)) := fun j hj => by
      rw [← Array.getElem?_toList, hlist]
      simp [hj]
    have hbl : b < s.heap.size := (Array.getElem?_eq_some_iff.mp hcb).1
    have hX : va_X b xs.length (fun j => xs.getD j 0) s s.heap := ⟨scr, hcb, hof, hkn, hsz, hval⟩
    have K : W p l e room_1 s m #[Value.ref b] below meth c s₁.heap [] 0 0 (lw_Z below #[Value.ref b] s) (entryFrame m ([Value.ref b] : List Value).toArray 3) := by
      rw [hh0]
      exact whole_start l hflags hbd ⟨B.exec, B.bytes, B.returns, hml, hown, hts, hX, hbl, B.notSynchronized, hgv⟩
    obtain ⟨t, a1, o, b1, b2, b3⟩ := K s₁ rfl X₀
    exact ⟨t, o, a1, b1, b2, b3⟩
theorem lw_pre_spec {args : Array Value} {s : State} (h : (Jvm.Cond.and given_1 narrow_1).before args s = true) (hr : rest_1_c.before args s = true) : ∃ (b : Addr) (xs : List Int32), lw_P b xs args s := by
  have hs := flat_of_before _ h
  have hq := flat_of_before _ hr
  have hc : (Cond.count 1).before args s = true := hs _ (by decide +kernel)
  have harr : (Cond.arrayOf (.arg 0) .int).before args s = true := hs _ (by decide +kernel)
  have hle : (Cond.le (.length (.arg 0)) (.int 260)).before args s = true := hs _ (by decide +kernel)
  have hlen : (Cond.isInt (.length (.arg 0))).before args s = true := hq _ (by decide +kernel)
  have hall : (Cond.all (.arg 0) (.isInt (.elem (.arg 0) (.index 0)))).before args s = true := hq _ (by decide +kernel)
  obtain ⟨b, xs, hb, hx⟩ := State.ints_of_pre rfl harr hlen hall
  have hsm : xs.length < 2 ^ 31 := hx.choose_spec.2.2.2
  have hev : (Term.length (.arg 0)).eval args s none [] s = some (.int xs.length.toInt32) := hx.length_eval hb
  have hv := Cond.le_ints hev (show (Term.int 260).eval args s none [] s = some (.int 260) from rfl)
  have hd : xs.length.toInt32 ≤ 260 := by
    simpa [Cond.before, Cond.holds, hv] using hle
  have hN : xs.length ≤ 260 := (Int32.ofNat_le_ofNat hsm (by decide)).mp (show Int32.ofNat xs.length ≤ Int32.ofNat 260 from hd)
  exact ⟨b, xs, Cond.one_arg hc (show args[0]? = some (.ref b) from hb), hx, hN, h⟩
theorem lw_comes (l : Launch) (hflags : l.flags = flags0) : Comes l x (Jvm.Cond.code x code maxLocals ret :: tables_1) room_1 (fun tb e args s => Calls_1 tb e args s ∧ rest_1 tb e args s ∧ Pre_1 tb e args s)
    (fun _ _ args s o t => lw_Q args s o t) := by
  intro p e ha hc hk s m args below hf hfit hheap happ hpre
  obtain ⟨b, xs, hP⟩ := lw_pre_spec hpre.2.2 hpre.2.1
  obtain ⟨k, o, h1, h2, h3, hQ⟩ := lw_walk l hflags b xs p e ha hc hk s m args below hf ((Spec.applies_iff_loose hf).mp happ).1 hP trivial
  exact ⟨k, o, h1, h2, h3, hQ⟩
theorem lw_frame {s t : State} {o : Outcome} {args : Array Value} (h : Framed s o t [] 1200000 5502250) :
    Framed s o t (fieldLocs frame_1_writes args s ++ arrayLocs frame_1_arrays args s ++ staticLocs frame_1_statics s) 1200000 5502250 := h
theorem lw_limb (L : Cond) (hL : ∀ (args : Array Value) (s t : State), L.after args s (.returned (some (.int 1))) t = true) :
    ArmFor flags0 classFile x code maxLocals ret World_1 tables_1 room_1 Calls_1 rest_1 Pre_1
      (fun tb e a s o t => postC L tb e a s o t ∧ Framed s o t (fieldLocs frame_1_writes a s ++ arrayLocs frame_1_arrays a s ++ staticLocs frame_1_statics s) 1200000 5502250) := by
  intro l hflags _ _ p e ha hc hk s m args below hf hfit hheap happ hpre
  obtain ⟨k, o, h1, h2, h3, rfl, hF⟩ := lw_comes l hflags p e ha hc hk s m args below hf hfit hheap happ hpre
  exact ⟨k, _, h1, h2, h3, hL args s _, lw_frame hF⟩
theorem i_vc : Claimed_1_1 ∧ Claimed_1_2 := ⟨lw_limb limb_1_1 (fun args s t => by simp [limb_1_1, Cond.after, Cond.holds, Cond.value]), lw_limb limb_1_2 (fun args s t => Cond.after_iff.mpr (by
  first | (rw [show limb_1_2 = Cond.eq .result (.int 1) from rfl, Cond.eq_ints (x := 1) (y := 1) rfl rfl]; simp; done) | (simp [limb_1_2, Cond.value, Term.eval]; done)))⟩

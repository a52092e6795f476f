/-! ===== constructors ===== -/
def acons (a : Nat) (u : Nat → Nat) : Nat → Nat := fun k => match k with
  | 0 => a
  | k + 1 => u k
section LIBI
variable {p : Program} {l : Launch} {e : Env} {R : Room} {s : State} {m : MethodId} {args : Array Value} {below : List Frame} {meth : Method} {c : Code} {H : Heap} {locs : List Loc} {cells slots : Nat} {Q : State → Prop}
variable {cc : ByteArray} {pc : Nat} {ls : Array Slot} {rest st0 : List Value} {A : Nat → Prop} {H0 : Heap} {own : String} {nL : Nat} {G : GP} {w : va_W}
theorem iaS (E : EN p c cc s m args own nL G) (hw : HB G A H0 w H locs) (q0 : Nat) {b n : Nat} {f : Nat → Int32} (he : w[q0]? = some (b, .inl (G.2 0, n, .inl f))) {j : Nat} {z : Int32} (hj : j < n ∧ n < 2 ^ 31) (hdg : decode cc pc = .ok (.iastore, 1)) (kk : ∀ (H1 : Heap) (locs1 : List Loc), HB G A H0 (w.set q0 (b, .inl (G.2 0, n, .inl (upd f j z)))) H1 locs1 → W p l e R s m args below meth c H1 locs1 cells slots Q (F0 m (pc + 1) ls rest)) : W p l e R s m args below meth c H locs cells slots Q (F0 m pc ls (.int z :: .int (nI j) :: .ref b :: rest)) :=
  va_iast E.1 E.2.1 E.2.2.2.2.2.1 hw.1 hw.2.1 hw.2.2.1 q0 0 he rfl (vp_in_nI hj.1 hj.2) hdg (fun H1 locs1 hP hD hS => by rw [nI_clamp (Nat.lt_trans hj.1 hj.2)] at hP hD; exact kk H1 locs1 ⟨hP, hD, hS, hw.2.2.2⟩)
theorem nwQ (E : EN p c cc s m args own nL G) (hw : HB G A H0 w H locs) {index : Nat} (hcl : Cond.classLink own index "ClerkVotes$State" ∈ GW) (hover : va_AO "ClerkVotes$State" s) {k : Nat} (hk : k < 2 ^ 31 ∧ k * 4 ≤ 536870912) (hcs : cells + 1 ≤ R.cells ∧ slots + k ≤ R.slots) (hdg : decode cc pc = .ok (.anewarray index, 3))
    (kk : ∀ (q : Nat) (H1 : Heap), HB G A H0 (w ++ [(q, .inl (G.2 3, k, .inr (.inr (.inr (.inr (fun _ => none))))))]) H1 locs → W p l e R s m args below meth c H1 locs (cells + 1) (slots + k) Q (F0 m (pc + 3) ls (.ref q :: rest))) : W p l e R s m args below meth c H locs cells slots Q (F0 m pc ls (.int (nI k) :: rest)) := by
  obtain ⟨hx, hb, hml, hown, hts, hK, hN⟩ := E
  refine va_newq hx hb hown (hts _ hcl) hover hK hw.1 hw.2.1 hw.2.2.1 hw.2.2.2 (nI_pos hk.1) (nI_clamp hk.1) hk.2 hcs.1 hcs.2 hdg (fun q cA H1 hK1 hP1 hD1 hS1 => ?_)
  have h1 : va_RA s cA (.object "ClerkVotes$State") := (hK1.2 4 (cA, .object "ClerkVotes$State") rfl).2
  have h2 : va_RA s (G.2 3) (.object "ClerkVotes$State") := (hK.2 3 _ rfl).2
  obtain rfl := va_RA_eq h1 h2
  exact kk q H1 ⟨hP1, hD1, hS1, hw.2.2.2⟩
end LIBI
def N00 : NS := un (un (un (un (un (un (un (fun _ => 0) 0 6) 1 4) 2 5) 15 1) 16 1) 17 1) 18 1
def z4 : Nat → Int32 := upd (upd (upd (upd (fun _ => 0) 0 (nI 6)) 1 (nI 4)) 2 (nI 5)) 3 (nI 0)
theorem YX0_init : YC yX0_init RX0 cX0_init 1 := ⟨mw_3_1, mw_2_0, mw_3_2, rfl, by decide +kernel⟩
theorem YX1_init : YC yX1_init RX1 cX1_init 1 := ⟨mw_2_19, mw_2_9, mw_2_20, rfl, by decide +kernel⟩
theorem YX2_init : YC yX2_init RX2 cX2_init 1 := ⟨mw_2_2, mw_1_15, mw_2_3, rfl, by decide +kernel⟩
theorem YX3_init : YC yX3_init RX3 cX3_init 2 := ⟨mw_1_8, mw_1_2, mw_1_9, rfl, by decide +kernel⟩
/-- a new State's numbers, as the constructor leaves them -/
def f00 : Nat → Nat → Int32 := fun k => match k with
  | 0 => z4
  | _ => fun _ => 0
def wX0 (q : Nat) : va_W := [(q, .inr (0, [.int 0, .int 0, .int 0, .int 0]))]
def wX1 (q : Nat) : va_W := [(q, .inr (1, [.int 0, .int 0, .null, .null, .null]))]
def wX2 (q : Nat) : va_W := [(q, .inr (2, [.int 0, .int 0, .int 0, .int 0, .null, .null, .null, .null, .null, .null, .null, .null, .null, .null]))]
def wX3 (q : Nat) : va_W := [(q, .inr (3, [.null, .null, .null, .int 0, .int 0, .null, .int 0, .null, .int 0, .null]))]
def wX4 (q : Nat) : va_W := [(q, .inr (4, [.null, .null, .null, .int 0, .null, .null, .null, .int 0, .int 0, .null, .int 0, .int 0, .int 0]))]
theorem f4_00 : upd (upd (upd (upd (upd (upd (upd (fun _ => 0) 0 (nI 6)) 1 (nI 4)) 2 (nI 5)) 15 (nI 1)) 16 (nI 1)) 17 (nI 1)) 18 (nI 1) = eN N00 := by
  have h0 : (fun _ => (0 : Int32)) = eN (fun _ => 0) := rfl
  rw [h0]
  unfold N00
  simp only [eN_un]
theorem s_00 {G : GP} {A : Nat → Prop} {H0 : Heap} {a : Nat → Nat} {H : Heap} {locs : List Loc} (h : HB G A H0 (sX G a (fun _ => 0) f00) H locs) : HB G A H0 (sN G a N00) H locs := by
  have h1 : HB G A H0 (sX G a (fun _ => 0) f00 ++ []) H locs := h.eq (List.append_nil _).symm
  have h2 : HB G A H0 (sX G a (sI N00) (sF N00) ++ []) H locs := h1.scongr2 ⟨by decide +kernel, by decide +kernel, by decide +kernel, by decide +kernel, by decide +kernel, by decide +kernel⟩ (by decide +kernel) (by decide +kernel) (by decide +kernel) (by decide +kernel) (by decide +kernel) (by decide +kernel) (by decide +kernel) (by decide +kernel) (by decide +kernel) (by decide +kernel) (by decide +kernel) (by decide +kernel)
  exact h2.eq (List.append_nil _)
def wR1 (G : GP) (q : Nat) (u : Nat → Nat) : va_W := [(q, .inr (1, [.int 0, .int 0, .ref (u 0), .ref (u 1), .ref (u 2)])), (u 0, .inl (G.2 0, 240, .inl (fun _ => 0))), (u 1, .inl (G.2 0, 5, .inl (fun _ => 0))), (u 2, .inl (G.2 0, 5, .inl (fun _ => 0)))]
set_option maxRecDepth 100000 in
set_option maxHeartbeats 4000000 in
theorem c_X0_init (l : Launch) (G : GP) (a : Nat) : MC l yX0_init (.code yX0_init cX0_init 1 none :: GW) ({ frames := 1, cells := 0, slots := 0, locals := 20 }) a G ES (wX0 a) (fun (_ : Nat → Nat) => wX0 a) := by
  refine MC.of (by decide) rfl (by decide) rfl ?_
  intro p e s m below meth c ls A E hw hl hr hlk hin hEx
  refine lv_aload_n E.1 E.2.1 dX0_init_0 rfl (lv_at hl 0 rfl) ?_
  refine oI E mw_3_3 hl ⟨Nat.le_of_ble_eq_true rfl, Nat.le_of_ble_eq_true rfl⟩ dX0_init_1 ?_
  exact rC E hr hlk (w' := fun (_ : Nat → Nat) => wX0 a) (fun _ => 0) hw dX0_init_4
set_option maxRecDepth 100000 in
set_option maxHeartbeats 4000000 in
theorem c_X1_init (l : Launch) (G : GP) (a : Nat) : MC l yX1_init (.code yX1_init cX1_init 1 none :: GW) ({ frames := 1, cells := 3, slots := 250, locals := 20 }) a G ES (wX1 a) (fun (u : Nat → Nat) => wR1 G a u) := by
  refine MC.of (by decide) rfl (by decide) rfl ?_
  intro p e s m below meth c ls A E hw hl hr hlk hin hEx
  replace hw : HB G A s.heap ([(a, .inr (1, [.int 0, .int 0, .null, .null, .null]))]) s.heap [] := hw
  refine lv_aload_n E.1 E.2.1 dX1_init_0 rfl (lv_at hl 0 rfl) ?_
  refine oI E mw_2_21 hl ⟨Nat.le_of_ble_eq_true rfl, Nat.le_of_ble_eq_true rfl⟩ dX1_init_1 ?_
  refine lv_aload_n E.1 E.2.1 dX1_init_4 rfl (lv_at hl 0 rfl) ?_
  refine lv_sipush (v := nI 240) E.1 E.2.1 dX1_init_5 (by decide) ?_
  refine nwA E hw (t := 0) (ty := .int) rfl (atype := .int) rfl mw_2_5 (k := 240) (a0 := (240, .inl (fun _ => 0))) (fun _ => rfl) (by decide) ⟨Nat.le_of_ble_eq_true rfl, Nat.le_of_ble_eq_true rfl⟩ dX1_init_8 (fun q0 H hw => ?_)
  replace hw : HB G A s.heap ([(a, .inr (1, [.int 0, .int 0, .null, .null, .null])), (q0, .inl (G.2 0, 240, .inl (fun _ => 0)))]) H _ := hw
  refine va_putF (T := TX1) (N := 5) (C := RX1) (ci := 1) (ty := .array .int) E.1 E.2.1 E.2.2.2.2.1 inlX1 tyX1 tyX1_ok nmX1 E.2.2.2.1 E.2.2.2.2.2.1 hw.1 hw.2.1 hw.2.2.1 0 rfl rfl 2 (by decide) (E.2.2.2.2.1 _ mw_2_22) (fun _ h => h) rfl hin rfl (by decide +kernel) rfl rfl (Nat.le_of_ble_eq_true rfl) dX1_init_10 (fun H locs hP hD hS => ?_)
  replace hw : HB G A s.heap ([(a, .inr (1, [.int 0, .int 0, .ref q0, .null, .null])), (q0, .inl (G.2 0, 240, .inl (fun _ => 0)))]) H _ := ⟨hP, hD, hS, hw.2.2.2⟩
  refine lv_aload_n E.1 E.2.1 dX1_init_13 rfl (lv_at hl 0 rfl) ?_
  refine lv_iconst (v := nI 5) E.1 E.2.1 dX1_init_14 (by decide) ?_
  refine nwA E hw (t := 0) (ty := .int) rfl (atype := .int) rfl mw_2_5 (k := 5) (a0 := (5, .inl (fun _ => 0))) (fun _ => rfl) (by decide) ⟨Nat.le_of_ble_eq_true rfl, Nat.le_of_ble_eq_true rfl⟩ dX1_init_15 (fun q1 H hw => ?_)
  replace hw : HB G A s.heap ([(a, .inr (1, [.int 0, .int 0, .ref q0, .null, .null])), (q0, .inl (G.2 0, 240, .inl (fun _ => 0))), (q1, .inl (G.2 0, 5, .inl (fun _ => 0)))]) H _ := hw
  refine va_putF (T := TX1) (N := 5) (C := RX1) (ci := 1) (ty := .array .int) E.1 E.2.1 E.2.2.2.2.1 inlX1 tyX1 tyX1_ok nmX1 E.2.2.2.1 E.2.2.2.2.2.1 hw.1 hw.2.1 hw.2.2.1 0 rfl rfl 3 (by decide) (E.2.2.2.2.1 _ mw_2_23) (fun _ h => h) rfl hin rfl (by decide +kernel) rfl rfl (Nat.le_of_ble_eq_true rfl) dX1_init_17 (fun H locs hP hD hS => ?_)
  replace hw : HB G A s.heap ([(a, .inr (1, [.int 0, .int 0, .ref q0, .ref q1, .null])), (q0, .inl (G.2 0, 240, .inl (fun _ => 0))), (q1, .inl (G.2 0, 5, .inl (fun _ => 0)))]) H _ := ⟨hP, hD, hS, hw.2.2.2⟩
  refine lv_aload_n E.1 E.2.1 dX1_init_20 rfl (lv_at hl 0 rfl) ?_
  refine lv_iconst (v := nI 5) E.1 E.2.1 dX1_init_21 (by decide) ?_
  refine nwA E hw (t := 0) (ty := .int) rfl (atype := .int) rfl mw_2_5 (k := 5) (a0 := (5, .inl (fun _ => 0))) (fun _ => rfl) (by decide) ⟨Nat.le_of_ble_eq_true rfl, Nat.le_of_ble_eq_true rfl⟩ dX1_init_22 (fun q2 H hw => ?_)
  replace hw : HB G A s.heap ([(a, .inr (1, [.int 0, .int 0, .ref q0, .ref q1, .null])), (q0, .inl (G.2 0, 240, .inl (fun _ => 0))), (q1, .inl (G.2 0, 5, .inl (fun _ => 0))), (q2, .inl (G.2 0, 5, .inl (fun _ => 0)))]) H _ := hw
  refine va_putF (T := TX1) (N := 5) (C := RX1) (ci := 1) (ty := .array .int) E.1 E.2.1 E.2.2.2.2.1 inlX1 tyX1 tyX1_ok nmX1 E.2.2.2.1 E.2.2.2.2.2.1 hw.1 hw.2.1 hw.2.2.1 0 rfl rfl 4 (by decide) (E.2.2.2.2.1 _ mw_3_0) (fun _ h => h) rfl hin rfl (by decide +kernel) rfl rfl (Nat.le_of_ble_eq_true rfl) dX1_init_24 (fun H locs hP hD hS => ?_)
  replace hw : HB G A s.heap ([(a, .inr (1, [.int 0, .int 0, .ref q0, .ref q1, .ref q2])), (q0, .inl (G.2 0, 240, .inl (fun _ => 0))), (q1, .inl (G.2 0, 5, .inl (fun _ => 0))), (q2, .inl (G.2 0, 5, .inl (fun _ => 0)))]) H _ := ⟨hP, hD, hS, hw.2.2.2⟩
  exact rC E hr hlk (w' := fun u => wR1 G a u) (fun k => ([q0, q1, q2] : List Nat).getD k 0) (hw) dX1_init_27
set_option maxRecDepth 100000 in
set_option maxHeartbeats 4000000 in
theorem c_X2_init (l : Launch) (G : GP) (a : Nat) : MC l yX2_init (.code yX2_init cX2_init 1 none :: GW) ({ frames := 2, cells := 13, slots := 371, locals := 40 }) a G ES (wX2 a) (fun (u : Nat → Nat) => sN G (acons a u) N00) := by
  refine MC.of (by decide) rfl (by decide) rfl ?_
  intro p e s m below meth c ls A E hw hl hr hlk hin hEx
  replace hw : HB G A s.heap ([(a, .inr (2, [.int 0, .int 0, .int 0, .int 0, .null, .null, .null, .null, .null, .null, .null, .null, .null, .null]))]) s.heap [] := hw
  refine lv_aload_n E.1 E.2.1 dX2_init_0 rfl (lv_at hl 0 rfl) ?_
  refine oI E mw_2_4 hl ⟨Nat.le_of_ble_eq_true rfl, Nat.le_of_ble_eq_true rfl⟩ dX2_init_1 ?_
  refine lv_aload_n E.1 E.2.1 dX2_init_4 rfl (lv_at hl 0 rfl) ?_
  refine lv_iconst (v := nI 4) E.1 E.2.1 dX2_init_5 (by decide) ?_
  refine nwA E hw (t := 0) (ty := .int) rfl (atype := .int) rfl mw_2_5 (k := 4) (a0 := (4, .inl (fun _ => 0))) (fun _ => rfl) (by decide) ⟨Nat.le_of_ble_eq_true rfl, Nat.le_of_ble_eq_true rfl⟩ dX2_init_6 (fun q0 H hw => ?_)
  replace hw : HB G A s.heap ([(a, .inr (2, [.int 0, .int 0, .int 0, .int 0, .null, .null, .null, .null, .null, .null, .null, .null, .null, .null])), (q0, .inl (G.2 0, 4, .inl (fun _ => 0)))]) H _ := hw
  refine lv_dup E.1 E.2.1 dX2_init_8 rfl ?_
  refine lv_iconst (v := nI 0) E.1 E.2.1 dX2_init_9 (by decide) ?_
  refine lv_bipush (v := nI 6) E.1 E.2.1 dX2_init_10 (by decide) ?_
  refine iaS E hw 1 (n := 4) (f := (fun _ => 0)) rfl (j := 0) (z := nI 6) (by decide) dX2_init_12 (fun H locs hw => ?_)
  replace hw : HB G A s.heap ([(a, .inr (2, [.int 0, .int 0, .int 0, .int 0, .null, .null, .null, .null, .null, .null, .null, .null, .null, .null])), (q0, .inl (G.2 0, 4, .inl (upd (fun _ => 0) 0 (nI 6))))]) H _ := hw
  refine lv_dup E.1 E.2.1 dX2_init_13 rfl ?_
  refine lv_iconst (v := nI 1) E.1 E.2.1 dX2_init_14 (by decide) ?_
  refine lv_iconst (v := nI 4) E.1 E.2.1 dX2_init_15 (by decide) ?_
  refine iaS E hw 1 (n := 4) (f := (upd (fun _ => 0) 0 (nI 6))) rfl (j := 1) (z := nI 4) (by decide) dX2_init_16 (fun H locs hw => ?_)
  replace hw : HB G A s.heap ([(a, .inr (2, [.int 0, .int 0, .int 0, .int 0, .null, .null, .null, .null, .null, .null, .null, .null, .null, .null])), (q0, .inl (G.2 0, 4, .inl (upd (upd (fun _ => 0) 0 (nI 6)) 1 (nI 4))))]) H _ := hw
  refine lv_dup E.1 E.2.1 dX2_init_17 rfl ?_
  refine lv_iconst (v := nI 2) E.1 E.2.1 dX2_init_18 (by decide) ?_
  refine lv_iconst (v := nI 5) E.1 E.2.1 dX2_init_19 (by decide) ?_
  refine iaS E hw 1 (n := 4) (f := (upd (upd (fun _ => 0) 0 (nI 6)) 1 (nI 4))) rfl (j := 2) (z := nI 5) (by decide) dX2_init_20 (fun H locs hw => ?_)
  replace hw : HB G A s.heap ([(a, .inr (2, [.int 0, .int 0, .int 0, .int 0, .null, .null, .null, .null, .null, .null, .null, .null, .null, .null])), (q0, .inl (G.2 0, 4, .inl (upd (upd (upd (fun _ => 0) 0 (nI 6)) 1 (nI 4)) 2 (nI 5))))]) H _ := hw
  refine lv_dup E.1 E.2.1 dX2_init_21 rfl ?_
  refine lv_iconst (v := nI 3) E.1 E.2.1 dX2_init_22 (by decide) ?_
  refine lv_iconst (v := nI 0) E.1 E.2.1 dX2_init_23 (by decide) ?_
  refine iaS E hw 1 (n := 4) (f := (upd (upd (upd (fun _ => 0) 0 (nI 6)) 1 (nI 4)) 2 (nI 5))) rfl (j := 3) (z := nI 0) (by decide) dX2_init_24 (fun H locs hw => ?_)
  replace hw : HB G A s.heap ([(a, .inr (2, [.int 0, .int 0, .int 0, .int 0, .null, .null, .null, .null, .null, .null, .null, .null, .null, .null])), (q0, .inl (G.2 0, 4, .inl (upd (upd (upd (upd (fun _ => 0) 0 (nI 6)) 1 (nI 4)) 2 (nI 5)) 3 (nI 0))))]) H _ := hw
  refine va_putF (T := TX2) (N := 14) (C := RX2) (ci := 2) (ty := .array .int) E.1 E.2.1 E.2.2.2.2.1 inlX2 tyX2 tyX2_ok nmX2 E.2.2.2.1 E.2.2.2.2.2.1 hw.1 hw.2.1 hw.2.2.1 0 rfl rfl 4 (by decide) (E.2.2.2.2.1 _ mw_2_6) (fun _ h => h) rfl hin rfl (by decide +kernel) rfl rfl (Nat.le_of_ble_eq_true rfl) dX2_init_25 (fun H locs hP hD hS => ?_)
  replace hw : HB G A s.heap ([(a, .inr (2, [.int 0, .int 0, .int 0, .int 0, .ref q0, .null, .null, .null, .null, .null, .null, .null, .null, .null])), (q0, .inl (G.2 0, 4, .inl (upd (upd (upd (upd (fun _ => 0) 0 (nI 6)) 1 (nI 4)) 2 (nI 5)) 3 (nI 0))))]) H _ := ⟨hP, hD, hS, hw.2.2.2⟩
  refine lv_aload_n E.1 E.2.1 dX2_init_28 rfl (lv_at hl 0 rfl) ?_
  refine nwO E hw (T := TX1) (N := 5) (ci := 1) (fs := [.int 0, .int 0, .null, .null, .null]) inlX1 tyX1 tyX1_ok mw_2_7 mw_2_8 mw_2_9 rfl (fun j hj => by rcases (show j = 0 ∨ j = 1 ∨ j = 2 ∨ j = 3 ∨ j = 4 by omega) with rfl | rfl | rfl | rfl | rfl <;> rfl) ⟨Nat.le_of_ble_eq_true rfl, Nat.le_of_ble_eq_true rfl⟩ dX2_init_29 (fun q1 H hw => ?_)
  replace hw : HB G A s.heap ([(a, .inr (2, [.int 0, .int 0, .int 0, .int 0, .ref q0, .null, .null, .null, .null, .null, .null, .null, .null, .null])), (q0, .inl (G.2 0, 4, .inl (upd (upd (upd (upd (fun _ => 0) 0 (nI 6)) 1 (nI 4)) 2 (nI 5)) 3 (nI 0)))), (q1, .inr (1, [.int 0, .int 0, .null, .null, .null]))]) H _ := hw
  refine lv_dup E.1 E.2.1 dX2_init_32 rfl ?_
  refine callCN E (c_X1_init l G q1) ES.eb (fun _ _ _ => trivial) E.2.2.2.2.2.2.2.2.1 YX1_init (rr := [(a, .inr (2, [.int 0, .int 0, .int 0, .int 0, .ref q0, .null, .null, .null, .null, .null, .null, .null, .null, .null])), (q0, .inl (G.2 0, 4, .inl (upd (upd (upd (upd (fun _ => 0) 0 (nI 6)) 1 (nI 4)) 2 (nI 5)) 3 (nI 0))))]) ⟨Nat.le_of_ble_eq_true rfl, Nat.le_of_ble_eq_true rfl⟩ ⟨Nat.le_of_ble_eq_true rfl, Nat.le_of_ble_eq_true rfl⟩ hw hl (Nat.le_of_ble_eq_true rfl) dX2_init_33 (fun u1 H locs hw => ?_)
  replace hw : HB G A s.heap ([(a, .inr (2, [.int 0, .int 0, .int 0, .int 0, .ref q0, .null, .null, .null, .null, .null, .null, .null, .null, .null])), (q0, .inl (G.2 0, 4, .inl (upd (upd (upd (upd (fun _ => 0) 0 (nI 6)) 1 (nI 4)) 2 (nI 5)) 3 (nI 0)))), (q1, .inr (1, [.int 0, .int 0, .ref (u1 0), .ref (u1 1), .ref (u1 2)])), (u1 0, .inl (G.2 0, 240, .inl (fun _ => 0))), (u1 1, .inl (G.2 0, 5, .inl (fun _ => 0))), (u1 2, .inl (G.2 0, 5, .inl (fun _ => 0)))]) H _ := hw
  refine va_putF (T := TX2) (N := 14) (C := RX2) (ci := 2) (ty := .object "ClerkVotes$Row") E.1 E.2.1 E.2.2.2.2.1 inlX2 tyX2 tyX2_ok nmX2 E.2.2.2.1 E.2.2.2.2.2.1 hw.1 hw.2.1 hw.2.2.1 0 rfl rfl 5 (by decide) (E.2.2.2.2.1 _ mw_2_10) (fun _ h => h) rfl hin rfl (by decide +kernel) rfl rfl (Nat.le_of_ble_eq_true rfl) dX2_init_36 (fun H locs hP hD hS => ?_)
  replace hw : HB G A s.heap ([(a, .inr (2, [.int 0, .int 0, .int 0, .int 0, .ref q0, .ref q1, .null, .null, .null, .null, .null, .null, .null, .null])), (q0, .inl (G.2 0, 4, .inl (upd (upd (upd (upd (fun _ => 0) 0 (nI 6)) 1 (nI 4)) 2 (nI 5)) 3 (nI 0)))), (q1, .inr (1, [.int 0, .int 0, .ref (u1 0), .ref (u1 1), .ref (u1 2)])), (u1 0, .inl (G.2 0, 240, .inl (fun _ => 0))), (u1 1, .inl (G.2 0, 5, .inl (fun _ => 0))), (u1 2, .inl (G.2 0, 5, .inl (fun _ => 0)))]) H _ := ⟨hP, hD, hS, hw.2.2.2⟩
  refine lv_aload_n E.1 E.2.1 dX2_init_39 rfl (lv_at hl 0 rfl) ?_
  refine lv_bipush (v := nI 8) E.1 E.2.1 dX2_init_40 (by decide) ?_
  refine nwA E hw (t := 0) (ty := .int) rfl (atype := .int) rfl mw_2_5 (k := 8) (a0 := (8, .inl (fun _ => 0))) (fun _ => rfl) (by decide) ⟨Nat.le_of_ble_eq_true rfl, Nat.le_of_ble_eq_true rfl⟩ dX2_init_42 (fun q2 H hw => ?_)
  replace hw : HB G A s.heap ([(a, .inr (2, [.int 0, .int 0, .int 0, .int 0, .ref q0, .ref q1, .null, .null, .null, .null, .null, .null, .null, .null])), (q0, .inl (G.2 0, 4, .inl (upd (upd (upd (upd (fun _ => 0) 0 (nI 6)) 1 (nI 4)) 2 (nI 5)) 3 (nI 0)))), (q1, .inr (1, [.int 0, .int 0, .ref (u1 0), .ref (u1 1), .ref (u1 2)])), (u1 0, .inl (G.2 0, 240, .inl (fun _ => 0))), (u1 1, .inl (G.2 0, 5, .inl (fun _ => 0))), (u1 2, .inl (G.2 0, 5, .inl (fun _ => 0))), (q2, .inl (G.2 0, 8, .inl (fun _ => 0)))]) H _ := hw
  refine va_putF (T := TX2) (N := 14) (C := RX2) (ci := 2) (ty := .array .int) E.1 E.2.1 E.2.2.2.2.1 inlX2 tyX2 tyX2_ok nmX2 E.2.2.2.1 E.2.2.2.2.2.1 hw.1 hw.2.1 hw.2.2.1 0 rfl rfl 6 (by decide) (E.2.2.2.2.1 _ mw_2_11) (fun _ h => h) rfl hin rfl (by decide +kernel) rfl rfl (Nat.le_of_ble_eq_true rfl) dX2_init_44 (fun H locs hP hD hS => ?_)
  replace hw : HB G A s.heap ([(a, .inr (2, [.int 0, .int 0, .int 0, .int 0, .ref q0, .ref q1, .ref q2, .null, .null, .null, .null, .null, .null, .null])), (q0, .inl (G.2 0, 4, .inl (upd (upd (upd (upd (fun _ => 0) 0 (nI 6)) 1 (nI 4)) 2 (nI 5)) 3 (nI 0)))), (q1, .inr (1, [.int 0, .int 0, .ref (u1 0), .ref (u1 1), .ref (u1 2)])), (u1 0, .inl (G.2 0, 240, .inl (fun _ => 0))), (u1 1, .inl (G.2 0, 5, .inl (fun _ => 0))), (u1 2, .inl (G.2 0, 5, .inl (fun _ => 0))), (q2, .inl (G.2 0, 8, .inl (fun _ => 0)))]) H _ := ⟨hP, hD, hS, hw.2.2.2⟩
  refine lv_aload_n E.1 E.2.1 dX2_init_47 rfl (lv_at hl 0 rfl) ?_
  refine lv_bipush (v := nI 8) E.1 E.2.1 dX2_init_48 (by decide) ?_
  refine nwA E hw (t := 0) (ty := .int) rfl (atype := .int) rfl mw_2_5 (k := 8) (a0 := (8, .inl (fun _ => 0))) (fun _ => rfl) (by decide) ⟨Nat.le_of_ble_eq_true rfl, Nat.le_of_ble_eq_true rfl⟩ dX2_init_50 (fun q3 H hw => ?_)
  replace hw : HB G A s.heap ([(a, .inr (2, [.int 0, .int 0, .int 0, .int 0, .ref q0, .ref q1, .ref q2, .null, .null, .null, .null, .null, .null, .null])), (q0, .inl (G.2 0, 4, .inl (upd (upd (upd (upd (fun _ => 0) 0 (nI 6)) 1 (nI 4)) 2 (nI 5)) 3 (nI 0)))), (q1, .inr (1, [.int 0, .int 0, .ref (u1 0), .ref (u1 1), .ref (u1 2)])), (u1 0, .inl (G.2 0, 240, .inl (fun _ => 0))), (u1 1, .inl (G.2 0, 5, .inl (fun _ => 0))), (u1 2, .inl (G.2 0, 5, .inl (fun _ => 0))), (q2, .inl (G.2 0, 8, .inl (fun _ => 0))), (q3, .inl (G.2 0, 8, .inl (fun _ => 0)))]) H _ := hw
  refine va_putF (T := TX2) (N := 14) (C := RX2) (ci := 2) (ty := .array .int) E.1 E.2.1 E.2.2.2.2.1 inlX2 tyX2 tyX2_ok nmX2 E.2.2.2.1 E.2.2.2.2.2.1 hw.1 hw.2.1 hw.2.2.1 0 rfl rfl 7 (by decide) (E.2.2.2.2.1 _ mw_2_12) (fun _ h => h) rfl hin rfl (by decide +kernel) rfl rfl (Nat.le_of_ble_eq_true rfl) dX2_init_52 (fun H locs hP hD hS => ?_)
  replace hw : HB G A s.heap ([(a, .inr (2, [.int 0, .int 0, .int 0, .int 0, .ref q0, .ref q1, .ref q2, .ref q3, .null, .null, .null, .null, .null, .null])), (q0, .inl (G.2 0, 4, .inl (upd (upd (upd (upd (fun _ => 0) 0 (nI 6)) 1 (nI 4)) 2 (nI 5)) 3 (nI 0)))), (q1, .inr (1, [.int 0, .int 0, .ref (u1 0), .ref (u1 1), .ref (u1 2)])), (u1 0, .inl (G.2 0, 240, .inl (fun _ => 0))), (u1 1, .inl (G.2 0, 5, .inl (fun _ => 0))), (u1 2, .inl (G.2 0, 5, .inl (fun _ => 0))), (q2, .inl (G.2 0, 8, .inl (fun _ => 0))), (q3, .inl (G.2 0, 8, .inl (fun _ => 0)))]) H _ := ⟨hP, hD, hS, hw.2.2.2⟩
  refine lv_aload_n E.1 E.2.1 dX2_init_55 rfl (lv_at hl 0 rfl) ?_
  refine lv_bipush (v := nI 8) E.1 E.2.1 dX2_init_56 (by decide) ?_
  refine nwA E hw (t := 0) (ty := .int) rfl (atype := .int) rfl mw_2_5 (k := 8) (a0 := (8, .inl (fun _ => 0))) (fun _ => rfl) (by decide) ⟨Nat.le_of_ble_eq_true rfl, Nat.le_of_ble_eq_true rfl⟩ dX2_init_58 (fun q4 H hw => ?_)
  replace hw : HB G A s.heap ([(a, .inr (2, [.int 0, .int 0, .int 0, .int 0, .ref q0, .ref q1, .ref q2, .ref q3, .null, .null, .null, .null, .null, .null])), (q0, .inl (G.2 0, 4, .inl (upd (upd (upd (upd (fun _ => 0) 0 (nI 6)) 1 (nI 4)) 2 (nI 5)) 3 (nI 0)))), (q1, .inr (1, [.int 0, .int 0, .ref (u1 0), .ref (u1 1), .ref (u1 2)])), (u1 0, .inl (G.2 0, 240, .inl (fun _ => 0))), (u1 1, .inl (G.2 0, 5, .inl (fun _ => 0))), (u1 2, .inl (G.2 0, 5, .inl (fun _ => 0))), (q2, .inl (G.2 0, 8, .inl (fun _ => 0))), (q3, .inl (G.2 0, 8, .inl (fun _ => 0))), (q4, .inl (G.2 0, 8, .inl (fun _ => 0)))]) H _ := hw
  refine va_putF (T := TX2) (N := 14) (C := RX2) (ci := 2) (ty := .array .int) E.1 E.2.1 E.2.2.2.2.1 inlX2 tyX2 tyX2_ok nmX2 E.2.2.2.1 E.2.2.2.2.2.1 hw.1 hw.2.1 hw.2.2.1 0 rfl rfl 8 (by decide) (E.2.2.2.2.1 _ mw_2_13) (fun _ h => h) rfl hin rfl (by decide +kernel) rfl rfl (Nat.le_of_ble_eq_true rfl) dX2_init_60 (fun H locs hP hD hS => ?_)
  replace hw : HB G A s.heap ([(a, .inr (2, [.int 0, .int 0, .int 0, .int 0, .ref q0, .ref q1, .ref q2, .ref q3, .ref q4, .null, .null, .null, .null, .null])), (q0, .inl (G.2 0, 4, .inl (upd (upd (upd (upd (fun _ => 0) 0 (nI 6)) 1 (nI 4)) 2 (nI 5)) 3 (nI 0)))), (q1, .inr (1, [.int 0, .int 0, .ref (u1 0), .ref (u1 1), .ref (u1 2)])), (u1 0, .inl (G.2 0, 240, .inl (fun _ => 0))), (u1 1, .inl (G.2 0, 5, .inl (fun _ => 0))), (u1 2, .inl (G.2 0, 5, .inl (fun _ => 0))), (q2, .inl (G.2 0, 8, .inl (fun _ => 0))), (q3, .inl (G.2 0, 8, .inl (fun _ => 0))), (q4, .inl (G.2 0, 8, .inl (fun _ => 0)))]) H _ := ⟨hP, hD, hS, hw.2.2.2⟩
  refine lv_aload_n E.1 E.2.1 dX2_init_63 rfl (lv_at hl 0 rfl) ?_
  refine lv_bipush (v := nI 8) E.1 E.2.1 dX2_init_64 (by decide) ?_
  refine nwA E hw (t := 0) (ty := .int) rfl (atype := .int) rfl mw_2_5 (k := 8) (a0 := (8, .inl (fun _ => 0))) (fun _ => rfl) (by decide) ⟨Nat.le_of_ble_eq_true rfl, Nat.le_of_ble_eq_true rfl⟩ dX2_init_66 (fun q5 H hw => ?_)
  replace hw : HB G A s.heap ([(a, .inr (2, [.int 0, .int 0, .int 0, .int 0, .ref q0, .ref q1, .ref q2, .ref q3, .ref q4, .null, .null, .null, .null, .null])), (q0, .inl (G.2 0, 4, .inl (upd (upd (upd (upd (fun _ => 0) 0 (nI 6)) 1 (nI 4)) 2 (nI 5)) 3 (nI 0)))), (q1, .inr (1, [.int 0, .int 0, .ref (u1 0), .ref (u1 1), .ref (u1 2)])), (u1 0, .inl (G.2 0, 240, .inl (fun _ => 0))), (u1 1, .inl (G.2 0, 5, .inl (fun _ => 0))), (u1 2, .inl (G.2 0, 5, .inl (fun _ => 0))), (q2, .inl (G.2 0, 8, .inl (fun _ => 0))), (q3, .inl (G.2 0, 8, .inl (fun _ => 0))), (q4, .inl (G.2 0, 8, .inl (fun _ => 0))), (q5, .inl (G.2 0, 8, .inl (fun _ => 0)))]) H _ := hw
  refine va_putF (T := TX2) (N := 14) (C := RX2) (ci := 2) (ty := .array .int) E.1 E.2.1 E.2.2.2.2.1 inlX2 tyX2 tyX2_ok nmX2 E.2.2.2.1 E.2.2.2.2.2.1 hw.1 hw.2.1 hw.2.2.1 0 rfl rfl 9 (by decide) (E.2.2.2.2.1 _ mw_2_14) (fun _ h => h) rfl hin rfl (by decide +kernel) rfl rfl (Nat.le_of_ble_eq_true rfl) dX2_init_68 (fun H locs hP hD hS => ?_)
  replace hw : HB G A s.heap ([(a, .inr (2, [.int 0, .int 0, .int 0, .int 0, .ref q0, .ref q1, .ref q2, .ref q3, .ref q4, .ref q5, .null, .null, .null, .null])), (q0, .inl (G.2 0, 4, .inl (upd (upd (upd (upd (fun _ => 0) 0 (nI 6)) 1 (nI 4)) 2 (nI 5)) 3 (nI 0)))), (q1, .inr (1, [.int 0, .int 0, .ref (u1 0), .ref (u1 1), .ref (u1 2)])), (u1 0, .inl (G.2 0, 240, .inl (fun _ => 0))), (u1 1, .inl (G.2 0, 5, .inl (fun _ => 0))), (u1 2, .inl (G.2 0, 5, .inl (fun _ => 0))), (q2, .inl (G.2 0, 8, .inl (fun _ => 0))), (q3, .inl (G.2 0, 8, .inl (fun _ => 0))), (q4, .inl (G.2 0, 8, .inl (fun _ => 0))), (q5, .inl (G.2 0, 8, .inl (fun _ => 0)))]) H _ := ⟨hP, hD, hS, hw.2.2.2⟩
  refine lv_aload_n E.1 E.2.1 dX2_init_71 rfl (lv_at hl 0 rfl) ?_
  refine lv_bipush (v := nI 8) E.1 E.2.1 dX2_init_72 (by decide) ?_
  refine nwA E hw (t := 0) (ty := .int) rfl (atype := .int) rfl mw_2_5 (k := 8) (a0 := (8, .inl (fun _ => 0))) (fun _ => rfl) (by decide) ⟨Nat.le_of_ble_eq_true rfl, Nat.le_of_ble_eq_true rfl⟩ dX2_init_74 (fun q6 H hw => ?_)
  replace hw : HB G A s.heap ([(a, .inr (2, [.int 0, .int 0, .int 0, .int 0, .ref q0, .ref q1, .ref q2, .ref q3, .ref q4, .ref q5, .null, .null, .null, .null])), (q0, .inl (G.2 0, 4, .inl (upd (upd (upd (upd (fun _ => 0) 0 (nI 6)) 1 (nI 4)) 2 (nI 5)) 3 (nI 0)))), (q1, .inr (1, [.int 0, .int 0, .ref (u1 0), .ref (u1 1), .ref (u1 2)])), (u1 0, .inl (G.2 0, 240, .inl (fun _ => 0))), (u1 1, .inl (G.2 0, 5, .inl (fun _ => 0))), (u1 2, .inl (G.2 0, 5, .inl (fun _ => 0))), (q2, .inl (G.2 0, 8, .inl (fun _ => 0))), (q3, .inl (G.2 0, 8, .inl (fun _ => 0))), (q4, .inl (G.2 0, 8, .inl (fun _ => 0))), (q5, .inl (G.2 0, 8, .inl (fun _ => 0))), (q6, .inl (G.2 0, 8, .inl (fun _ => 0)))]) H _ := hw
  refine va_putF (T := TX2) (N := 14) (C := RX2) (ci := 2) (ty := .array .int) E.1 E.2.1 E.2.2.2.2.1 inlX2 tyX2 tyX2_ok nmX2 E.2.2.2.1 E.2.2.2.2.2.1 hw.1 hw.2.1 hw.2.2.1 0 rfl rfl 10 (by decide) (E.2.2.2.2.1 _ mw_2_15) (fun _ h => h) rfl hin rfl (by decide +kernel) rfl rfl (Nat.le_of_ble_eq_true rfl) dX2_init_76 (fun H locs hP hD hS => ?_)
  replace hw : HB G A s.heap ([(a, .inr (2, [.int 0, .int 0, .int 0, .int 0, .ref q0, .ref q1, .ref q2, .ref q3, .ref q4, .ref q5, .ref q6, .null, .null, .null])), (q0, .inl (G.2 0, 4, .inl (upd (upd (upd (upd (fun _ => 0) 0 (nI 6)) 1 (nI 4)) 2 (nI 5)) 3 (nI 0)))), (q1, .inr (1, [.int 0, .int 0, .ref (u1 0), .ref (u1 1), .ref (u1 2)])), (u1 0, .inl (G.2 0, 240, .inl (fun _ => 0))), (u1 1, .inl (G.2 0, 5, .inl (fun _ => 0))), (u1 2, .inl (G.2 0, 5, .inl (fun _ => 0))), (q2, .inl (G.2 0, 8, .inl (fun _ => 0))), (q3, .inl (G.2 0, 8, .inl (fun _ => 0))), (q4, .inl (G.2 0, 8, .inl (fun _ => 0))), (q5, .inl (G.2 0, 8, .inl (fun _ => 0))), (q6, .inl (G.2 0, 8, .inl (fun _ => 0)))]) H _ := ⟨hP, hD, hS, hw.2.2.2⟩
  refine lv_aload_n E.1 E.2.1 dX2_init_79 rfl (lv_at hl 0 rfl) ?_
  refine lv_bipush (v := nI 8) E.1 E.2.1 dX2_init_80 (by decide) ?_
  refine nwA E hw (t := 0) (ty := .int) rfl (atype := .int) rfl mw_2_5 (k := 8) (a0 := (8, .inl (fun _ => 0))) (fun _ => rfl) (by decide) ⟨Nat.le_of_ble_eq_true rfl, Nat.le_of_ble_eq_true rfl⟩ dX2_init_82 (fun q7 H hw => ?_)
  replace hw : HB G A s.heap ([(a, .inr (2, [.int 0, .int 0, .int 0, .int 0, .ref q0, .ref q1, .ref q2, .ref q3, .ref q4, .ref q5, .ref q6, .null, .null, .null])), (q0, .inl (G.2 0, 4, .inl (upd (upd (upd (upd (fun _ => 0) 0 (nI 6)) 1 (nI 4)) 2 (nI 5)) 3 (nI 0)))), (q1, .inr (1, [.int 0, .int 0, .ref (u1 0), .ref (u1 1), .ref (u1 2)])), (u1 0, .inl (G.2 0, 240, .inl (fun _ => 0))), (u1 1, .inl (G.2 0, 5, .inl (fun _ => 0))), (u1 2, .inl (G.2 0, 5, .inl (fun _ => 0))), (q2, .inl (G.2 0, 8, .inl (fun _ => 0))), (q3, .inl (G.2 0, 8, .inl (fun _ => 0))), (q4, .inl (G.2 0, 8, .inl (fun _ => 0))), (q5, .inl (G.2 0, 8, .inl (fun _ => 0))), (q6, .inl (G.2 0, 8, .inl (fun _ => 0))), (q7, .inl (G.2 0, 8, .inl (fun _ => 0)))]) H _ := hw
  refine va_putF (T := TX2) (N := 14) (C := RX2) (ci := 2) (ty := .array .int) E.1 E.2.1 E.2.2.2.2.1 inlX2 tyX2 tyX2_ok nmX2 E.2.2.2.1 E.2.2.2.2.2.1 hw.1 hw.2.1 hw.2.2.1 0 rfl rfl 11 (by decide) (E.2.2.2.2.1 _ mw_2_16) (fun _ h => h) rfl hin rfl (by decide +kernel) rfl rfl (Nat.le_of_ble_eq_true rfl) dX2_init_84 (fun H locs hP hD hS => ?_)
  replace hw : HB G A s.heap ([(a, .inr (2, [.int 0, .int 0, .int 0, .int 0, .ref q0, .ref q1, .ref q2, .ref q3, .ref q4, .ref q5, .ref q6, .ref q7, .null, .null])), (q0, .inl (G.2 0, 4, .inl (upd (upd (upd (upd (fun _ => 0) 0 (nI 6)) 1 (nI 4)) 2 (nI 5)) 3 (nI 0)))), (q1, .inr (1, [.int 0, .int 0, .ref (u1 0), .ref (u1 1), .ref (u1 2)])), (u1 0, .inl (G.2 0, 240, .inl (fun _ => 0))), (u1 1, .inl (G.2 0, 5, .inl (fun _ => 0))), (u1 2, .inl (G.2 0, 5, .inl (fun _ => 0))), (q2, .inl (G.2 0, 8, .inl (fun _ => 0))), (q3, .inl (G.2 0, 8, .inl (fun _ => 0))), (q4, .inl (G.2 0, 8, .inl (fun _ => 0))), (q5, .inl (G.2 0, 8, .inl (fun _ => 0))), (q6, .inl (G.2 0, 8, .inl (fun _ => 0))), (q7, .inl (G.2 0, 8, .inl (fun _ => 0)))]) H _ := ⟨hP, hD, hS, hw.2.2.2⟩
  refine lv_aload_n E.1 E.2.1 dX2_init_87 rfl (lv_at hl 0 rfl) ?_
  refine lv_bipush (v := nI 32) E.1 E.2.1 dX2_init_88 (by decide) ?_
  refine nwA E hw (t := 0) (ty := .int) rfl (atype := .int) rfl mw_2_5 (k := 32) (a0 := (32, .inl (fun _ => 0))) (fun _ => rfl) (by decide) ⟨Nat.le_of_ble_eq_true rfl, Nat.le_of_ble_eq_true rfl⟩ dX2_init_90 (fun q8 H hw => ?_)
  replace hw : HB G A s.heap ([(a, .inr (2, [.int 0, .int 0, .int 0, .int 0, .ref q0, .ref q1, .ref q2, .ref q3, .ref q4, .ref q5, .ref q6, .ref q7, .null, .null])), (q0, .inl (G.2 0, 4, .inl (upd (upd (upd (upd (fun _ => 0) 0 (nI 6)) 1 (nI 4)) 2 (nI 5)) 3 (nI 0)))), (q1, .inr (1, [.int 0, .int 0, .ref (u1 0), .ref (u1 1), .ref (u1 2)])), (u1 0, .inl (G.2 0, 240, .inl (fun _ => 0))), (u1 1, .inl (G.2 0, 5, .inl (fun _ => 0))), (u1 2, .inl (G.2 0, 5, .inl (fun _ => 0))), (q2, .inl (G.2 0, 8, .inl (fun _ => 0))), (q3, .inl (G.2 0, 8, .inl (fun _ => 0))), (q4, .inl (G.2 0, 8, .inl (fun _ => 0))), (q5, .inl (G.2 0, 8, .inl (fun _ => 0))), (q6, .inl (G.2 0, 8, .inl (fun _ => 0))), (q7, .inl (G.2 0, 8, .inl (fun _ => 0))), (q8, .inl (G.2 0, 32, .inl (fun _ => 0)))]) H _ := hw
  refine va_putF (T := TX2) (N := 14) (C := RX2) (ci := 2) (ty := .array .int) E.1 E.2.1 E.2.2.2.2.1 inlX2 tyX2 tyX2_ok nmX2 E.2.2.2.1 E.2.2.2.2.2.1 hw.1 hw.2.1 hw.2.2.1 0 rfl rfl 12 (by decide) (E.2.2.2.2.1 _ mw_2_17) (fun _ h => h) rfl hin rfl (by decide +kernel) rfl rfl (Nat.le_of_ble_eq_true rfl) dX2_init_92 (fun H locs hP hD hS => ?_)
  replace hw : HB G A s.heap ([(a, .inr (2, [.int 0, .int 0, .int 0, .int 0, .ref q0, .ref q1, .ref q2, .ref q3, .ref q4, .ref q5, .ref q6, .ref q7, .ref q8, .null])), (q0, .inl (G.2 0, 4, .inl (upd (upd (upd (upd (fun _ => 0) 0 (nI 6)) 1 (nI 4)) 2 (nI 5)) 3 (nI 0)))), (q1, .inr (1, [.int 0, .int 0, .ref (u1 0), .ref (u1 1), .ref (u1 2)])), (u1 0, .inl (G.2 0, 240, .inl (fun _ => 0))), (u1 1, .inl (G.2 0, 5, .inl (fun _ => 0))), (u1 2, .inl (G.2 0, 5, .inl (fun _ => 0))), (q2, .inl (G.2 0, 8, .inl (fun _ => 0))), (q3, .inl (G.2 0, 8, .inl (fun _ => 0))), (q4, .inl (G.2 0, 8, .inl (fun _ => 0))), (q5, .inl (G.2 0, 8, .inl (fun _ => 0))), (q6, .inl (G.2 0, 8, .inl (fun _ => 0))), (q7, .inl (G.2 0, 8, .inl (fun _ => 0))), (q8, .inl (G.2 0, 32, .inl (fun _ => 0)))]) H _ := ⟨hP, hD, hS, hw.2.2.2⟩
  refine lv_aload_n E.1 E.2.1 dX2_init_95 rfl (lv_at hl 0 rfl) ?_
  refine lv_bipush (v := nI 32) E.1 E.2.1 dX2_init_96 (by decide) ?_
  refine nwA E hw (t := 0) (ty := .int) rfl (atype := .int) rfl mw_2_5 (k := 32) (a0 := (32, .inl (fun _ => 0))) (fun _ => rfl) (by decide) ⟨Nat.le_of_ble_eq_true rfl, Nat.le_of_ble_eq_true rfl⟩ dX2_init_98 (fun q9 H hw => ?_)
  replace hw : HB G A s.heap ([(a, .inr (2, [.int 0, .int 0, .int 0, .int 0, .ref q0, .ref q1, .ref q2, .ref q3, .ref q4, .ref q5, .ref q6, .ref q7, .ref q8, .null])), (q0, .inl (G.2 0, 4, .inl (upd (upd (upd (upd (fun _ => 0) 0 (nI 6)) 1 (nI 4)) 2 (nI 5)) 3 (nI 0)))), (q1, .inr (1, [.int 0, .int 0, .ref (u1 0), .ref (u1 1), .ref (u1 2)])), (u1 0, .inl (G.2 0, 240, .inl (fun _ => 0))), (u1 1, .inl (G.2 0, 5, .inl (fun _ => 0))), (u1 2, .inl (G.2 0, 5, .inl (fun _ => 0))), (q2, .inl (G.2 0, 8, .inl (fun _ => 0))), (q3, .inl (G.2 0, 8, .inl (fun _ => 0))), (q4, .inl (G.2 0, 8, .inl (fun _ => 0))), (q5, .inl (G.2 0, 8, .inl (fun _ => 0))), (q6, .inl (G.2 0, 8, .inl (fun _ => 0))), (q7, .inl (G.2 0, 8, .inl (fun _ => 0))), (q8, .inl (G.2 0, 32, .inl (fun _ => 0))), (q9, .inl (G.2 0, 32, .inl (fun _ => 0)))]) H _ := hw
  refine va_putF (T := TX2) (N := 14) (C := RX2) (ci := 2) (ty := .array .int) E.1 E.2.1 E.2.2.2.2.1 inlX2 tyX2 tyX2_ok nmX2 E.2.2.2.1 E.2.2.2.2.2.1 hw.1 hw.2.1 hw.2.2.1 0 rfl rfl 13 (by decide) (E.2.2.2.2.1 _ mw_2_18) (fun _ h => h) rfl hin rfl (by decide +kernel) rfl rfl (Nat.le_of_ble_eq_true rfl) dX2_init_100 (fun H locs hP hD hS => ?_)
  replace hw : HB G A s.heap ([(a, .inr (2, [.int 0, .int 0, .int 0, .int 0, .ref q0, .ref q1, .ref q2, .ref q3, .ref q4, .ref q5, .ref q6, .ref q7, .ref q8, .ref q9])), (q0, .inl (G.2 0, 4, .inl (upd (upd (upd (upd (fun _ => 0) 0 (nI 6)) 1 (nI 4)) 2 (nI 5)) 3 (nI 0)))), (q1, .inr (1, [.int 0, .int 0, .ref (u1 0), .ref (u1 1), .ref (u1 2)])), (u1 0, .inl (G.2 0, 240, .inl (fun _ => 0))), (u1 1, .inl (G.2 0, 5, .inl (fun _ => 0))), (u1 2, .inl (G.2 0, 5, .inl (fun _ => 0))), (q2, .inl (G.2 0, 8, .inl (fun _ => 0))), (q3, .inl (G.2 0, 8, .inl (fun _ => 0))), (q4, .inl (G.2 0, 8, .inl (fun _ => 0))), (q5, .inl (G.2 0, 8, .inl (fun _ => 0))), (q6, .inl (G.2 0, 8, .inl (fun _ => 0))), (q7, .inl (G.2 0, 8, .inl (fun _ => 0))), (q8, .inl (G.2 0, 32, .inl (fun _ => 0))), (q9, .inl (G.2 0, 32, .inl (fun _ => 0)))]) H _ := ⟨hP, hD, hS, hw.2.2.2⟩
  exact rC E hr hlk (w' := fun u => sN G (acons a u) N00) (fun k => ([q0, q1, u1 0, u1 1, u1 2, q2, q3, q4, q5, q6, q7, q8, q9] : List Nat).getD k 0) (s_00 hw) dX2_init_103
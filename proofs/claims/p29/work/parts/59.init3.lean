/-! ===== the class's constructor ===== -/
theorem HB.cellq {G : GP} {A : Nat → Prop} {H0 : Heap} {ws : va_W} {H : Heap} {locs : List Loc} (h : HB G A H0 ws H locs) (k : Nat) {b : Nat} {cA : ClassId} {n : Nat} {f g : Nat → Option Nat} (hk : ws[k]? = some (b, .inl (cA, n, .inr (.inr (.inr (.inr f)))))) (e : ∀ j, j < n → f j = g j) : HB G A H0 (ws.set k (b, .inl (cA, n, .inr (.inr (.inr (.inr g)))))) H locs := by
  obtain ⟨h1, h2, h3⟩ := h
  refine ⟨va_P_iff.mpr fun q hq => ?_, h2.set hk, h3⟩
  rcases List.mem_or_eq_of_mem_set hq with z | z
  · exact va_P_iff.mp h1 q z
  · subst z
    have h5 : H[b]? = some (vp_cell cA (n, .inr (.inr (.inr (.inr f))))) := h1 k _ hk
    show H[b]? = some (vp_cell cA (n, .inr (.inr (.inr (.inr g)))))
    rw [h5, vp_cell_q, vp_cell_q]
    exact congrArg some (arrV_congr fun j hj => by rw [e j hj])
def hfT (ad : Nat → Nat → Nat) (T : Nat) : Nat → Option Nat := fun k => if 2 + k < min T 9 then some (ad (2 + k) 0) else none
def sfT (ad : Nat → Nat → Nat) (T : Nat) : Nat → Option Nat := fun k => if 9 + k < T then some (ad (9 + k) 0) else none
def cI (G : GP) (b : Nat → Nat) (ad : Nat → Nat → Nat) (hf sf : Nat → Option Nat) : va_W := [(b 0, .inr (3, [.ref (ad 0 0), .ref (ad 1 0), .ref (b 1), .int 0, .int 0, .ref (b 2), .int 0, .ref (b 3), .int 0, .ref (b 4)])), (b 1, .inl (G.2 3, 7, .inr (.inr (.inr (.inr hf))))), (b 2, .inl (G.2 3, 2, .inr (.inr (.inr (.inr sf))))), (b 3, .inl (G.2 1, 60, .inl (fun _ => 0))), (b 4, .inr (0, [.int 0, .int 0, .int 0, .int 0]))]
def cZ (G : GP) (ad : Nat → Nat → Nat) (T : Nat) : va_W := (List.range T).flatMap (fun t => sN G (ad t) N00)
def cJ (G : GP) (b : Nat → Nat) (ad : Nat → Nat → Nat) (T : Nat) : va_W := cI G b ad (hfT ad T) (sfT ad T) ++ cZ G ad T
theorem fm_c {f g : Nat → va_W} : ∀ L : List Nat, (∀ t ∈ L, f t = g t) → L.flatMap f = L.flatMap g
  | [], _ => rfl
  | t :: L, h => by rw [List.flatMap_cons, List.flatMap_cons, h t List.mem_cons_self, fm_c L (fun t ht => h t (List.mem_cons_of_mem _ ht))]
theorem cZ_up {G : GP} {ad : Nat → Nat → Nat} {T : Nat} {a' : Nat → Nat} : cZ G (va_up ad T a') (T + 1) = cZ G ad T ++ sN G a' N00 := by
  unfold cZ
  rw [List.range_succ, List.flatMap_append, List.flatMap_singleton, va_up_self]
  congr 1
  exact fm_c _ (fun t ht => by rw [va_up_ne _ _ (Nat.ne_of_lt (List.mem_range.mp ht))])
theorem hfT_up {ad : Nat → Nat → Nat} {j : Nat} {a' : Nat → Nat} (hj : j < 7) : va_up (hfT ad (2 + j)) j (some (a' 0)) = hfT (va_up ad (2 + j) a') (2 + j + 1) := by
  funext k
  unfold hfT
  by_cases h : k = j
  · subst h
    rw [va_up_self, if_pos (by omega), va_up_self]
  · rw [va_up_ne _ _ h, va_up_ne _ _ (by omega)]
    by_cases h2 : 2 + k < min (2 + j) 9
    · rw [if_pos h2, if_pos (by omega)]
    · rw [if_neg h2, if_neg (by omega)]
theorem sfT_hi {ad : Nat → Nat → Nat} {j : Nat} {a' : Nat → Nat} (hj : j < 7) : sfT ad (2 + j) = sfT (va_up ad (2 + j) a') (2 + j + 1) := by
  funext k
  unfold sfT
  rw [if_neg (by omega), if_neg (by omega)]
theorem sfT_up {ad : Nat → Nat → Nat} {j : Nat} {a' : Nat → Nat} : va_up (sfT ad (9 + j)) j (some (a' 0)) = sfT (va_up ad (9 + j) a') (9 + j + 1) := by
  funext k
  unfold sfT
  by_cases h : k = j
  · subst h
    rw [va_up_self, if_pos (by omega), va_up_self]
  · rw [va_up_ne _ _ h, va_up_ne _ _ (by omega)]
    by_cases h2 : 9 + k < 9 + j
    · rw [if_pos h2, if_pos (by omega)]
    · rw [if_neg h2, if_neg (by omega)]
theorem hfT_hi {ad : Nat → Nat → Nat} {j : Nat} {a' : Nat → Nat} : hfT ad (9 + j) = hfT (va_up ad (9 + j) a') (9 + j + 1) := by
  funext k
  unfold hfT
  by_cases h2 : 2 + k < 9
  · rw [if_pos (by omega), if_pos (by omega), va_up_ne _ _ (by omega)]
  · rw [if_neg (by omega), if_neg (by omega)]
theorem cI_ad {G : GP} {b : Nat → Nat} {ad : Nat → Nat → Nat} {T : Nat} {a' : Nat → Nat} {hf sf : Nat → Option Nat} (hT : 2 ≤ T) : cI G b (va_up ad T a') hf sf = cI G b ad hf sf := by
  unfold cI
  rw [va_up_ne _ _ (by omega), va_up_ne _ _ (by omega)]
theorem cJ_h {G : GP} {b : Nat → Nat} {ad : Nat → Nat → Nat} {j : Nat} {a' : Nat → Nat} (hj : j < 7) : (sN G a' N00 ++ (cI G b ad (va_up (hfT ad (2 + j)) j (some (a' 0))) (sfT ad (2 + j)) ++ cZ G ad (2 + j))).Perm (cJ G b (va_up ad (2 + j) a') (2 + j + 1)) := by
  unfold cJ
  rw [cI_ad (by omega), hfT_up hj, sfT_hi hj (a' := a'), cZ_up]
  exact List.perm_append_comm.trans (List.Perm.of_eq (List.append_assoc _ _ _))
theorem cJ_s {G : GP} {b : Nat → Nat} {ad : Nat → Nat → Nat} {j : Nat} {a' : Nat → Nat} : (sN G a' N00 ++ (cI G b ad (hfT ad (9 + j)) (va_up (sfT ad (9 + j)) j (some (a' 0))) ++ cZ G ad (9 + j))).Perm (cJ G b (va_up ad (9 + j) a') (9 + j + 1)) := by
  unfold cJ
  rw [cI_ad (by omega), sfT_up, hfT_hi (a' := a'), cZ_up]
  exact List.perm_append_comm.trans (List.Perm.of_eq (List.append_assoc _ _ _))
theorem perm7 {α : Type} (o s0 s1 h1 h2 h3 h4 : List α) : ((((((o ++ s0) ++ s1) ++ h1) ++ h2) ++ h3) ++ h4).Perm ((o ++ (h1 ++ (h2 ++ (h3 ++ h4)))) ++ (s0 ++ s1)) := by
  have e1 : (((((o ++ s0) ++ s1) ++ h1) ++ h2) ++ h3) ++ h4 = o ++ ((s0 ++ s1) ++ (h1 ++ (h2 ++ (h3 ++ h4)))) := by simp only [List.append_assoc]
  have e2 : (o ++ (h1 ++ (h2 ++ (h3 ++ h4)))) ++ (s0 ++ s1) = o ++ ((h1 ++ (h2 ++ (h3 ++ h4))) ++ (s0 ++ s1)) := by simp only [List.append_assoc]
  rw [e1, e2]
  exact List.Perm.append_left o List.perm_append_comm
/-- all eleven states made: the world of the class -/
theorem cJ_end {G : GP} {A : Nat → Prop} {H0 : Heap} {b : Nat → Nat} {ad : Nat → Nat → Nat} {H : Heap} {locs : List Loc} (h : HB G A H0 (cJ G b ad 11) H locs) : HB G A H0 (cW G b ad (fun _ => 0) (fun _ => 0) (rvO (0, 0, 0, 0)) (fun _ => N00)) H locs := by
  have h1 := h.cellq 1 rfl (g := fun k => some (ad (2 + k) 0)) (fun j hj => if_pos (by omega))
  have h2 := h1.cellq 2 rfl (g := fun k => some (ad (9 + k) 0)) (fun j hj => if_pos (by omega))
  exact h2
section LIBI3
variable {p : Program} {l : Launch} {e : Env} {R : Room} {s : State} {m : MethodId} {args : Array Value} {below : List Frame} {meth : Method} {c : Code} {H : Heap} {locs : List Loc} {cells slots : Nat} {Q : State → Prop}
variable {cc : ByteArray} {pc : Nat} {ls : Array Slot} {rest st0 : List Value} {A : Nat → Prop} {H0 : Heap} {own : String} {nL : Nat} {G : GP} {w : va_W} {b : Nat → Nat} {ad : Nat → Nat → Nat} {T : Nat} {a' : Nat → Nat}
set_option maxRecDepth 100000 in
set_option maxHeartbeats 4000000 in
theorem X3_loopH (E : EN p c cX3_init s m args RX3 2 G) (hR : 3 ≤ R.frames ∧ 60 ≤ R.locals ∧ 158 ≤ R.cells ∧ 4308 ≤ R.slots) (kk : ∀ (ad : Nat → Nat → Nat) (H : Heap) (locs : List Loc) (ls : Array Slot), HB G A H0 (cJ G b ad 9) H locs → lv_has ls 2 [(1, .int (nI 7)), (0, .ref (b 0))] → W p l e R s m args below meth c H locs 130 3538 Q (F0 m 92 ls [])) :
    ∀ (n j : Nat), j + n = 7 → ∀ (ad : Nat → Nat → Nat) (H : Heap) (locs : List Loc) (ls : Array Slot), HB G A H0 (cJ G b ad (2 + j)) H locs → lv_has ls 2 [(1, .int (nI j)), (0, .ref (b 0))] → W p l e R s m args below meth c H locs (32 + 14 * j) (843 + 385 * j) Q (F0 m 64 ls []) := by
  intro n
  induction n with
  | zero =>
    intro j hj ad H locs ls hw hl
    obtain rfl : j = 7 := by omega
    refine lv_iload_n E.1 E.2.1 dX3_init_64 rfl (lv_at hl 0 rfl) ?_
    refine lv_aload_n E.1 E.2.1 dX3_init_65 rfl (lv_at hl 1 rfl) ?_
    refine va_get (T := TX3) (N := 10) (C := RX3) (ci := 3) E.1 E.2.1 E.2.2.2.2.1 inlX3 E.2.2.2.1 E.2.2.2.2.2.1 hw.1 0 rfl rfl 2 (by decide) (E.2.2.2.2.1 _ mw_1_18) (fun _ h => h) rfl dX3_init_66 ?_
    refine va_alen E.1 E.2.1 E.2.2.2.2.2.1 hw.1 1 3 rfl rfl (v := nI 7) rfl dX3_init_69 ?_
    refine lv_icmp_geN (tgt := 92) E.1 E.2.1 (by decide) (by decide) dX3_init_70 (by decide) (fun c0 => ?_) (fun c0 => absurd (Nat.le_refl _) c0)
    exact kk ad H locs ls hw hl
  | succ n ih =>
    intro j hj ad H locs ls hw hl
    have hj7 : j < 7 := by omega
    refine lv_iload_n E.1 E.2.1 dX3_init_64 rfl (lv_at hl 0 rfl) ?_
    refine lv_aload_n E.1 E.2.1 dX3_init_65 rfl (lv_at hl 1 rfl) ?_
    refine va_get (T := TX3) (N := 10) (C := RX3) (ci := 3) E.1 E.2.1 E.2.2.2.2.1 inlX3 E.2.2.2.1 E.2.2.2.2.2.1 hw.1 0 rfl rfl 2 (by decide) (E.2.2.2.2.1 _ mw_1_18) (fun _ h => h) rfl dX3_init_66 ?_
    refine va_alen E.1 E.2.1 E.2.2.2.2.2.1 hw.1 1 3 rfl rfl (v := nI 7) rfl dX3_init_69 ?_
    refine lv_icmp_geN (tgt := 92) E.1 E.2.1 (by omega) (by decide) dX3_init_70 (by decide) (fun c0 => absurd c0 (by omega)) (fun c0 => ?_)
    refine lv_aload_n E.1 E.2.1 dX3_init_73 rfl (lv_at hl 1 rfl) ?_
    refine va_get (T := TX3) (N := 10) (C := RX3) (ci := 3) E.1 E.2.1 E.2.2.2.2.1 inlX3 E.2.2.2.1 E.2.2.2.2.2.1 hw.1 0 rfl rfl 2 (by decide) (E.2.2.2.2.1 _ mw_1_18) (fun _ h => h) rfl dX3_init_74 ?_
    refine lv_iload_n E.1 E.2.1 dX3_init_77 rfl (lv_at hl 0 rfl) ?_
    refine nwO E hw (T := TX2) (N := 14) (ci := 2) (fs := [.int 0, .int 0, .int 0, .int 0, .null, .null, .null, .null, .null, .null, .null, .null, .null, .null]) inlX2 tyX2 tyX2_ok mw_1_13 mw_1_14 mw_1_15 rfl (fun j hj => by rcases (show j = 0 ∨ j = 1 ∨ j = 2 ∨ j = 3 ∨ j = 4 ∨ j = 5 ∨ j = 6 ∨ j = 7 ∨ j = 8 ∨ j = 9 ∨ j = 10 ∨ j = 11 ∨ j = 12 ∨ j = 13 by omega) with rfl | rfl | rfl | rfl | rfl | rfl | rfl | rfl | rfl | rfl | rfl | rfl | rfl | rfl <;> rfl) ⟨by omega, by omega⟩ dX3_init_78 (fun q H hw => ?_)
    refine lv_dup E.1 E.2.1 dX3_init_81 rfl ?_
    refine callCN E (c_X2_init l G q) ES.eb (fun _ _ _ => trivial) E.2.2.2.2.2.2.2.1 YX2_init (rr := cJ G b ad (2 + j)) ⟨by show 2 + 1 ≤ _; omega, by show 8 + (1 + 11) + 40 ≤ _; omega⟩ ⟨by show 32 + 14 * j + 1 + 13 ≤ _; omega, by show 843 + 385 * j + 14 + 371 ≤ _; omega⟩ hw hl (Nat.le_of_ble_eq_true rfl) dX3_init_82 (fun u H locs hw => ?_)
    replace hw := hw.perm (List.perm_append_comm (l₁ := cJ G b ad (2 + j)) (l₂ := sN G (acons q u) N00))
    refine va_astq E.1 E.2.1 E.2.2.2.2.2.1 hw.1 hw.2.1 hw.2.2.1 15 3 0 2 rfl rfl rfl rfl (vp_in_nI hj7 (by decide)) dX3_init_85 (fun H locs hP hD hS => ?_)
    rw [nI_clamp (Nat.lt_trans hj7 (by decide))] at hP hD
    replace hw : HB G A H0 (sN G (acons q u) N00 ++ (cI G b ad (va_up (hfT ad (2 + j)) j (some q)) (sfT ad (2 + j)) ++ cZ G ad (2 + j))) H locs := ⟨hP, hD, hS, hw.2.2.2⟩
    replace hw := hw.perm (cJ_h hj7 (a' := acons q u))
    refine lv_iincN (k := 0) (lv' := [(1, .int (nI (j + 1))), (0, .ref (b 0))]) E.1 E.2.1 dX3_init_86 hl rfl (by decide) rfl (fun ls hl => ?_)
    refine lv_goto (tgt := 64) E.1 E.2.1 dX3_init_89 (by decide) ?_
    refine W.widen (k := 32 + 14 * (j + 1)) (n := 843 + 385 * (j + 1)) (by show 32 + 14 * j + 1 + 13 ≤ _; omega) (by show 843 + 385 * j + 14 + 371 ≤ _; omega) ?_
    exact ih (j + 1) (by omega) _ _ _ _ hw hl
set_option maxRecDepth 100000 in
set_option maxHeartbeats 4000000 in
theorem X3_loopS (E : EN p c cX3_init s m args RX3 2 G) (hR : 3 ≤ R.frames ∧ 60 ≤ R.locals ∧ 158 ≤ R.cells ∧ 4308 ≤ R.slots) (kk : ∀ (ad : Nat → Nat → Nat) (H : Heap) (locs : List Loc) (ls : Array Slot), HB G A H0 (cJ G b ad 11) H locs → lv_has ls 2 [(1, .int (nI 2)), (0, .ref (b 0))] → W p l e R s m args below meth c H locs 158 4308 Q (F0 m 122 ls [])) :
    ∀ (n j : Nat), j + n = 2 → ∀ (ad : Nat → Nat → Nat) (H : Heap) (locs : List Loc) (ls : Array Slot), HB G A H0 (cJ G b ad (9 + j)) H locs → lv_has ls 2 [(1, .int (nI j)), (0, .ref (b 0))] → W p l e R s m args below meth c H locs (130 + 14 * j) (3538 + 385 * j) Q (F0 m 94 ls []) := by
  intro n
  induction n with
  | zero =>
    intro j hj ad H locs ls hw hl
    obtain rfl : j = 2 := by omega
    refine lv_iload_n E.1 E.2.1 dX3_init_94 rfl (lv_at hl 0 rfl) ?_
    refine lv_aload_n E.1 E.2.1 dX3_init_95 rfl (lv_at hl 1 rfl) ?_
    refine va_get (T := TX3) (N := 10) (C := RX3) (ci := 3) E.1 E.2.1 E.2.2.2.2.1 inlX3 E.2.2.2.1 E.2.2.2.2.2.1 hw.1 0 rfl rfl 5 (by decide) (E.2.2.2.2.1 _ mw_1_19) (fun _ h => h) rfl dX3_init_96 ?_
    refine va_alen E.1 E.2.1 E.2.2.2.2.2.1 hw.1 2 3 rfl rfl (v := nI 2) rfl dX3_init_99 ?_
    refine lv_icmp_geN (tgt := 122) E.1 E.2.1 (by decide) (by decide) dX3_init_100 (by decide) (fun c0 => ?_) (fun c0 => absurd (Nat.le_refl _) c0)
    exact kk ad H locs ls hw hl
  | succ n ih =>
    intro j hj ad H locs ls hw hl
    have hj7 : j < 2 := by omega
    refine lv_iload_n E.1 E.2.1 dX3_init_94 rfl (lv_at hl 0 rfl) ?_
    refine lv_aload_n E.1 E.2.1 dX3_init_95 rfl (lv_at hl 1 rfl) ?_
    refine va_get (T := TX3) (N := 10) (C := RX3) (ci := 3) E.1 E.2.1 E.2.2.2.2.1 inlX3 E.2.2.2.1 E.2.2.2.2.2.1 hw.1 0 rfl rfl 5 (by decide) (E.2.2.2.2.1 _ mw_1_19) (fun _ h => h) rfl dX3_init_96 ?_
    refine va_alen E.1 E.2.1 E.2.2.2.2.2.1 hw.1 2 3 rfl rfl (v := nI 2) rfl dX3_init_99 ?_
    refine lv_icmp_geN (tgt := 122) E.1 E.2.1 (by omega) (by decide) dX3_init_100 (by decide) (fun c0 => absurd c0 (by omega)) (fun c0 => ?_)
    refine lv_aload_n E.1 E.2.1 dX3_init_103 rfl (lv_at hl 1 rfl) ?_
    refine va_get (T := TX3) (N := 10) (C := RX3) (ci := 3) E.1 E.2.1 E.2.2.2.2.1 inlX3 E.2.2.2.1 E.2.2.2.2.2.1 hw.1 0 rfl rfl 5 (by decide) (E.2.2.2.2.1 _ mw_1_19) (fun _ h => h) rfl dX3_init_104 ?_
    refine lv_iload_n E.1 E.2.1 dX3_init_107 rfl (lv_at hl 0 rfl) ?_
    refine nwO E hw (T := TX2) (N := 14) (ci := 2) (fs := [.int 0, .int 0, .int 0, .int 0, .null, .null, .null, .null, .null, .null, .null, .null, .null, .null]) inlX2 tyX2 tyX2_ok mw_1_13 mw_1_14 mw_1_15 rfl (fun j hj => by rcases (show j = 0 ∨ j = 1 ∨ j = 2 ∨ j = 3 ∨ j = 4 ∨ j = 5 ∨ j = 6 ∨ j = 7 ∨ j = 8 ∨ j = 9 ∨ j = 10 ∨ j = 11 ∨ j = 12 ∨ j = 13 by omega) with rfl | rfl | rfl | rfl | rfl | rfl | rfl | rfl | rfl | rfl | rfl | rfl | rfl | rfl <;> rfl) ⟨by omega, by omega⟩ dX3_init_108 (fun q H hw => ?_)
    refine lv_dup E.1 E.2.1 dX3_init_111 rfl ?_
    refine callCN E (c_X2_init l G q) ES.eb (fun _ _ _ => trivial) E.2.2.2.2.2.2.2.1 YX2_init (rr := cJ G b ad (9 + j)) ⟨by show 2 + 1 ≤ _; omega, by show 8 + (1 + 11) + 40 ≤ _; omega⟩ ⟨by show 130 + 14 * j + 1 + 13 ≤ _; omega, by show 3538 + 385 * j + 14 + 371 ≤ _; omega⟩ hw hl (Nat.le_of_ble_eq_true rfl) dX3_init_112 (fun u H locs hw => ?_)
    replace hw := hw.perm (List.perm_append_comm (l₁ := cJ G b ad (9 + j)) (l₂ := sN G (acons q u) N00))
    refine va_astq E.1 E.2.1 E.2.2.2.2.2.1 hw.1 hw.2.1 hw.2.2.1 16 3 0 2 rfl rfl rfl rfl (vp_in_nI hj7 (by decide)) dX3_init_115 (fun H locs hP hD hS => ?_)
    rw [nI_clamp (Nat.lt_trans hj7 (by decide))] at hP hD
    replace hw : HB G A H0 (sN G (acons q u) N00 ++ (cI G b ad (hfT ad (9 + j)) (va_up (sfT ad (9 + j)) j (some q)) ++ cZ G ad (9 + j))) H locs := ⟨hP, hD, hS, hw.2.2.2⟩
    replace hw := hw.perm (cJ_s (a' := acons q u))
    refine lv_iincN (k := 0) (lv' := [(1, .int (nI (j + 1))), (0, .ref (b 0))]) E.1 E.2.1 dX3_init_116 hl rfl (by decide) rfl (fun ls hl => ?_)
    refine lv_goto (tgt := 94) E.1 E.2.1 dX3_init_119 (by decide) ?_
    refine W.widen (k := 130 + 14 * (j + 1)) (n := 3538 + 385 * (j + 1)) (by show 130 + 14 * j + 1 + 13 ≤ _; omega) (by show 3538 + 385 * j + 14 + 371 ≤ _; omega) ?_
    exact ih (j + 1) (by omega) _ _ _ _ hw hl
end LIBI3
set_option maxRecDepth 100000 in
set_option maxHeartbeats 4000000 in
theorem c_X3_init (l : Launch) (G : GP) (a : Nat) : MC l yX3_init (.code yX3_init cX3_init 2 none :: GW) ({ frames := 3, cells := 158, slots := 4308, locals := 60 }) a G (va_AO "ClerkVotes$State") (wX3 a) (fun (u : (Nat → Nat) × (Nat → Nat → Nat)) => cW G (acons a u.1) u.2 (fun _ => 0) (fun _ => 0) (rvO (0, 0, 0, 0)) (fun _ => N00)) := by
  refine MC.of (by decide) rfl (by decide) rfl ?_
  intro p e s m below meth c ls A E hw hl hr hlk hin hAO
  refine lv_aload_n E.1 E.2.1 dX3_init_0 rfl (lv_at hl 0 rfl) ?_
  refine oI E mw_1_10 hl ⟨Nat.le_of_ble_eq_true rfl, Nat.le_of_ble_eq_true rfl⟩ dX3_init_1 ?_
  replace hw : HB G A s.heap ([(a, .inr (3, [.null, .null, .null, .int 0, .int 0, .null, .int 0, .null, .int 0, .null]))]) s.heap _ := hw
  refine lv_aload_n E.1 E.2.1 dX3_init_4 rfl (lv_at hl 0 rfl) ?_
  refine nwO E hw (T := TX2) (N := 14) (ci := 2) (fs := [.int 0, .int 0, .int 0, .int 0, .null, .null, .null, .null, .null, .null, .null, .null, .null, .null]) inlX2 tyX2 tyX2_ok mw_1_13 mw_1_14 mw_1_15 rfl (fun j hj => by rcases (show j = 0 ∨ j = 1 ∨ j = 2 ∨ j = 3 ∨ j = 4 ∨ j = 5 ∨ j = 6 ∨ j = 7 ∨ j = 8 ∨ j = 9 ∨ j = 10 ∨ j = 11 ∨ j = 12 ∨ j = 13 by omega) with rfl | rfl | rfl | rfl | rfl | rfl | rfl | rfl | rfl | rfl | rfl | rfl | rfl | rfl <;> rfl) ⟨Nat.le_of_ble_eq_true rfl, Nat.le_of_ble_eq_true rfl⟩ dX3_init_5 (fun q0 H hw => ?_)
  refine lv_dup E.1 E.2.1 dX3_init_8 rfl ?_
  refine callCN E (c_X2_init l G q0) ES.eb (fun _ _ _ => trivial) E.2.2.2.2.2.2.2.1 YX2_init (rr := [(a, .inr (3, [.null, .null, .null, .int 0, .int 0, .null, .int 0, .null, .int 0, .null]))]) ⟨Nat.le_of_ble_eq_true rfl, Nat.le_of_ble_eq_true rfl⟩ ⟨Nat.le_of_ble_eq_true rfl, Nat.le_of_ble_eq_true rfl⟩ hw hl (Nat.le_of_ble_eq_true rfl) dX3_init_9 (fun u0 H locs hw => ?_)
  replace hw : HB G A s.heap (([(a, .inr (3, [.null, .null, .null, .int 0, .int 0, .null, .int 0, .null, .int 0, .null]))] ++ sN G (acons q0 u0) N00)) H _ := hw
  refine va_putF (T := TX3) (N := 10) (C := RX3) (ci := 3) (ty := .object "ClerkVotes$State") E.1 E.2.1 E.2.2.2.2.1 inlX3 tyX3 tyX3_ok nmX3 E.2.2.2.1 E.2.2.2.2.2.1 hw.1 hw.2.1 hw.2.2.1 0 rfl rfl 0 (by decide) (E.2.2.2.2.1 _ mw_1_16) (fun _ h => h) rfl hin rfl (by decide +kernel) rfl rfl (Nat.le_of_ble_eq_true rfl) dX3_init_12 (fun H locs hP hD hS => ?_)
  replace hw : HB G A s.heap (([(a, .inr (3, [.ref q0, .null, .null, .int 0, .int 0, .null, .int 0, .null, .int 0, .null]))] ++ sN G (acons q0 u0) N00)) H _ := ⟨hP, hD, hS, hw.2.2.2⟩
  refine lv_aload_n E.1 E.2.1 dX3_init_15 rfl (lv_at hl 0 rfl) ?_
  refine nwO E hw (T := TX2) (N := 14) (ci := 2) (fs := [.int 0, .int 0, .int 0, .int 0, .null, .null, .null, .null, .null, .null, .null, .null, .null, .null]) inlX2 tyX2 tyX2_ok mw_1_13 mw_1_14 mw_1_15 rfl (fun j hj => by rcases (show j = 0 ∨ j = 1 ∨ j = 2 ∨ j = 3 ∨ j = 4 ∨ j = 5 ∨ j = 6 ∨ j = 7 ∨ j = 8 ∨ j = 9 ∨ j = 10 ∨ j = 11 ∨ j = 12 ∨ j = 13 by omega) with rfl | rfl | rfl | rfl | rfl | rfl | rfl | rfl | rfl | rfl | rfl | rfl | rfl | rfl <;> rfl) ⟨Nat.le_of_ble_eq_true rfl, Nat.le_of_ble_eq_true rfl⟩ dX3_init_16 (fun q1 H hw => ?_)
  refine lv_dup E.1 E.2.1 dX3_init_19 rfl ?_
  refine callCN E (c_X2_init l G q1) ES.eb (fun _ _ _ => trivial) E.2.2.2.2.2.2.2.1 YX2_init (rr := ([(a, .inr (3, [.ref q0, .null, .null, .int 0, .int 0, .null, .int 0, .null, .int 0, .null]))] ++ sN G (acons q0 u0) N00)) ⟨Nat.le_of_ble_eq_true rfl, Nat.le_of_ble_eq_true rfl⟩ ⟨Nat.le_of_ble_eq_true rfl, Nat.le_of_ble_eq_true rfl⟩ hw hl (Nat.le_of_ble_eq_true rfl) dX3_init_20 (fun u1 H locs hw => ?_)
  replace hw : HB G A s.heap ((([(a, .inr (3, [.ref q0, .null, .null, .int 0, .int 0, .null, .int 0, .null, .int 0, .null]))] ++ sN G (acons q0 u0) N00) ++ sN G (acons q1 u1) N00)) H _ := hw
  refine va_putF (T := TX3) (N := 10) (C := RX3) (ci := 3) (ty := .object "ClerkVotes$State") E.1 E.2.1 E.2.2.2.2.1 inlX3 tyX3 tyX3_ok nmX3 E.2.2.2.1 E.2.2.2.2.2.1 hw.1 hw.2.1 hw.2.2.1 0 rfl rfl 1 (by decide) (E.2.2.2.2.1 _ mw_1_17) (fun _ h => h) rfl hin rfl (by decide +kernel) rfl rfl (Nat.le_of_ble_eq_true rfl) dX3_init_23 (fun H locs hP hD hS => ?_)
  replace hw : HB G A s.heap ((([(a, .inr (3, [.ref q0, .ref q1, .null, .int 0, .int 0, .null, .int 0, .null, .int 0, .null]))] ++ sN G (acons q0 u0) N00) ++ sN G (acons q1 u1) N00)) H _ := ⟨hP, hD, hS, hw.2.2.2⟩
  refine lv_aload_n E.1 E.2.1 dX3_init_26 rfl (lv_at hl 0 rfl) ?_
  refine lv_bipush (v := nI 7) E.1 E.2.1 dX3_init_27 (by decide) ?_
  refine nwQ E hw mw_1_13 hAO (k := 7) (by decide) ⟨Nat.le_of_ble_eq_true rfl, Nat.le_of_ble_eq_true rfl⟩ dX3_init_29 (fun h H hw => ?_)
  replace hw : HB G A s.heap (((([(a, .inr (3, [.ref q0, .ref q1, .null, .int 0, .int 0, .null, .int 0, .null, .int 0, .null]))] ++ sN G (acons q0 u0) N00) ++ sN G (acons q1 u1) N00) ++ [(h, .inl (G.2 3, 7, .inr (.inr (.inr (.inr (fun _ => none))))))])) H _ := hw
  refine va_putF (T := TX3) (N := 10) (C := RX3) (ci := 3) (ty := .array (.object "ClerkVotes$State")) E.1 E.2.1 E.2.2.2.2.1 inlX3 tyX3 tyX3_ok nmX3 E.2.2.2.1 E.2.2.2.2.2.1 hw.1 hw.2.1 hw.2.2.1 0 rfl rfl 2 (by decide) (E.2.2.2.2.1 _ mw_1_18) (fun _ h => h) rfl hin rfl (by decide +kernel) rfl rfl (Nat.le_of_ble_eq_true rfl) dX3_init_32 (fun H locs hP hD hS => ?_)
  replace hw : HB G A s.heap (((([(a, .inr (3, [.ref q0, .ref q1, .ref h, .int 0, .int 0, .null, .int 0, .null, .int 0, .null]))] ++ sN G (acons q0 u0) N00) ++ sN G (acons q1 u1) N00) ++ [(h, .inl (G.2 3, 7, .inr (.inr (.inr (.inr (fun _ => none))))))])) H _ := ⟨hP, hD, hS, hw.2.2.2⟩
  refine lv_aload_n E.1 E.2.1 dX3_init_35 rfl (lv_at hl 0 rfl) ?_
  refine lv_iconst (v := nI 2) E.1 E.2.1 dX3_init_36 (by decide) ?_
  refine nwQ E hw mw_1_13 hAO (k := 2) (by decide) ⟨Nat.le_of_ble_eq_true rfl, Nat.le_of_ble_eq_true rfl⟩ dX3_init_37 (fun sl H hw => ?_)
  replace hw : HB G A s.heap ((((([(a, .inr (3, [.ref q0, .ref q1, .ref h, .int 0, .int 0, .null, .int 0, .null, .int 0, .null]))] ++ sN G (acons q0 u0) N00) ++ sN G (acons q1 u1) N00) ++ [(h, .inl (G.2 3, 7, .inr (.inr (.inr (.inr (fun _ => none))))))]) ++ [(sl, .inl (G.2 3, 2, .inr (.inr (.inr (.inr (fun _ => none))))))])) H _ := hw
  refine va_putF (T := TX3) (N := 10) (C := RX3) (ci := 3) (ty := .array (.object "ClerkVotes$State")) E.1 E.2.1 E.2.2.2.2.1 inlX3 tyX3 tyX3_ok nmX3 E.2.2.2.1 E.2.2.2.2.2.1 hw.1 hw.2.1 hw.2.2.1 0 rfl rfl 5 (by decide) (E.2.2.2.2.1 _ mw_1_19) (fun _ h => h) rfl hin rfl (by decide +kernel) rfl rfl (Nat.le_of_ble_eq_true rfl) dX3_init_40 (fun H locs hP hD hS => ?_)
  replace hw : HB G A s.heap ((((([(a, .inr (3, [.ref q0, .ref q1, .ref h, .int 0, .int 0, .ref sl, .int 0, .null, .int 0, .null]))] ++ sN G (acons q0 u0) N00) ++ sN G (acons q1 u1) N00) ++ [(h, .inl (G.2 3, 7, .inr (.inr (.inr (.inr (fun _ => none))))))]) ++ [(sl, .inl (G.2 3, 2, .inr (.inr (.inr (.inr (fun _ => none))))))])) H _ := ⟨hP, hD, hS, hw.2.2.2⟩
  refine lv_aload_n E.1 E.2.1 dX3_init_43 rfl (lv_at hl 0 rfl) ?_
  refine lv_bipush (v := nI 60) E.1 E.2.1 dX3_init_44 (by decide) ?_
  refine nwA E hw (t := 1) (ty := .char) rfl (atype := .char) rfl mw_1_20 (k := 60) (a0 := (60, .inl (fun _ => 0))) (fun _ => rfl) (by decide) ⟨Nat.le_of_ble_eq_true rfl, Nat.le_of_ble_eq_true rfl⟩ dX3_init_46 (fun pa H hw => ?_)
  replace hw : HB G A s.heap (((((([(a, .inr (3, [.ref q0, .ref q1, .ref h, .int 0, .int 0, .ref sl, .int 0, .null, .int 0, .null]))] ++ sN G (acons q0 u0) N00) ++ sN G (acons q1 u1) N00) ++ [(h, .inl (G.2 3, 7, .inr (.inr (.inr (.inr (fun _ => none))))))]) ++ [(sl, .inl (G.2 3, 2, .inr (.inr (.inr (.inr (fun _ => none))))))]) ++ [(pa, .inl (G.2 1, 60, .inl (fun _ => 0)))])) H _ := hw
  refine va_putF (T := TX3) (N := 10) (C := RX3) (ci := 3) (ty := .array .char) E.1 E.2.1 E.2.2.2.2.1 inlX3 tyX3 tyX3_ok nmX3 E.2.2.2.1 E.2.2.2.2.2.1 hw.1 hw.2.1 hw.2.2.1 0 rfl rfl 7 (by decide) (E.2.2.2.2.1 _ mw_1_21) (fun _ h => h) rfl hin rfl (by decide +kernel) rfl rfl (Nat.le_of_ble_eq_true rfl) dX3_init_48 (fun H locs hP hD hS => ?_)
  replace hw : HB G A s.heap (((((([(a, .inr (3, [.ref q0, .ref q1, .ref h, .int 0, .int 0, .ref sl, .int 0, .ref pa, .int 0, .null]))] ++ sN G (acons q0 u0) N00) ++ sN G (acons q1 u1) N00) ++ [(h, .inl (G.2 3, 7, .inr (.inr (.inr (.inr (fun _ => none))))))]) ++ [(sl, .inl (G.2 3, 2, .inr (.inr (.inr (.inr (fun _ => none))))))]) ++ [(pa, .inl (G.2 1, 60, .inl (fun _ => 0)))])) H _ := ⟨hP, hD, hS, hw.2.2.2⟩
  refine lv_aload_n E.1 E.2.1 dX3_init_51 rfl (lv_at hl 0 rfl) ?_
  refine nwO E hw (T := TX0) (N := 4) (ci := 0) (fs := [.int 0, .int 0, .int 0, .int 0]) inlX0 tyX0 tyX0_ok mw_1_22 mw_1_23 mw_2_0 rfl (fun j hj => by rcases (show j = 0 ∨ j = 1 ∨ j = 2 ∨ j = 3 by omega) with rfl | rfl | rfl | rfl <;> rfl) ⟨Nat.le_of_ble_eq_true rfl, Nat.le_of_ble_eq_true rfl⟩ dX3_init_52 (fun rd H hw => ?_)
  refine lv_dup E.1 E.2.1 dX3_init_55 rfl ?_
  refine callCN E (c_X0_init l G rd) ES.eb (fun _ _ _ => trivial) E.2.2.2.2.2.2.2.2.2 YX0_init (rr := ((((([(a, .inr (3, [.ref q0, .ref q1, .ref h, .int 0, .int 0, .ref sl, .int 0, .ref pa, .int 0, .null]))] ++ sN G (acons q0 u0) N00) ++ sN G (acons q1 u1) N00) ++ [(h, .inl (G.2 3, 7, .inr (.inr (.inr (.inr (fun _ => none))))))]) ++ [(sl, .inl (G.2 3, 2, .inr (.inr (.inr (.inr (fun _ => none))))))]) ++ [(pa, .inl (G.2 1, 60, .inl (fun _ => 0)))])) ⟨Nat.le_of_ble_eq_true rfl, Nat.le_of_ble_eq_true rfl⟩ ⟨Nat.le_of_ble_eq_true rfl, Nat.le_of_ble_eq_true rfl⟩ hw hl (Nat.le_of_ble_eq_true rfl) dX3_init_56 (fun ud H locs hw => ?_)
  replace hw : HB G A s.heap ((((((([(a, .inr (3, [.ref q0, .ref q1, .ref h, .int 0, .int 0, .ref sl, .int 0, .ref pa, .int 0, .null]))] ++ sN G (acons q0 u0) N00) ++ sN G (acons q1 u1) N00) ++ [(h, .inl (G.2 3, 7, .inr (.inr (.inr (.inr (fun _ => none))))))]) ++ [(sl, .inl (G.2 3, 2, .inr (.inr (.inr (.inr (fun _ => none))))))]) ++ [(pa, .inl (G.2 1, 60, .inl (fun _ => 0)))]) ++ [(rd, .inr (0, [.int 0, .int 0, .int 0, .int 0]))])) H _ := hw
  refine va_putF (T := TX3) (N := 10) (C := RX3) (ci := 3) (ty := .object "ClerkVotes$OrderReader") E.1 E.2.1 E.2.2.2.2.1 inlX3 tyX3 tyX3_ok nmX3 E.2.2.2.1 E.2.2.2.2.2.1 hw.1 hw.2.1 hw.2.2.1 0 rfl rfl 9 (by decide) (E.2.2.2.2.1 _ mw_2_1) (fun _ h => h) rfl hin rfl (by decide +kernel) rfl rfl (Nat.le_of_ble_eq_true rfl) dX3_init_59 (fun H locs hP hD hS => ?_)
  replace hw : HB G A s.heap ((((((([(a, .inr (3, [.ref q0, .ref q1, .ref h, .int 0, .int 0, .ref sl, .int 0, .ref pa, .int 0, .ref rd]))] ++ sN G (acons q0 u0) N00) ++ sN G (acons q1 u1) N00) ++ [(h, .inl (G.2 3, 7, .inr (.inr (.inr (.inr (fun _ => none))))))]) ++ [(sl, .inl (G.2 3, 2, .inr (.inr (.inr (.inr (fun _ => none))))))]) ++ [(pa, .inl (G.2 1, 60, .inl (fun _ => 0)))]) ++ [(rd, .inr (0, [.int 0, .int 0, .int 0, .int 0]))])) H _ := ⟨hP, hD, hS, hw.2.2.2⟩
  refine lv_iconst (v := nI 0) E.1 E.2.1 dX3_init_62 (by decide) ?_
  refine lv_istore_n (lv' := [(1, .int (nI 0)), (0, .ref a)]) E.1 E.2.1 dX3_init_63 rfl hl (by decide) rfl (fun ls hl => ?_)
  refine W.widen (k := 32 + 14 * 0) (n := 843 + 385 * 0) (Nat.le_of_ble_eq_true rfl) (Nat.le_of_ble_eq_true rfl) ?_
  replace hw := hw.perm (perm7 _ _ _ _ _ _ _)
  replace hw : HB G A s.heap (cI G (acons a (fun k => ([h, sl, pa, rd] : List Nat).getD k 0)) (fun t => ([acons q0 u0, acons q1 u1] : List (Nat → Nat)).getD t (fun _ => 0)) (fun _ => none) (fun _ => none) ++ cZ G (fun t => ([acons q0 u0, acons q1 u1] : List (Nat → Nat)).getD t (fun _ => 0)) 2) H _ := hw
  generalize hb0 : acons a (fun k => ([h, sl, pa, rd] : List Nat).getD k 0) = b at hw
  generalize (fun t => ([acons q0 u0, acons q1 u1] : List (Nat → Nat)).getD t (fun _ => 0)) = ad at hw
  replace hw : HB G A s.heap (cJ G b ad (2 + 0)) H _ := hw.eq (by unfold cJ; rw [show hfT ad (2 + 0) = fun _ => none from funext fun k => if_neg (by omega), show sfT ad (2 + 0) = fun _ => none from funext fun k => if_neg (by omega)])
  have hba : b 0 = a := by rw [← hb0]; rfl
  rw [← hba] at hl
  have hR : 3 ≤ (3 : Nat) ∧ 60 ≤ (60 : Nat) ∧ 158 ≤ (158 : Nat) ∧ 4308 ≤ (4308 : Nat) := by decide
  refine X3_loopH E hR (fun ad H locs ls hw hl => ?_) 7 0 rfl ad H _ ls hw hl
  refine lv_iconst (v := nI 0) E.1 E.2.1 dX3_init_92 (by decide) ?_
  refine lv_istore_n (lv' := [(1, .int (nI 0)), (0, .ref (b 0))]) E.1 E.2.1 dX3_init_93 rfl hl (by decide) rfl (fun ls hl => ?_)
  refine X3_loopS E hR (fun ad H locs ls hw hl => ?_) 2 0 rfl ad H _ ls hw hl
  have hw2 := cJ_end hw
  rw [← hb0] at hw2
  exact rC E hr hlk (w' := fun (u : (Nat → Nat) × (Nat → Nat → Nat)) => cW G (acons a u.1) u.2 (fun _ => 0) (fun _ => 0) (rvO (0, 0, 0, 0)) (fun _ => N00)) (fun k => ([h, sl, pa, rd] : List Nat).getD k 0, ad) hw2 dX3_init_122

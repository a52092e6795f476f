theorem Inv.us {N : NS} (h : Inv N) {k v : Nat} (hk : k < 4) (h3 : k = 3 → v ≤ 1) (hn : ¬ k = 3 → 1 ≤ v ∧ v ≤ 50) : Inv (un N k v) := by
  refine h.front ?_ (by rw [un_n (by omega)]; exact Nat.le_refl _) (by rw [un_n (by omega)]) (fun i hi => un_n (by omega)) (fun d k hd hk => un_n (by omega))
  obtain ⟨h1, h2, g3, h4, h5, h6⟩ := h.1
  refine ⟨?_, ?_, fun i hi => ?_, ?_, fun i hi hi2 => ?_, fun d k hd hk k2 k3 => ?_⟩
  · rw [un_n (by omega)]; exact h1
  · rw [un_n (by omega)]; exact h2
  · unfold un
    by_cases q : i = k
    · rw [if_pos q]; exact hn (by omega)
    · rw [if_neg q]; exact g3 i hi
  · unfold un
    by_cases q : 3 = k
    · rw [if_pos q]; exact h3 q.symm
    · rw [if_neg q]; exact h4
  · rw [un_n (by omega)]; exact h5 i hi hi2
  · rw [un_n (by omega)]; exact h6 d k hd hk k2 k3

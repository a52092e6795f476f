theorem zb_c {P Q : Prop} [Decidable P] [Decidable Q] (h : P ↔ Q) : zb P = zb Q := by
  by_cases p : P
  · rw [zb_t p, zb_t (h.mp p)]
  · rw [zb_f p, zb_f (fun q => p (h.mpr q))]

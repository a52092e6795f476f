abbrev AS : Type := Nat × Nat × Int32 × Nat
def rvO (s : AS) : Nat → Int32 := fun k => match k with
  | 0 => nI s.1
  | 1 => nI s.2.1
  | 2 => s.2.2.1
  | _ => nI s.2.2.2

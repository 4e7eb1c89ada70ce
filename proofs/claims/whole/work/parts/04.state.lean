/-! the state: heapCount, entryCount, kinds, orders, absorbed, floors, keys, values, owners -/
abbrev xS : Type := Nat × Nat × (Nat → Int32) × (Nat → Int32) × (Nat → Int32) × (Nat → Int64) × (Nat → Int64) × (Nat → Int32) × (Nat → Int32)
abbrev xm (u : xS) : Nat := u.1
abbrev xn (u : xS) : Nat := u.2.1
abbrev xkd (u : xS) : Nat → Int32 := u.2.2.1
abbrev xod (u : xS) : Nat → Int32 := u.2.2.2.1
abbrev xab (u : xS) : Nat → Int32 := u.2.2.2.2.1
abbrev xfl (u : xS) : Nat → Int64 := u.2.2.2.2.2.1
abbrev xky (u : xS) : Nat → Int64 := u.2.2.2.2.2.2.1
abbrev xvl (u : xS) : Nat → Int32 := u.2.2.2.2.2.2.2.1
abbrev xow (u : xS) : Nat → Int32 := u.2.2.2.2.2.2.2.2
abbrev sM (u : xS) (v : Nat) : xS := (v, xn u, xkd u, xod u, xab u, xfl u, xky u, xvl u, xow u)
abbrev sN (u : xS) (v : Nat) : xS := (xm u, v, xkd u, xod u, xab u, xfl u, xky u, xvl u, xow u)
abbrev sKd (u : xS) (v : Nat → Int32) : xS := (xm u, xn u, v, xod u, xab u, xfl u, xky u, xvl u, xow u)
abbrev sOd (u : xS) (v : Nat → Int32) : xS := (xm u, xn u, xkd u, v, xab u, xfl u, xky u, xvl u, xow u)
abbrev sAb (u : xS) (v : Nat → Int32) : xS := (xm u, xn u, xkd u, xod u, v, xfl u, xky u, xvl u, xow u)
abbrev sFl (u : xS) (v : Nat → Int64) : xS := (xm u, xn u, xkd u, xod u, xab u, v, xky u, xvl u, xow u)
abbrev sKy (u : xS) (v : Nat → Int64) : xS := (xm u, xn u, xkd u, xod u, xab u, xfl u, v, xvl u, xow u)
abbrev sVl (u : xS) (v : Nat → Int32) : xS := (xm u, xn u, xkd u, xod u, xab u, xfl u, xky u, v, xow u)
abbrev sOw (u : xS) (v : Nat → Int32) : xS := (xm u, xn u, xkd u, xod u, xab u, xfl u, xky u, xvl u, v)
abbrev xW (G : Nat → Nat) (C : Nat → ClassId) (u : xS) : va_W :=
  [(G 0, .inr (0, [.ref (G 1), .ref (G 2), .ref (G 3), .ref (G 4), .int (nI (xm u)), .ref (G 5), .ref (G 6), .ref (G 7), .int (nI (xn u))])),
   (G 1, .inl (C 1, 12, .inl (xkd u))), (G 2, .inl (C 2, 12, .inl (xod u))), (G 3, .inl (C 3, 12, .inl (xab u))), (G 4, .inl (C 4, 12, .inr (.inl (xfl u)))),
   (G 5, .inl (C 5, 160, .inr (.inl (xky u)))), (G 6, .inl (C 6, 160, .inl (xvl u))), (G 7, .inl (C 7, 160, .inl (xow u)))]
abbrev xT (C : Nat → ClassId) : List (ClassId × FieldType) := [(C 1, .int), (C 2, .int), (C 3, .boolean), (C 4, .long), (C 5, .long), (C 6, .int), (C 7, .int)]

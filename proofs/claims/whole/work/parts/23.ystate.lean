/-! the reference's world, over the same kind of state -/
abbrev yW (G : Nat → Nat) (C : Nat → ClassId) (u : xS) : va_W :=
  [(G 0, .inr (1, [.int (nI (xm u)), .ref (G 1), .ref (G 2), .ref (G 3), .ref (G 4), .int (nI (xn u)), .ref (G 5), .ref (G 6), .ref (G 7)])),
   (G 1, .inl (C 1, 12, .inl (xkd u))), (G 2, .inl (C 2, 12, .inl (xod u))), (G 3, .inl (C 3, 12, .inl (xab u))), (G 4, .inl (C 4, 12, .inr (.inl (xfl u)))),
   (G 5, .inl (C 5, 160, .inr (.inl (xky u)))), (G 6, .inl (C 6, 160, .inl (xvl u))), (G 7, .inl (C 7, 160, .inl (xow u)))]
abbrev yT (C : Nat → ClassId) : List (ClassId × FieldType) := [(C 1, .int), (C 2, .int), (C 3, .boolean), (C 4, .long), (C 5, .long), (C 6, .int), (C 7, .int)]

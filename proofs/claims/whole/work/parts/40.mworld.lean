abbrev jlshr (x : Int64) (y : Int32) : Int64 := x >>> (y.toInt64 &&& 63)
/-- THE REFERENCE'S WORLD: one object, eleven arrays -/
abbrev MWl (ga : Nat → Nat) (gk : Nat → ClassId) (th : Int32) (L : Nat) (N : Nat) (mm : Nat → Int64) (f1 : Int32) (mr : Nat → Int32) (mh : Nat → Int32) (f8 : Int32) (en : Nat) (us : Nat) (eC : Nat → Int32) (eL : Nat → Int32) (eB : Nat → Int32) (eF : Nat → Int32) (eR : Nat → Int32) (eU : Nat → Int32) (eX : Nat → Int32) (f2 : Int32) (f3 : Int32) (f4 : Int32) (f5 : Int32) (f6 : Int32) (f7 : Int32) (f14 : Int32) (ff : Int32) (fa : Int32) (mn : Nat) (lg : Int32) (cm : Int32) (wa : Nat → Int32) : va_W :=
  [(ga 0, .inr (5, [.int th, .int (nI L), .int (nI N), .ref (ga 1), .int f1, .ref (ga 2), .ref (ga 3), .int f8, .int (nI en), .int (nI us), .ref (ga 4), .ref (ga 5), .ref (ga 6), .ref (ga 7), .ref (ga 8), .ref (ga 9), .ref (ga 10), .int f2, .int f3, .int f4, .int f5, .int f6, .int f7, .int f14, .int ff, .int fa, .int (nI mn), .int lg, .int cm, .ref (ga 11)])),
   (ga 1, .inl (gk 0, 4096, .inr (.inl mm))),
   (ga 2, .inl (gk 1, 4, .inl mr)),
   (ga 3, .inl (gk 2, 256, .inl mh)),
   (ga 4, .inl (gk 3, 32, .inl eC)),
   (ga 5, .inl (gk 4, 32, .inl eL)),
   (ga 6, .inl (gk 5, 32, .inl eB)),
   (ga 7, .inl (gk 6, 32, .inl eF)),
   (ga 8, .inl (gk 7, 32, .inl eR)),
   (ga 9, .inl (gk 8, 32, .inl eU)),
   (ga 10, .inl (gk 9, 32, .inl eX)),
   (ga 11, .inl (gk 10, 4, .inl wa))]

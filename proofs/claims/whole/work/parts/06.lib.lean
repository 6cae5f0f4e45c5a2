/-! rows of our own: Java's shifts, contracts' beginnings, calls of methods that only read -/
abbrev jushr (x y : Int32) : Int32 := (x.toUInt32 >>> (y.toUInt32 &&& Int32.toUInt32 31)).toInt32
abbrev jlushr (x : Int64) (y : Int32) : Int64 := (x.toUInt64 >>> (y.toInt64.toUInt64 &&& Int64.toUInt64 63)).toInt64
abbrev jlshl (x : Int64) (y : Int32) : Int64 := x <<< (y.toInt64 &&& 63)
/-- a contract begins: the facts of the body, and the locals -/
theorem cx_of {l : Launch} {y : MethodName} {ws ws' : List Cond} {rm : Room} {cc : ByteArray} {maxL : Nat} {ret : Option FieldType} {argv : List Value} {B : State → Prop} {Qc : Array Value → State → Outcome → State → Prop} {mc ms : Nat} {free : Addr → Prop}
    (hy : plainName y.cls = true) (hw : ws = Cond.code y cc maxL ret :: ws') (hlen : (lg_sl argv).length ≤ maxL)
    (body : ∀ (p : Program) (e : Env) (s : State) (m : MethodId) (below : List Frame) (meth : Method) (c : Code) (ls : Array Slot), p.tables.exec = Jvm.exec → c.code = cc → meth.sig.returnType = ret → (∀ w ∈ ws, w.before argv.toArray s = true) → s.vm.findClass y.cls = some m.cls → meth.locks = false → c.maxLocals = maxL → meth.name = y.name → lv_has ls maxL (lv_args 0 argv) → B s →
      W p l e rm s m argv.toArray below meth c s.heap [] 0 0 (MQ below Qc argv.toArray s mc ms free) (F0 m 0 ls [])) : Met l y ws rm (va_Pc argv B) Qc mc ms free := by
  refine Met.ofW (cc := cc) (maxL := maxL) (ret := ret) hy hw ?_
  intro p e s m args below meth c s₁ Bd hml hv
  obtain ⟨rfl, hB⟩ := hv
  have hl := lv_entry argv (n := maxL) hlen
  rw [lg_entry_eq]
  exact body p e s m below meth c _ Bd.exec Bd.bytes Bd.returns (atoms_spec (ws := ws) Bd.pre) (findClass_of_methodNamed Bd.named) Bd.notSynchronized hml (name_of_methodNamed Bd.named Bd.method).1 hl hB
section CXC
variable {p : Program} {l : Launch} {e : Env} {R : Room} {s : State} {m : MethodId} {args : Array Value} {below : List Frame} {meth : Method} {c : Code} {H : Heap} {locs : List Loc} {cells slots : Nat} {Q : State → Prop} {pc : Nat} {ls : Array Slot} {rest st0 : List Value} {a : Array Value}
theorem cx_callSi {post : Int32 → Prop} (hr : va_Run p l e R s m args below meth c H locs cells slots 0 0 (F0 m pc ls st0) rest (vp_Si post a) (fun _ => False))
    (kk : ∀ r : Int32, post r → W p l e R s m args below meth c H locs cells slots Q (F0 m (pc + 3) ls (.int r :: rest))) : W p l e R s m args below meth c H locs cells slots Q (F0 m pc ls st0) := by
  intro T hT X
  obtain ⟨v, st₀, t, T', L, h0, X', hL, e1, -, ⟨r, hv, hp, hh⟩, st⟩ := hr T hT X
  cases hv
  obtain ⟨t2, a1, b1⟩ := kk r hp T' (by rw [e1, hh, h0]) (Stand.forget X' (fun q h => (hL q h).elim))
  exact ⟨t2, st t2 a1, b1⟩
theorem cx_callSl {post : Int64 → Prop} (hr : va_Run p l e R s m args below meth c H locs cells slots 0 0 (F0 m pc ls st0) rest (vp_Sl post a) (fun _ => False))
    (kk : ∀ r : Int64, post r → W p l e R s m args below meth c H locs cells slots Q (F0 m (pc + 3) ls (.long r :: rest))) : W p l e R s m args below meth c H locs cells slots Q (F0 m pc ls st0) := by
  intro T hT X
  obtain ⟨v, st₀, t, T', L, h0, X', hL, e1, -, ⟨r, hv, hp, hh⟩, st⟩ := hr T hT X
  cases hv
  obtain ⟨t2, a1, b1⟩ := kk r hp T' (by rw [e1, hh, h0]) (Stand.forget X' (fun q h => (hL q h).elim))
  exact ⟨t2, st t2 a1, b1⟩
end CXC
/-- a contract without a world: what it wants of the start is nothing -/
theorem cx_pre0 {s : State} {H : Heap} {As : List Value} : PreS s H (va_Pc As (fun _ => True)) As := ⟨fun _ _ _ _ q => q, fun _ _ _ => ⟨rfl, trivial⟩⟩
/-! indices -/
theorem cx_in {x M : Int32} {n : Nat} (h0 : ¬ x < 0) (h1 : ¬ M ≤ x) (hM : M = nI n) (hn : n < 2 ^ 31 := by decide) : vp_in x n := by
  rcases pk_ix x hn with h | h | ⟨j, hj, rfl⟩
  · exact absurd h h0
  · exact absurd (by rw [hM]; exact h) h1
  · exact vp_in_nI hj hn
theorem cx_inl {x M : Int32} {n : Nat} (h0 : ¬ x < 0) (h1 : x < M) (hM : M = nI n) (hn : n < 2 ^ 31 := by decide) : vp_in x n :=
  cx_in h0 (fun h => absurd (Int32.lt_of_lt_of_le h1 h) Int32.lt_irrefl) hM hn
theorem cx_wordin {h i : Int32} (h0 : ¬ h < 0) (h1 : h < (256 : Int32)) : vp_in ((h * (16 : Int32)) + (i &&& (15 : Int32))) 4096 := by
  obtain ⟨j, hj, rfl⟩ := vp_in_of (cx_inl (n := 256) h0 h1 rfl) (by decide)
  obtain ⟨r, hr, er⟩ := pk_andE i (m := (15 : Int32)) 4 (by decide)
  rw [er, show (16 : Int32) = nI 16 from rfl, pk_mul, nI_add]
  exact vp_in_nI (by omega) (by decide)
theorem cx_swout {x : Int32} (n : Nat) (hn : n < 2 ^ 31) (h : ∀ j : Nat, j ≤ n → ¬ x = nI j) : x.toInt < 0 ∨ (n : Int) < x.toInt := by
  rcases (show x.toInt < 0 ∨ 0 ≤ x.toInt by omega) with h1 | h1
  · exact Or.inl h1
  rcases (show (n : Int) < x.toInt ∨ x.toInt ≤ (n : Int) by omega) with h2 | h2
  · exact Or.inr h2
  exfalso
  have h3 : ¬ x < 0 := fun q => by
    have := Int32.lt_iff_toInt_lt.mp q
    have z : (0 : Int32).toInt = 0 := by decide
    omega
  obtain ⟨j, hj, rfl⟩ := nI_of h3
  rw [nI_toInt hj] at h2
  exact h j (by omega) rfl
theorem cx_free {A : Nat → Prop} {ws : va_W} {H0 H : Heap} {locs : List Loc} (hD : va_D A ws) (hS : va_S A H0 H locs) (hA : ∀ q, H0.size ≤ q → A q) : ∀ q, va_A ws H.size q → A q := by
  intro q h
  rcases h with ⟨k, e, hk⟩ | h
  · exact hD.2 k _ hk
  · exact hA q (Nat.le_trans hS.1 h)
theorem cx_inc {z : Int} (i k : Nat) (h : Int32.ofInt z = nI k) : nI i + Int32.ofInt z = nI (i + k) := by rw [h]; exact nI_add i k
theorem cx_dec {z : Int} (i : Nat) (h : Int32.ofInt z = -1) : nI (i + 1) + Int32.ofInt z = nI i := by rw [h]; exact pk_m1 i
theorem cx_in0 {N : Nat} (h : 0 < N) : vp_in (0 : Int32) N := by
  rw [vp_in_iff]
  have z : (0 : Int32).toInt = 0 := by decide
  omega
theorem cx_fitZ {x : Int32} (h : narrow .boolean (.int x) = .int x) : fits .boolean (.int x) = true := by
  have h1 : x &&& 1 = x := by
    have := h
    simp only [narrow] at this
    exact Value.int.inj this
  simp only [fits]
  rw [← h1]
  obtain ⟨j, hj, e⟩ := pk_andE x (m := (1 : Int32)) 1 (by decide)
  rw [e]
  rcases (show j = 0 ∨ j = 1 by omega) with rfl | rfl <;> decide

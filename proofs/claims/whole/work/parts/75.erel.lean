/-! the class's entries and the reference's: one list -/
def EF (a : Ent) : Prop := ∃ g b F R : Nat, g ≤ 3 ∧ a.2.1 = nI g ∧ b * 2 ^ (8 + 4 * g) < 2 ^ 24 ∧ a.2.2.1 = nI b ∧ F < 2 ^ 20 ∧ a.2.2.2.1 = nI F ∧ R < 16 ∧ a.2.2.2.2.1 = nI R ∧ (a.2.2.2.2.2 = 0 ∨ a.2.2.2.2.2 = 1)
def sameKey (a b : Ent) : Prop := a.1 = b.1 ∧ a.2.1 = b.2.1 ∧ a.2.2.1 = b.2.2.1
def KU (es : List Ent) : Prop := es.Pairwise (fun a b => ¬ sameKey a b)
def EREL (N n : Nat) (LP : List Nat) (rs : Nat → Option Nat) (E : Nat → Nat → Int32) (us : Nat) (x : EST) : Prop := ROK N LP rs ∧ n ≤ N ∧ KU (lsC n rs E) ∧ (∀ a ∈ lsC n rs E, EF a) ∧ ∃ so, SO so x us ∧ lsC n rs E = so.map Prod.snd
theorem pow_s : ∀ g : Nat, g ≤ 3 → 2 ^ 8 ≤ 2 ^ (8 + 4 * g) ∧ 2 ^ (8 + 4 * g) ≤ 2 ^ 20 := by decide
theorem fit_eq {a : Ent} (h : EF a) (c p : Int32) : fitC c p a = fitM c p a := by
  obtain ⟨g, b, F, R, hg, e1, hb, e2, -⟩ := h
  unfold fitC fitM
  rw [e1, e2]
  unfold mX4_bitsBelow
  rw [bb g (by omega), bs g (by omega), jushrN p (by omega)]
  congr 1
  have hs := pow_s g hg
  have hlt := p.toBitVec.isLt
  have hb2 : b < 2 ^ 24 := Nat.lt_of_le_of_lt (Nat.le_mul_of_pos_right b (Nat.two_pow_pos _)) hb
  by_cases h0 : p < 0
  · have hn := neg_bits h0
    have hsn := sar_neg h0 (s := 8 + 4 * g) (by omega)
    rw [decide_eq_false, decide_eq_false]
    · intro e
      rw [e] at hsn
      exact nI_pos (by omega) hsn
    · intro e
      have hv : p.toBitVec.toNat / 2 ^ (8 + 4 * g) < 2 ^ 31 := by
        have : p.toBitVec.toNat / 2 ^ (8 + 4 * g) ≤ p.toBitVec.toNat / 2 ^ 8 := Nat.div_le_div_left hs.1 (by decide)
        omega
      have e3 := (nI_eq (by omega) hv).mp e
      have e4 := Nat.div_add_mod p.toBitVec.toNat (2 ^ (8 + 4 * g))
      have e5 := Nat.mod_lt p.toBitVec.toNat (Nat.two_pow_pos (8 + 4 * g))
      rw [← e3, Nat.mul_comm] at e4
      omega
  · obtain ⟨P, hP, rfl⟩ := nI_ofP h0
    rw [sarN hP (by omega), bN P (by omega)]
    exact decide_eq_decide.mpr ⟨fun h => h.symm, fun h => h.symm⟩
theorem erase_map {α β : Type} (f : α → β) : ∀ (l : List α) (k : Nat), (l.map f).eraseIdx k = (l.eraseIdx k).map f
  | [], _ => rfl
  | a :: l, 0 => rfl
  | a :: l, k + 1 => by
    rw [List.map_cons, List.eraseIdx_cons_succ, List.eraseIdx_cons_succ, List.map_cons, erase_map f l k]
section REL
variable {N n us : Nat} {LP : List Nat} {rs : Nat → Option Nat} {E : Nat → Nat → Int32} {x : EST} {so : List (Int32 × Ent)} {c p : Int32}
theorem rel_get (hes : lsC n rs E = so.map Prod.snd) {i : Nat} (hi : i < n) : ∃ a, so[i]? = some a ∧ a.2 = entE E (rowA rs i) := by
  have h := lsC_get (rs := rs) (E := E) hi
  rw [hes, List.getElem?_map] at h
  cases hs : so[i]? with
  | none => rw [hs] at h; cases h
  | some a =>
    rw [hs] at h
    exact ⟨a, rfl, Option.some.inj h⟩
theorem rel_len (hS : SO so x us) (hes : lsC n rs E = so.map Prod.snd) : x.1 = n := by
  have h := congrArg List.length hes
  rw [lsC_len, List.length_map, hS.len] at h
  exact h.symm
theorem rel_ef (hes : lsC n rs E = so.map Prod.snd) (hF : ∀ a ∈ lsC n rs E, EF a) {a : Int32 × Ent} (ha : a ∈ so) : EF a.2 := hF _ (by rw [hes]; exact List.mem_map_of_mem ha)
theorem find_rel (hS : SO so x us) (hes : lsC n rs E = so.map Prod.snd) (hF : ∀ a ∈ lsC n rs E, EF a) :
    (mFind rs E c p n 0 = none ∧ mEF c x.2.1 x.2.2.1 x.2.2.2.1 x.2.2.2.2.2.2.1 p n 0 none = none) ∨
    ∃ k e, k < n ∧ e < n ∧ mFind rs E c p n 0 = some k ∧ mEF c x.2.1 x.2.2.1 x.2.2.2.1 x.2.2.2.2.2.2.1 p n 0 none = some e ∧ so[k]? = some (entM x e) ∧ entE E (rowA rs k) = (entM x e).2 := by
  have hxn := rel_len hS hes
  obtain ⟨m1, m2⟩ := mEF_spec (x := x) (c := c) (p := p) n 0 none (fun _ q hq => absurd hq (by omega)) (fun b h => by cases h)
  cases hc : mFind rs E c p n 0 with
  | none =>
    have hno := mFind_none n 0 hc
    cases hm : mEF c x.2.1 x.2.2.1 x.2.2.2.1 x.2.2.2.2.2.2.1 p n 0 none with
    | none => exact Or.inl ⟨rfl, rfl⟩
    | some e =>
      obtain ⟨a1, a2, -⟩ := m2 e hm
      obtain ⟨k, hk, hk2⟩ := hS.idx (e := e) (by omega)
      rw [hS.len, hxn] at hk
      obtain ⟨a, b1, b2⟩ := rel_get hes hk
      rw [hk2] at b1
      cases b1
      have h9 := hno k (by omega) (by omega)
      rw [← b2, fit_eq (rel_ef hes hF (List.mem_of_getElem? hk2)), a2] at h9
      cases h9
  | some k =>
    obtain ⟨-, k2, k3, k4⟩ := mFind_some n 0 k hc
    obtain ⟨a, b1, b2⟩ := rel_get hes (i := k) (by omega)
    have hfa : fitM c p a.2 = true := by
      rw [← fit_eq (rel_ef hes hF (List.mem_of_getElem? b1)), b2]
      exact k3
    obtain ⟨e9, h9, h10⟩ := hS.inv b1
    cases hm : mEF c x.2.1 x.2.2.1 x.2.2.2.1 x.2.2.2.2.2.2.1 p n 0 none with
    | none =>
      have := m1 hm e9 (by omega)
      rw [h10, hfa] at this
      cases this
    | some e =>
      obtain ⟨a1, a2, a3⟩ := m2 e hm
      obtain ⟨j, hj, hj2⟩ := hS.idx (e := e) (by omega)
      rw [hS.len, hxn] at hj
      have hle := a3 e9 (by omega) (by rw [h10]; exact hfa)
      rw [h10] at hle
      have hjk : j = k := by
        rcases Nat.lt_trichotomy j k with q | q | q
        · obtain ⟨a', c1, c2⟩ := rel_get hes (i := j) (by omega)
          rw [hj2] at c1
          cases c1
          have h11 := k4 j (by omega) q
          rw [← c2, fit_eq (rel_ef hes hF (List.mem_of_getElem? hj2)), a2] at h11
          cases h11
        · exact q
        · exact (Int32.lt_irrefl (Int32.lt_of_le_of_lt hle (hS.lt q b1 hj2))).elim
      subst hjk
      rw [hj2] at b1
      cases b1
      exact Or.inr ⟨j, e, by omega, by omega, rfl, rfl, hj2, b2.symm⟩
/-- an entry is used: both lists have it first -/
theorem use_rel (hR : ROK N LP rs) (hn : n ≤ N) (hU : KU (lsC n rs E)) (hF : ∀ a ∈ lsC n rs E, EF a) (hS : SO so x us) (hes : lsC n rs E = so.map Prod.snd) (hu : us + 1 < 2 ^ 31) {k e : Nat} (hk : k < n) (he : e < n) (hke : so[k]? = some (entM x e)) : EREL N n LP (useRs rs k) E (us + 1) (useM x e (us + 1)) := by
  have hxn := rel_len hS hes
  obtain ⟨a, b1, b2⟩ := rel_get hes hk
  rw [hke] at b1
  cases b1
  have e1 : lsC n (useRs rs k) E = (entM x e).2 :: (lsC n rs E).eraseIdx k := by rw [lsC_use hk, b2]
  have hp : (lsC n (useRs rs k) E).Perm (lsC n rs E) := by
    rw [e1, b2]
    exact erase_perm (lsC_get hk)
  refine ⟨ROK_use hR (by omega), hn, ?_, fun a ha => hF a (hp.mem_iff.mp ha), _, hS.used hu (by omega) hke, ?_⟩
  · exact (hp.symm.pairwise hU (fun {a b} h h2 => h ⟨h2.1.symm, h2.2.1.symm, h2.2.2.symm⟩))
  · rw [e1, List.map_cons, hes, erase_map]
theorem filter_erase {f : Ent → Bool} : ∀ {es : List Ent} {i : Nat} {a : Ent}, es[i]? = some a → f a = true → (∀ (j : Nat) (b : Ent), es[j]? = some b → f b = true → j = i) → es.filter (fun a => !f a) = es.eraseIdx i
  | [], i, a, h, _, _ => by simp at h
  | b :: l, 0, a, h, ha, hu => by
    rw [List.getElem?_cons_zero] at h
    cases h
    rw [List.filter_cons_of_neg (by rw [ha]; simp), List.eraseIdx_zero, List.tail_cons]
    apply List.filter_eq_self.mpr
    intro z hz
    obtain ⟨j, hj⟩ := List.getElem?_of_mem hz
    cases hf : f z with
    | false => rfl
    | true => exact absurd (hu (j + 1) z (by rw [List.getElem?_cons_succ]; exact hj) hf) (by omega)
  | b :: l, i + 1, a, h, ha, hu => by
    rw [List.getElem?_cons_succ] at h
    have hb : f b = false := by
      cases hf : f b with
      | false => rfl
      | true => exact absurd (hu 0 b (by rw [List.getElem?_cons_zero]) hf) (by omega)
    rw [List.filter_cons_of_pos (by rw [hb]; rfl), List.eraseIdx_cons_succ]
    congr 1
    exact filter_erase h ha (fun j z hj hz => by
      have := hu (j + 1) z (by rw [List.getElem?_cons_succ]; exact hj) hz
      omega)
end REL
def keyM (c g bits : Int32) (a : Ent) : Bool := decide (a.1 = c) && decide (a.2.1 = g) && decide (a.2.2.1 = bits)
theorem key_eq {c p g bits : Int32} (hb : jushr p (mX4_bitsBelow g) = bits) (a : Ent) : keyC c p g a = keyM c g bits a := by
  unfold keyC keyM fitC
  by_cases h : a.2.1 = g
  · rw [h, hb, decide_eq_true rfl, Bool.true_and, Bool.and_true]
  · rw [decide_eq_false h, Bool.false_and, Bool.and_false, Bool.false_and]
theorem keyC_to {c p g : Int32} {a : Ent} (h : keyC c p g a = true) : a.1 = c ∧ a.2.1 = g ∧ a.2.2.1 = jushr p (mX4_bitsBelow g) := by
  unfold keyC fitC at h
  rw [Bool.and_eq_true, Bool.and_eq_true, decide_eq_true_eq, decide_eq_true_eq, decide_eq_true_eq] at h
  exact ⟨h.2.1, h.1, by rw [← h.1]; exact h.2.2⟩
theorem mK1_drop {c g bits : Int32} : ∀ (k : Nat) (x : EST), mK1 c g bits k x = gDrop (fun a => keyM c g bits a.2) k x
  | 0, _ => rfl
  | k + 1, x => by
    unfold mK1 gDrop
    rw [show keyM c g bits (entM x k).2 = (decide (x.2.1 k = c) && decide (x.2.2.1 k = g) && decide (x.2.2.2.1 k = bits)) from rfl, mK1_drop k, mK1_drop k]
    by_cases h1 : x.2.1 k = c <;> by_cases h2 : x.2.2.1 k = g <;> by_cases h3 : x.2.2.2.1 k = bits <;> simp [h1, h2, h3]
def outK (X : EST) (us : Nat) (f14 : Int32) : Nat × Nat × (Nat → Int32) × (Nat → Int32) × (Nat → Int32) × (Nat → Int32) × (Nat → Int32) × (Nat → Int32) × (Nat → Int32) × Int32 := (X.1, us, X.2.1, X.2.2.1, X.2.2.2.1, X.2.2.2.2.1, X.2.2.2.2.2.1, X.2.2.2.2.2.2.1, X.2.2.2.2.2.2.2, f14)
theorem mK3_push {c g p bits : Int32} {lf : Int64} {us : Nat} {f14 : Int32} {X : EST} (hb : jushr p (mX4_bitsBelow g) = bits) : mK3 c g bits lf us f14 X = outK (pushM X (newE c g p lf) (us + 1)) (us + 1) f14 := by
  obtain ⟨en, eC, eL, eB, eF, eR, eU, eX⟩ := X
  unfold mK3 outK pushM newE
  dsimp only
  rw [hb, frame_eq, rights_eq]
theorem so_last {so : List (Int32 × Ent)} {x : EST} {us : Nat} (hS : SO so x us) {o : Nat} (ho : o < x.1) (hmin : ∀ q, q < x.1 → (entM x o).1 ≤ (entM x q).1) : so[x.1 - 1]? = some (entM x o) := by
  obtain ⟨k, hk, hk2⟩ := hS.idx ho
  rw [hS.len] at hk
  by_cases h : k = x.1 - 1
  · rw [← h]
    exact hk2
  · have hl : x.1 - 1 < so.length := by rw [hS.len]; omega
    have hl2 : so[x.1 - 1]? = some so[x.1 - 1] := List.getElem?_eq_getElem hl
    obtain ⟨q, hq, e⟩ := hS.inv hl2
    have h1 := hS.lt (show k < x.1 - 1 by omega) hk2 hl2
    have h2 := hmin q hq
    rw [e] at h2
    exact (Int32.lt_irrefl (Int32.lt_of_le_of_lt h2 h1)).elim

section FLUSH
variable {N n us : Nat} {LP : List Nat} {rs : Nat → Option Nat} {E : Nat → Nat → Int32} {x : EST} {c : Int32}
def goF (w c p : Int32) (a : Ent) : Bool := !(decide ((w = (1 : Int32) ∧ ¬ a.1 = c) ∨ (w = (2 : Int32) ∧ fitM c p a = false)))
theorem mFlL_drop {w p : Int32} : ∀ (k m : Nat) (x : EST), k ≤ x.1 → (mFlL c w p k m x).2 = gDrop (fun a => goF w c p a.2) k x ∧ (mFlL c w p k m x).1 + (gDrop (fun a => goF w c p a.2) k x).1 = m + x.1
  | 0, m, x, _ => ⟨rfl, rfl⟩
  | k + 1, m, x, h => by
    unfold mFlL gDrop
    by_cases hc : (w = (1 : Int32) ∧ ¬ x.2.1 k = c) ∨ (w = (2 : Int32) ∧ mX5_fits c x.2.1 x.2.2.1 x.2.2.2.1 k p = 0)
    · have hc2 : (w = (1 : Int32) ∧ ¬ (entM x k).2.1 = c) ∨ (w = (2 : Int32) ∧ fitM c p (entM x k).2 = false) := hc.imp (fun q => q) (fun q => ⟨q.1, fits_fit.mp q.2⟩)
      rw [if_pos hc, if_neg (show ¬ goF w c p (entM x k).2 = true by unfold goF; rw [decide_eq_true hc2]; decide)]
      exact mFlL_drop k m x (by omega)
    · have hc2 : ¬ ((w = (1 : Int32) ∧ ¬ (entM x k).2.1 = c) ∨ (w = (2 : Int32) ∧ fitM c p (entM x k).2 = false)) := fun q => hc (q.imp (fun q => q) (fun q => ⟨q.1, fits_fit.mpr q.2⟩))
      rw [if_neg hc, if_pos (show goF w c p (entM x k).2 = true by unfold goF; rw [decide_eq_false hc2]; rfl)]
      obtain ⟨h1, h2⟩ := mFlL_drop (w := w) (p := p) k (m + 1) (mDropT x k) (by rw [drop_en]; omega)
      refine ⟨h1, ?_⟩
      rw [drop_en] at h2
      omega
theorem goF_meant {w p : Int32} {a : Ent} (ha : EF a) (hw : w = 0 ∨ w = 1 ∨ w = 2) : meantC w c p a = goF w c p a := by
  unfold meantC goF
  rcases hw with rfl | rfl | rfl
  · rw [if_pos rfl]
    rfl
  · rw [if_neg (by decide), if_pos rfl]
    by_cases h : a.1 = c
    · simp [h]
    · simp [h]
  · rw [if_neg (by decide), if_neg (by decide), fit_eq ha]
    cases fitM c p a <;> rfl
theorem flush_rel (h : EREL N n LP rs E us x) {w p : Int32} (hw : w = 0 ∨ w = 1 ∨ w = 2) :
    EREL N (mForL E w c p n 0 0 rs).1 LP (mForL E w c p n 0 0 rs).2 E us (mFlL c w p n 0 x).2 ∧ (mFlL c w p n 0 x).1 = n - (mForL E w c p n 0 0 rs).1 := by
  obtain ⟨hR, hn, hU, hF, so, hS, hes⟩ := h
  have hxn := rel_len hS hes
  obtain ⟨f1, f2, f3⟩ := for_ls (E := E) (w := w) (c := c) (p := p) n 0 0 rs (Nat.le_refl _) (by omega) hR
  obtain ⟨g1, g2⟩ := mFlL_drop (c := c) (w := w) (p := p) n 0 x (by omega)
  have f4 : lsC (mForL E w c p n 0 0 rs).1 (mForL E w c p n 0 0 rs).2 E = (lsC n rs E).filter (fun a => !meantC w c p a) := by
    rw [f3, show lsC 0 rs E = [] from rfl, List.nil_append]
    unfold lsC
    rw [List.range_eq_range']
  have hS1 := hS.gone (fun a => goF w c p a.2)
  rw [hxn] at hS1
  have hm : (so.filter (fun a => !goF w c p a.2)).map Prod.snd = (lsC n rs E).filter (fun a => !meantC w c p a) := by
    rw [hes, List.filter_map]
    congr 1
    apply List.filter_congr
    intro a ha
    show _ = !meantC w c p a.2
    rw [goF_meant (rel_ef hes hF ha) hw]
  have hE : EREL N (mForL E w c p n 0 0 rs).1 LP (mForL E w c p n 0 0 rs).2 E us (mFlL c w p n 0 x).2 := by
    refine ⟨f1, by omega, ?_, ?_, _, by rw [g1]; exact hS1, by rw [f4, hm]⟩
    · rw [f4]
      exact List.Pairwise.sublist List.filter_sublist hU
    · rw [f4]
      exact fun a ha => hF a (List.mem_filter.mp ha).1
  refine ⟨hE, ?_⟩
  obtain ⟨-, -, -, -, so2, hS2, hes2⟩ := hE
  have := rel_len hS2 hes2
  rw [g1] at this
  omega
end FLUSH
section KEPT
variable {x : EST} {us : Nat} {so : List (Int32 × Ent)}
theorem mLat_count {u : Nat → Int32} {e : Nat} : ∀ (j f m : Nat), mLat u e j f m = m + (List.range' f j).countP (fun q => !decide (u q ≤ u e))
  | 0, f, m => rfl
  | j + 1, f, m => by
    unfold mLat
    rw [mLat_count j, List.range'_succ, List.countP_cons]
    by_cases h : u f ≤ u e
    · rw [if_pos h]
      simp [h]
    · rw [if_neg h]
      simp [h]
      omega
theorem count_sorted : ∀ {l : List (Int32 × Ent)} {k : Nat} {a : Int32 × Ent}, l.Pairwise (fun a b => b.1 < a.1) → l[k]? = some a → l.countP (fun b => !decide (b.1 ≤ a.1)) = k
  | [], k, a, _, h => by simp at h
  | b :: l, 0, a, hp, h => by
    rw [List.getElem?_cons_zero] at h
    cases h
    rw [List.countP_eq_zero]
    intro z hz
    rcases List.mem_cons.mp hz with rfl | hz
    · simp [Int32.le_refl]
    · have := (List.pairwise_cons.mp hp).1 z hz
      simp [Int32.le_of_lt this]
  | b :: l, k + 1, a, hp, h => by
    rw [List.getElem?_cons_succ] at h
    have h1 := (List.pairwise_cons.mp hp).1 a (List.mem_of_getElem? h)
    rw [List.countP_cons, count_sorted (List.pairwise_cons.mp hp).2 h]
    have : ¬ b.1 ≤ a.1 := Int32.not_le.mpr h1
    simp [this]
theorem lat_idx (hS : SO so x us) {e k : Nat} (he : e < x.1) : mLat x.2.2.2.2.2.2.1 e x.1 0 0 = k ↔ so[k]? = some (entM x e) := by
  have hc : mLat x.2.2.2.2.2.2.1 e x.1 0 0 = so.countP (fun b => !decide (b.1 ≤ (entM x e).1)) := by
    rw [mLat_count, hS.1.countP_eq, Nat.zero_add]
    unfold lsM
    rw [List.countP_map, List.range_eq_range']
    rfl
  obtain ⟨k2, -, hk2⟩ := hS.idx he
  rw [hc, count_sorted hS.2.1 hk2]
  constructor
  · rintro rfl
    exact hk2
  · intro h
    exact hS.inj hk2 h rfl
theorem mIno_spec (hS : SO so x us) (hb : x.1 < 2 ^ 31) {k : Nat} (hk : k < x.1) : ∀ (j i : Nat), i + j = x.1 → (∀ q, q < i → ¬ mLat x.2.2.2.2.2.2.1 q x.1 0 0 = k) → ∃ e, mIno x.2.2.2.2.2.2.1 x.1 (nI k) j i = some e ∧ e < x.1 ∧ so[k]? = some (entM x e)
  | 0, i, hi, h => by
    have hl : k < so.length := by rw [hS.len]; exact hk
    obtain ⟨e, he, e2⟩ := hS.inv (List.getElem?_eq_getElem hl)
    exact absurd ((lat_idx hS he).mpr (by rw [e2]; exact List.getElem?_eq_getElem hl)) (h e (by omega))
  | j + 1, i, hi, h => by
    unfold mIno
    obtain ⟨k2, hk2, hk3⟩ := hS.idx (e := i) (by omega)
    have hl := (lat_idx hS (show i < x.1 by omega)).mpr hk3
    rw [hS.len] at hk2
    rw [hl]
    by_cases c : nI k2 = nI k
    · rw [if_pos c]
      have := (nI_eq (by omega) (by omega)).mp c
      subst this
      exact ⟨i, rfl, by omega, hk3⟩
    · rw [if_neg c]
      refine mIno_spec hS hb hk j (i + 1) (by omega) (fun q hq => ?_)
      by_cases e : q = i
      · subst e
        rw [hl]
        intro e9
        exact c (by rw [e9])
      · exact h q (by omega)
end KEPT
section STALE
variable {L : Nat} {f1 f8 : Int32} {wd : Nat → Int64} {ho ro : Nat → Int32}
theorem st_eq (hh : HB ho) (hL1 : 1 ≤ L) (hL4 : L ≤ 4) {F0 : Nat} (hro : ro f1.toNatClampNeg = nI F0) (hF0 : F0 < 2 ^ 20) {a : Ent} (ha : EF a) {E : Nat → Nat → Int32} {y : Nat} (hy : entE E y = a) {eL eB eF eR : Nat → Int32} {e : Nat} (h1 : eL e = a.2.1) (h2 : eB e = a.2.2.1) (h3 : eF e = a.2.2.2.1) (h4 : eR e = a.2.2.2.2.1)
    (f10 : Int32) (lf : Int64) (pa : Nat → Int32) (fa lg cm : Int32) (wa : Nat → Int32) (k : Int32) :
    (mX4_isStale L f1 f8 f10 lf wd ho ro pa E y k).1 = (mX5_isStale L wd f1 ro ho f8 eL eB eF eR fa lg cm wa e k).1 := by
  obtain ⟨g, b, F, R, hg, e1, hb, e2, hF, e3, hR, e4, -⟩ := ha
  have y1 : E 1 y = nI g := (congrArg (fun z : Ent => z.2.1) hy).trans e1
  have y2 : E 2 y = nI b := (congrArg (fun z : Ent => z.2.2.1) hy).trans e2
  have y3 : E 3 y = nI F := (congrArg (fun z : Ent => z.2.2.2.1) hy).trans e3
  have y4 : E 4 y = nI R := (congrArg (fun z : Ent => z.2.2.2.2.1) hy).trans e4
  unfold mX4_isStale mX5_isStale
  rw [h1, h2, h3, h4, e1, e2, e3, e4, y1, y2, y3, y4]
  unfold mX4_bitsBelow
  rw [bb g (by omega), shlN (by omega), allows_does hR]
  have key := fol_wk (L := L) (f8 := f8) (wd := wd) (f10 := f10) (k := k) (f1 := f1) (lg := lg) (cm := cm) (fa := fa) (wa := wa) (pa := pa) (lf := lf) (p := nI (b * 2 ^ (8 + 4 * g))) hh hL1 hL4 hro hF0
  generalize mFol L f8 wd ho f10 lf pa (ro f1.toNatClampNeg) (nI (b * 2 ^ (8 + 4 * g))) k = X at key ⊢
  generalize mWk L wd f1 ro ho f8 fa lg cm wa (nI (b * 2 ^ (8 + 4 * g))) k = Y at key ⊢
  obtain ⟨r, rd, lf', x10, x11, x12, pa'⟩ := X
  obtain ⟨g', ff', fa', mn', lg', cm', wa'⟩ := Y
  obtain ⟨-, -, key⟩ := key
  dsimp only at key ⊢
  have z1 : ¬ (1 : Int32) = 0 := by decide
  have z2 : ¬ (0 : Int32) = 1 := by decide
  by_cases c1 : mX5_does (nI R) k = 0
  · rw [if_pos c1, if_pos c1]
    rcases key with ⟨-, q1, -, -, -, q, hq, q2, q3⟩ | ⟨-, q1, -, -, q2⟩
    · subst q1; subst q2
      rw [if_neg (fun h => nI_nm1 hq h.symm), if_neg z1]
    · subst q1; subst q2
      rw [if_pos rfl, if_pos (show (0 : Int32) = 0 from rfl), if_pos (show (0 : Int32) = 0 from rfl)]
  · rw [if_neg c1, if_neg c1]
    rcases reach_ends (L := L) (f8 := f8) (ff := ff') (fa := fa') (cm := cm') hh hF hg hb with ⟨r1, r2⟩ | ⟨q9, hq9, r1, r2⟩
    · rw [r2, r1]
      dsimp only
      rw [if_pos (show (0 : Int32) = 0 from rfl)]
      rcases key with ⟨-, q1, -, -, -, q, hq, q2, q3⟩ | ⟨-, q1, -, -, q2⟩
      · subst q1; subst q2
        rw [if_neg (fun h => nI_nm1 hq h.symm), if_neg z1]
      · subst q1; subst q2
        rw [if_pos rfl, if_pos (show (0 : Int32) = 0 from rfl), if_pos (show (0 : Int32) = 0 from rfl)]
    · rw [r2, r1]
      dsimp only
      rw [if_neg z1]
      rcases key with ⟨-, q1, -, -, -, q, hq, q2, q3⟩ | ⟨-, q1, -, -, q2⟩
      · subst q1; subst q2; subst q3
        rw [if_pos (show (1 : Int32) = 1 from rfl), if_neg z1]
        by_cases c2 : nI q9 = nI q
        · rw [if_pos c2, if_pos c2.symm]
        · rw [if_neg c2, if_neg (fun h => c2 h.symm)]
      · subst q1; subst q2
        rw [if_neg (nI_nm1 hq9), if_neg z2]
end STALE

def ELL (L : Nat) (a : Ent) : Prop := ∃ g b : Nat, a.2.1 = nI g ∧ g ≤ 3 ∧ g < L ∧ a.2.2.1 = nI b ∧ (b + 1) * 2 ^ (8 + 4 * g) ≤ 2 ^ (8 + 4 * L)
theorem use_mem {n k : Nat} {rs : Nat → Option Nat} {E : Nat → Nat → Int32} (hk : k < n) {a : Ent} (h : a ∈ lsC n (useRs rs k) E) : a ∈ lsC n rs E := by
  rw [lsC_use hk] at h
  rcases List.mem_cons.mp h with rfl | h
  · exact List.mem_of_getElem? (lsC_get hk)
  · exact (List.eraseIdx_sublist _ _).subset h
theorem keep_mem {N n n' : Nat} {LP : List Nat} {rs rs' : Nat → Option Nat} {E E' : Nat → Nat → Int32} {c p g f14 f14' : Int32} {lf : Int64} (h : (n', f14', rs', E') = mX0_keep N g n f14 lf rs E c p) (hR : ROK N LP rs) (hn : n ≤ N) (h0 : 0 < N) {a : Ent} (ha : a ∈ lsC n' rs' E') : a = newE c g p lf ∨ a ∈ lsC n rs E := by
  obtain ⟨-, -, k⟩ := keep_cls h hR hn h0
  rcases k with ⟨i, -, -, -, -, hl⟩ | ⟨-, -, -, hl⟩ | ⟨-, -, -, hl⟩ <;> rw [hl] at ha <;> rcases List.mem_cons.mp ha with e | ha
  · exact Or.inl e
  · exact Or.inr ((List.eraseIdx_sublist _ _).subset ha)
  · exact Or.inl e
  · exact Or.inr ha
  · exact Or.inl e
  · exact Or.inr ((List.eraseIdx_sublist _ _).subset ha)
theorem flush_mem {N n : Nat} {LP : List Nat} {rs : Nat → Option Nat} {E : Nat → Nat → Int32} {w c p : Int32} (hR : ROK N LP rs) (hn : n ≤ N) {a : Ent} (ha : a ∈ lsC (mForL E w c p n 0 0 rs).1 (mForL E w c p n 0 0 rs).2 E) : a ∈ lsC n rs E := by
  obtain ⟨-, -, f3⟩ := for_ls (E := E) (w := w) (c := c) (p := p) n 0 0 rs (Nat.le_refl _) (by omega) hR
  rw [f3, show lsC 0 rs E = [] from rfl, List.nil_append] at ha
  unfold lsC
  rw [List.range_eq_range']
  exact (List.mem_filter.mp ha).1
theorem newE_ELL {L g P : Nat} (hg : g ≤ 3) (hgL : g < L) (hP : P < 2 ^ (8 + 4 * L)) {c : Int32} {lf : Int64} : ELL L (newE c (nI g) (nI P) lf) := by
  have e0 : 2 ^ (8 + 4 * L) = 2 ^ (4 * (L - g)) * 2 ^ (8 + 4 * g) := by
    rw [← Nat.pow_add]
    congr 1
    omega
  have hPlt : P < 2 ^ 31 ∨ 2 ^ 31 ≤ P := by omega
  refine ⟨g, (nI P).toBitVec.toNat / 2 ^ (8 + 4 * g), rfl, hg, hgL, ?_, ?_⟩
  · show jushr (nI P) (mX4_bitsBelow (nI g)) = _
    unfold mX4_bitsBelow
    rw [bs g (by omega), jushrN _ (by omega)]
  · have h1 : (nI P).toBitVec.toNat ≤ P := by
      show (BitVec.ofNat 32 P).toNat ≤ P
      rw [BitVec.toNat_ofNat]
      exact Nat.mod_le _ _
    rw [e0]
    apply Nat.mul_le_mul_right
    apply Nat.succ_le_of_lt
    apply Nat.div_lt_of_lt_mul
    rw [Nat.mul_comm, ← e0]
    omega
theorem out_find {L n : Nat} {rs : Nat → Option Nat} {E : Nat → Nat → Int32} {c p : Int32} (hL4 : L ≤ 4) (hF : ∀ a ∈ lsC n rs E, EF a) (hE : ∀ a ∈ lsC n rs E, ELL L a) (ho : ¬ mX3_isOutside L p = 0) : mFind rs E c p n 0 = none := by
  cases hc : mFind rs E c p n 0 with
  | none => rfl
  | some k =>
    obtain ⟨-, k2, k3, -⟩ := mFind_some n 0 k hc
    have hm : entE E (rowA rs k) ∈ lsC n rs E := List.mem_of_getElem? (lsC_get (by omega))
    obtain ⟨g, b, e1, hg, hgL, e2, hb⟩ := hE _ hm
    have hp24 := outP L hL4
    have hs := pow_s g hg
    exfalso
    by_cases h0 : p < 0
    · rw [fit_eq (hF _ hm)] at k3
      unfold fitM at k3
      rw [e1, e2, Bool.and_eq_true, decide_eq_true_eq, decide_eq_true_eq, bb g (by omega)] at k3
      have hsn := sar_neg h0 (s := 8 + 4 * g) (by omega)
      rw [k3.2] at hsn
      have hb2 : b < 2 ^ 24 := Nat.lt_of_lt_of_le (Nat.lt_of_lt_of_le (Nat.lt_succ_self b) (Nat.le_mul_of_pos_right _ (Nat.two_pow_pos (8 + 4 * g)))) (Nat.le_trans hb hp24)
      exact nI_pos (by omega) hsn
    · obtain ⟨P, hP, rfl⟩ := nI_ofP h0
      unfold fitC at k3
      rw [e1, e2, Bool.and_eq_true, decide_eq_true_eq, decide_eq_true_eq] at k3
      unfold mX4_bitsBelow at k3
      rw [bs g (by omega), jushrN _ (by omega), bN P (by omega)] at k3
      have hb2 : b < 2 ^ 24 := Nat.lt_of_lt_of_le (Nat.lt_of_lt_of_le (Nat.lt_succ_self b) (Nat.le_mul_of_pos_right _ (Nat.two_pow_pos (8 + 4 * g)))) (Nat.le_trans hb hp24)
      have e3 := (nI_eq (by omega) (Nat.lt_of_le_of_lt (Nat.div_le_self _ _) hP)).mp k3.2
      have hlt : P < 2 ^ (8 + 4 * L) := by
        have := Nat.lt_mul_of_div_lt (show P / 2 ^ (8 + 4 * g) < b + 1 by omega) (Nat.two_pow_pos (8 + 4 * g))
        exact Nat.lt_of_lt_of_le this hb
      apply ho
      unfold mX3_isOutside mX4_bitsBelow
      rw [if_neg h0, outN L hL4, if_pos (nI_lt hlt (by omega))]
/-! stale: how many -/
section STAL
variable {L : Nat} {f1 f8 : Int32} {wd : Nat → Int64} {ho ro : Nat → Int32} {k : Int32}
def stM (L : Nat) (f1 f8 : Int32) (wd : Nat → Int64) (ho ro : Nat → Int32) (k : Int32) (a : Ent) : Bool := decide (a.1 = f1) && !decide ((mX5_isStale L wd f1 ro ho f8 (fun _ => a.2.1) (fun _ => a.2.2.1) (fun _ => a.2.2.2.1) (fun _ => a.2.2.2.2.1) 0 0 0 (fun _ => 0) 0 k).1 = 0)
theorem staL_count (hh : HB ho) (hL1 : 1 ≤ L) (hL4 : L ≤ 4) {F0 : Nat} (hro : ro f1.toNatClampNeg = nI F0) (hF0 : F0 < 2 ^ 20) {rs : Nat → Option Nat} {E : Nat → Nat → Int32} : ∀ (j i t rd : Nat) (lf : Int64) (f10 f11 f12 : Int32) (pa : Nat → Int32), (∀ q, i ≤ q → q < i + j → EF (entE E (rowA rs q))) →
    (mStaL L f1 f8 wd ho ro rs E k j i t rd lf f10 f11 f12 pa).1 = t + ((List.range' i j).map (fun q => entE E (rowA rs q))).countP (stM L f1 f8 wd ho ro k)
  | 0, i, t, rd, lf, f10, f11, f12, pa, _ => rfl
  | j + 1, i, t, rd, lf, f10, f11, f12, pa, h => by
    unfold mStaL
    rw [List.range'_succ, List.map_cons, List.countP_cons]
    have hr : ∀ q, i + 1 ≤ q → q < i + 1 + j → EF (entE E (rowA rs q)) := fun q h1 h2 => h q (by omega) (by omega)
    by_cases c : E 0 (rowA rs i) = f1
    · rw [if_pos c]
      have hst := st_eq (f8 := f8) (wd := wd) hh hL1 hL4 hro hF0 (h i (by omega) (by omega)) (E := E) (y := rowA rs i) rfl (eL := fun _ => (entE E (rowA rs i)).2.1) (eB := fun _ => (entE E (rowA rs i)).2.2.1) (eF := fun _ => (entE E (rowA rs i)).2.2.2.1) (eR := fun _ => (entE E (rowA rs i)).2.2.2.2.1) (e := 0) rfl rfl rfl rfl f10 lf pa 0 0 0 (fun _ => 0) k
      generalize mX4_isStale L f1 f8 f10 lf wd ho ro pa E (rowA rs i) k = X at hst ⊢
      obtain ⟨r, rd', lf', f10', f11', f12', pa'⟩ := X
      dsimp only at hst ⊢
      have hb : stM L f1 f8 wd ho ro k (entE E (rowA rs i)) = !decide (r = 0) := by
        unfold stM
        rw [← hst, show (entE E (rowA rs i)).1 = E 0 (rowA rs i) from rfl, decide_eq_true c, Bool.true_and]
      rw [hb]
      by_cases c2 : r = 0
      · rw [if_pos c2, staL_count hh hL1 hL4 hro hF0 j (i + 1) t _ _ _ _ _ _ hr]
        simp [c2]
      · rw [if_neg c2, staL_count hh hL1 hL4 hro hF0 j (i + 1) (t + 1) _ _ _ _ _ _ hr]
        simp [c2]
        omega
    · rw [if_neg c, staL_count hh hL1 hL4 hro hF0 j (i + 1) t _ _ _ _ _ _ hr]
      have hb : stM L f1 f8 wd ho ro k (entE E (rowA rs i)) = false := by
        unfold stM
        rw [show (entE E (rowA rs i)).1 = E 0 (rowA rs i) from rfl, decide_eq_false c, Bool.false_and]
      rw [hb]
      simp
theorem stM_count (hh : HB ho) (hL1 : 1 ≤ L) (hL4 : L ≤ 4) {F0 : Nat} (hro : ro f1.toNatClampNeg = nI F0) (hF0 : F0 < 2 ^ 20) {x : EST} : ∀ (j i t : Nat) (ff fa : Int32) (mn : Nat) (lg cm : Int32) (wa : Nat → Int32), (∀ q, i ≤ q → q < i + j → EF (entM x q).2) →
    (mStM L wd f1 ro ho f8 x.2.1 x.2.2.1 x.2.2.2.1 x.2.2.2.2.1 x.2.2.2.2.2.1 k j i t ff fa mn lg cm wa).1 = t + ((List.range' i j).map (fun q => (entM x q).2)).countP (stM L f1 f8 wd ho ro k)
  | 0, i, t, ff, fa, mn, lg, cm, wa, _ => rfl
  | j + 1, i, t, ff, fa, mn, lg, cm, wa, h => by
    unfold mStM
    rw [List.range'_succ, List.map_cons, List.countP_cons]
    have hr : ∀ q, i + 1 ≤ q → q < i + 1 + j → EF (entM x q).2 := fun q h1 h2 => h q (by omega) (by omega)
    by_cases c : x.2.1 i = f1
    · rw [if_pos c]
      have hE : entE (fun j9 _ => if j9 = 0 then (entM x i).2.1 else if j9 = 1 then (entM x i).2.2.1 else if j9 = 2 then (entM x i).2.2.2.1 else if j9 = 3 then (entM x i).2.2.2.2.1 else if j9 = 4 then (entM x i).2.2.2.2.2.1 else (entM x i).2.2.2.2.2.2) 0 = (entM x i).2 := rfl
      have hs1 := st_eq (f8 := f8) (wd := wd) hh hL1 hL4 hro hF0 (h i (by omega) (by omega)) hE (eL := x.2.2.1) (eB := x.2.2.2.1) (eF := x.2.2.2.2.1) (eR := x.2.2.2.2.2.1) (e := i) rfl rfl rfl rfl 0 0 (fun _ => 0) fa lg cm wa k
      have hs2 := st_eq (f8 := f8) (wd := wd) hh hL1 hL4 hro hF0 (h i (by omega) (by omega)) hE (eL := fun _ => (entM x i).2.2.1) (eB := fun _ => (entM x i).2.2.2.1) (eF := fun _ => (entM x i).2.2.2.2.1) (eR := fun _ => (entM x i).2.2.2.2.2.1) (e := 0) rfl rfl rfl rfl 0 0 (fun _ => 0) 0 0 0 (fun _ => 0) k
      have hst := hs1.symm.trans hs2
      generalize mX5_isStale L wd f1 ro ho f8 x.2.2.1 x.2.2.2.1 x.2.2.2.2.1 x.2.2.2.2.2.1 fa lg cm wa i k = X at hst ⊢
      obtain ⟨r, ff', fa', mn', lg', cm', wa'⟩ := X
      dsimp only at hst ⊢
      have hb : stM L f1 f8 wd ho ro k (entM x i).2 = !decide (r = 0) := by
        unfold stM
        rw [← hst, show (entM x i).2.1 = x.2.1 i from rfl, decide_eq_true c, Bool.true_and]
      rw [hb]
      by_cases c2 : r = 0
      · rw [if_pos c2, stM_count hh hL1 hL4 hro hF0 j (i + 1) t _ _ _ _ _ _ hr]
        simp [c2]
      · rw [if_neg c2, stM_count hh hL1 hL4 hro hF0 j (i + 1) (t + 1) _ _ _ _ _ _ hr]
        simp [c2]
        omega
    · rw [if_neg c, stM_count hh hL1 hL4 hro hF0 j (i + 1) t _ _ _ _ _ _ hr]
      have hb : stM L f1 f8 wd ho ro k (entM x i).2 = false := by
        unfold stM
        rw [show (entM x i).2.1 = x.2.1 i from rfl, decide_eq_false c, Bool.false_and]
      rw [hb]
      simp
theorem stale_rel (hh : HB ho) (hL1 : 1 ≤ L) (hL4 : L ≤ 4) {F0 : Nat} (hro : ro f1.toNatClampNeg = nI F0) (hF0 : F0 < 2 ^ 20) {N n us : Nat} {LP : List Nat} {rs : Nat → Option Nat} {E : Nat → Nat → Int32} {x : EST} (h : EREL N n LP rs E us x) (rd : Nat) (lf : Int64) (f10 f11 f12 : Int32) (pa : Nat → Int32) (ff fa : Int32) (mn : Nat) (lg cm : Int32) (wa : Nat → Int32) :
    (mStaL L f1 f8 wd ho ro rs E k n 0 0 rd lf f10 f11 f12 pa).1 = (mStM L wd f1 ro ho f8 x.2.1 x.2.2.1 x.2.2.2.1 x.2.2.2.2.1 x.2.2.2.2.2.1 k n 0 0 ff fa mn lg cm wa).1 := by
  obtain ⟨hR, hn, hU, hF, so, hS, hes⟩ := h
  have hxn := rel_len hS hes
  rw [staL_count hh hL1 hL4 hro hF0 n 0 0 _ _ _ _ _ _ (fun q _ hq => hF _ (List.mem_of_getElem? (lsC_get (by omega)))),
    stM_count hh hL1 hL4 hro hF0 n 0 0 _ _ _ _ _ _ (fun q _ hq => rel_ef hes hF (hS.1.mem_iff.mpr (lsM_mem.mpr ⟨q, by omega, rfl⟩)))]
  congr 1
  have e1 : (List.range' 0 n).map (fun q => entE E (rowA rs q)) = lsC n rs E := by
    unfold lsC
    rw [List.range_eq_range']
  have e2 : (List.range' 0 n).map (fun q => (entM x q).2) = (lsM x).map Prod.snd := by
    unfold lsM
    rw [List.map_map, hxn, List.range_eq_range']
    rfl
  rw [e1, e2, hes]
  exact (hS.1.map Prod.snd).countP_eq _
end STAL

theorem sameKey_symm {a b : Ent} (h : ¬ sameKey a b) : ¬ sameKey b a := fun q => h ⟨q.1.symm, q.2.1.symm, q.2.2.symm⟩
section KEEP
variable {N n us : Nat} {LP : List Nat} {rs : Nat → Option Nat} {E : Nat → Nat → Int32} {x : EST} {so : List (Int32 × Ent)} {c : Int32}
/-- what is kept: both lists have it first, behind what stays -/
theorem keep_rel (hR : ROK N LP rs) (hn : n ≤ N) (h0 : 0 < N) (hU : KU (lsC n rs E)) (hF : ∀ a ∈ lsC n rs E, EF a) (hS : SO so x us) (hes : lsC n rs E = so.map Prod.snd) (hu : us + 1 < 2 ^ 31) {g P : Nat} (hg : g ≤ 3) (hP : P < 2 ^ 24) {lf : Int64} {f14 : Int32}
    {n' : Nat} {f14' : Int32} {rs' : Nat → Option Nat} {E' : Nat → Nat → Int32} (h : (n', f14', rs', E') = mX0_keep N (nI g) n f14 lf rs E c (nI P)) :
    ∃ X : EST, mKeep N c (nI g) (nI P >>> (((8 : Int32) + ((4 : Int32) * nI g)) &&& 31)) lf us f14 (mK1 c (nI g) (nI P >>> (((8 : Int32) + ((4 : Int32) * nI g)) &&& 31)) n x) = outK X (us + 1) f14' ∧ EREL N n' LP rs' E' (us + 1) X := by
  have hxn := rel_len hS hes
  have hbits : jushr (nI P) (mX4_bitsBelow (nI g)) = nI P >>> (((8 : Int32) + ((4 : Int32) * nI g)) &&& 31) := by
    unfold mX4_bitsBelow
    rw [bb g (by omega), bs g (by omega), jushrN _ (by omega), sarN (by omega) (by omega), bN P (by omega)]
  have hbv : nI P >>> (((8 : Int32) + ((4 : Int32) * nI g)) &&& 31) = nI (P / 2 ^ (8 + 4 * g)) := by rw [bb g (by omega), sarN (by omega) (by omega)]
  generalize hbe : nI P >>> (((8 : Int32) + ((4 : Int32) * nI g)) &&& 31) = bits at hbits hbv ⊢
  obtain ⟨k1, k2, k3⟩ := keep_cls h hR hn h0
  have hnew : EF (newE c (nI g) (nI P) lf) := by
    obtain ⟨F, hFl, hFe⟩ := frame_nI lf
    obtain ⟨R, hRl, hRe⟩ := rights_nI lf
    refine ⟨g, P / 2 ^ (8 + 4 * g), F, R, hg, rfl, ?_, ?_, hFl, ?_, hRl, ?_, ?_⟩
    · exact Nat.lt_of_le_of_lt (Nat.div_mul_le_self _ _) hP
    · show jushr (nI P) (mX4_bitsBelow (nI g)) = _
      rw [hbits, hbv]
    · show mX4_frameOf lf = _
      rw [frame_eq, hFe]
    · show mX4_rightsOf lf = _
      rw [rights_eq, hRe]
    · show (if lg_cmp (lf &&& (128 : Int64)) (0 : Int64) = 0 then (0 : Int32) else (1 : Int32)) = 0 ∨ (if lg_cmp (lf &&& (128 : Int64)) (0 : Int64) = 0 then (0 : Int32) else (1 : Int32)) = (1 : Int32)
      split
      · exact Or.inl rfl
      · exact Or.inr rfl
  -- what the reference has behind its first loop
  have hS1 : SO (so.filter (fun a => !keyM c (nI g) bits a.2)) (gDrop (fun a => keyM c (nI g) bits a.2) n x) us := by
    have := hS.gone (fun a => keyM c (nI g) bits a.2)
    rw [hxn] at this
    exact this
  have hm1 : (so.filter (fun a => !keyM c (nI g) bits a.2)).map Prod.snd = (lsC n rs E).filter (fun a => !keyC c (nI P) (nI g) a) := by
    rw [hes, List.filter_map]
    congr 1
    apply List.filter_congr
    intro a _
    show _ = !keyC c (nI P) (nI g) a.2
    rw [key_eq hbits]
  rw [mK1_drop]
  generalize hX1 : gDrop (fun a => keyM c (nI g) bits a.2) n x = X1 at hS1 ⊢
  generalize hso1 : so.filter (fun a => !keyM c (nI g) bits a.2) = so1 at hS1 hm1
  have hlen1 : X1.1 = ((lsC n rs E).filter (fun a => !keyC c (nI P) (nI g) a)).length := by
    rw [← hm1, List.length_map, hS1.len]
  -- what is new differs from all that stay
  have hdif : ∀ a ∈ (lsC n rs E).filter (fun a => !keyC c (nI P) (nI g) a), ¬ sameKey (newE c (nI g) (nI P) lf) a := by
    intro a ha hk
    obtain ⟨-, h2⟩ := List.mem_filter.mp ha
    have hk1 : a.1 = c := hk.1.symm
    have hk2 : a.2.1 = nI g := hk.2.1.symm
    have hk3 : a.2.2.1 = jushr (nI P) (mX4_bitsBelow (nI g)) := hk.2.2.symm
    have : keyC c (nI P) (nI g) a = true := by
      unfold keyC fitC
      rw [hk1, hk2, hk3, decide_eq_true rfl, decide_eq_true rfl, decide_eq_true rfl]
      rfl
    rw [this] at h2
    cases h2
  have hUf : KU ((lsC n rs E).filter (fun a => !keyC c (nI P) (nI g) a)) := List.Pairwise.sublist List.filter_sublist hU
  have fin : ∀ (es2 : List Ent) (so2 : List (Int32 × Ent)) (X2 : EST) (f9 : Int32), SO so2 X2 us → es2 = so2.map Prod.snd → es2.Sublist ((lsC n rs E).filter (fun a => !keyC c (nI P) (nI g) a)) → lsC n' rs' E' = newE c (nI g) (nI P) lf :: es2 → f14' = f9 → ∃ X : EST, mK3 c (nI g) bits lf us f9 X2 = outK X (us + 1) f14' ∧ EREL N n' LP rs' E' (us + 1) X := by
    intro es2 so2 X2 f9 hS2 he2 hsub hl hf9
    refine ⟨pushM X2 (newE c (nI g) (nI P) lf) (us + 1), by rw [mK3_push hbits, hf9], k1, k2, ?_, ?_, _, hS2.pushed hu _, ?_⟩
    · rw [hl]
      exact List.pairwise_cons.mpr ⟨fun a ha => hdif a (hsub.subset ha), hUf.sublist hsub⟩
    · rw [hl]
      intro a ha
      rcases List.mem_cons.mp ha with rfl | ha
      · exact hnew
      · exact hF a (List.mem_filter.mp (hsub.subset ha)).1
    · rw [hl, he2]
      rfl
  have hself : (∀ a ∈ lsC n rs E, keyC c (nI P) (nI g) a = false) → (lsC n rs E).filter (fun a => !keyC c (nI P) (nI g) a) = lsC n rs E := by
    intro hno
    apply List.filter_eq_self.mpr
    intro a ha
    rw [hno a ha]
    rfl
  unfold mKeep
  rcases k3 with ⟨i, hi, hki, -, hf14, hl⟩ | ⟨hno, hlt, hf14, hl⟩ | ⟨hno, heq, hf14, hl⟩
  · have hfe : (lsC n rs E).filter (fun a => !keyC c (nI P) (nI g) a) = (lsC n rs E).eraseIdx i := by
      refine filter_erase (lsC_get hi) hki (fun j b hj hb => ?_)
      obtain ⟨j1, j2⟩ := List.getElem?_eq_some_iff.mp hj
      have hi1 : i < (lsC n rs E).length := by rw [lsC_len]; exact hi
      have hi2 : (lsC n rs E)[i] = entE E (rowA rs i) := (List.getElem?_eq_some_iff.mp (lsC_get hi)).2
      have a1 := keyC_to hki
      have a2 := keyC_to hb
      have hsk : sameKey (entE E (rowA rs i)) b := ⟨a1.1.trans a2.1.symm, a1.2.1.trans a2.2.1.symm, a1.2.2.trans a2.2.2.symm⟩
      rcases Nat.lt_trichotomy j i with q | q | q
      · have := List.pairwise_iff_getElem.mp hU j i j1 hi1 q
        rw [hi2, j2] at this
        exact absurd ⟨hsk.1.symm, hsk.2.1.symm, hsk.2.2.symm⟩ this
      · exact q
      · have := List.pairwise_iff_getElem.mp hU i j hi1 j1 q
        rw [hi2, j2] at this
        exact absurd hsk this
    rw [hfe] at hlen1
    rw [List.length_eraseIdx_of_lt (by rw [lsC_len]; exact hi), lsC_len] at hlen1
    rw [if_neg (by omega)]
    exact fin _ so1 X1 f14 hS1 rfl (by rw [hm1]; exact List.Sublist.refl _) (by rw [hl, hm1, hfe]) hf14
  · rw [hself hno, lsC_len] at hlen1
    rw [if_neg (by omega)]
    exact fin _ so1 X1 f14 hS1 rfl (by rw [hm1]; exact List.Sublist.refl _) (by rw [hl, hm1, hself hno]) hf14
  · rw [hself hno, lsC_len] at hlen1
    rw [if_pos (by omega)]
    obtain ⟨o1, o2⟩ := mOld_spec (u := X1.2.2.2.2.2.2.1) (X1.1 - 1) 1 0 (by omega) (fun q hq => by rw [show q = 0 by omega]; exact Int32.le_refl _)
    generalize mOld X1.2.2.2.2.2.2.1 (X1.1 - 1) 1 0 = o at o1 o2 ⊢
    have hlast := so_last hS1 (o := o) (by omega) (fun q hq => o2 q (by omega))
    refine fin ((lsC n rs E).eraseIdx (n - 1)) (so1.eraseIdx (X1.1 - 1)) (mDropT X1 o) (f14 + 1) (hS1.drop (by omega) hlast) ?_ ?_ hl hf14
    · rw [← erase_map, hm1, hself hno, hlen1]
    · rw [hself hno]
      exact List.eraseIdx_sublist _ _
end KEEP

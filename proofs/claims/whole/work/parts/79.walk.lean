/-! walk: the class's and the reference's -/
abbrev MWT : Type := Int32 × Int32 × (Nat → Int64) × Nat × Nat × (Nat → Int32) × (Nat → Int32) × (Nat → Int32) × (Nat → Int32) × (Nat → Int32) × (Nat → Int32) × (Nat → Int32) × Int32 × Int32 × Int32 × Int32 × Int32 × Int32 × Int32 × Int32 × Int32 × Nat × Int32 × Int32 × (Nat → Int32)
def mTab (L N : Nat) (mm : Nat → Int64) (f1 : Int32) (mr mh : Nat → Int32) (f8 : Int32) (en us : Nat) (eC eL eB eF eR eU eX : Nat → Int32) (f4 f5 f6 f7 f14 fa lg cm : Int32) (wa : Nat → Int32) (p0 p1 : Int32) : MWT :=
  match mWk L mm f1 mr mh f8 fa lg cm wa p0 p1 with
  | (r, ff', fa', mn', lg', cm', wa') =>
    if r = 0 then
      match mX5_told f7 ff' fa' cm' r with
      | (r2, f2', f3', f7') => (r2, (0 : Int32), mm, en, us, eC, eL, eB, eF, eR, eU, eX, f2', f3', f4 + (nI mn'), f5, f6 + (1 : Int32), f7', f14, ff', fa', mn', lg', cm', wa')
    else
      match mMarkM mn' wa' p1 (mMarkL wa' mn' 0 mm) with
      | mm2 =>
        match mKeep N f1 lg' (p0 >>> (((8 : Int32) + ((4 : Int32) * lg')) &&& 31)) (mm2 (wa' (mn' - 1)).toNatClampNeg) us f14 (mK1 f1 lg' (p0 >>> (((8 : Int32) + ((4 : Int32) * lg')) &&& 31)) en (en, eC, eL, eB, eF, eR, eU, eX)) with
        | (en2, us2, eC2, eL2, eB2, eF2, eR2, eU2, eX2, f142) =>
          match mX5_told f7 ff' fa' cm' r with
          | (r2, f2', f3', f7') => (r2, (0 : Int32), mm2, en2, us2, eC2, eL2, eB2, eF2, eR2, eU2, eX2, f2', f3', f4 + (nI mn'), f5, f6 + (1 : Int32), f7', f142, ff', fa', mn', lg', cm', wa')
def mBy (L : Nat) (mm : Nat → Int64) (mh : Nat → Int32) (f8 : Int32) (en us : Nat) (eC eL eB eF eR eU eX : Nat → Int32) (f4 f5 f6 f7 f14 ff fa : Int32) (mn : Nat) (lg cm : Int32) (wa : Nat → Int32) (e : Nat) (p0 p1 : Int32) : MWT :=
  match mX5_byEntry L mh f8 us eL eF eR eU f5 ff fa cm e p0 p1 with
  | (r, us', eU', f5', ff', fa', cm') =>
    match mX5_told f7 ff' fa' cm' r with
    | (r2, f2', f3', f7') => (r2, (0 : Int32), mm, en, us', eC, eL, eB, eF, eR, eU', eX, f2', f3', f4, f5', f6, f7', f14, ff', fa', mn, lg, cm', wa)
theorem mX5_walk_eq (L N : Nat) (mm : Nat → Int64) (f1 : Int32) (mr mh : Nat → Int32) (f8 : Int32) (en us : Nat) (eC eL eB eF eR eU eX : Nat → Int32) (f2 f3 f4 f5 f6 f7 f14 ff fa : Int32) (mn : Nat) (lg cm : Int32) (wa : Nat → Int32) (p0 p1 : Int32) :
    mX5_walk L N mm f1 mr mh f8 en us eC eL eB eF eR eU eX f2 f3 f4 f5 f6 f7 f14 ff fa mn lg cm wa p0 p1 =
      (if mX5_isOf p1 (6 : Int32) = 0 then ((0 : Int32), (1 : Int32), mm, en, us, eC, eL, eB, eF, eR, eU, eX, f2, f3, f4, f5, f6, f7, f14, ff, fa, mn, lg, cm, wa)
      else if mX5_isOutside L p0 = 0 then
        (match mEF f1 eC eL eB eU p0 en 0 none with
        | none => mTab L N mm f1 mr mh f8 en us eC eL eB eF eR eU eX f4 f5 f6 f7 f14 fa lg cm wa p0 p1
        | some e => if (p1 - p1 / (3 : Int32) * (3 : Int32)) = (1 : Int32) ∧ eX e = 0 ∧ ¬ mX5_does (eR e) p1 = 0 then mTab L N mm f1 mr mh f8 en us eC eL eB eF eR eU eX f4 f5 f6 f7 f14 fa lg cm wa p0 p1
          else mBy L mm mh f8 en us eC eL eB eF eR eU eX f4 f5 f6 f7 f14 ff fa mn lg cm wa e p0 p1)
      else mTab L N mm f1 mr mh f8 en us eC eL eB eF eR eU eX f4 f5 f6 f7 f14 fa lg cm wa p0 p1) := by
  unfold mX5_walk
  by_cases c1 : mX5_isOf p1 (6 : Int32) = 0
  · rw [if_pos c1, if_pos c1]
  · rw [if_neg c1, if_neg c1]
    rw [show mX5_throwing (0 : Int32) (0 : Int32) = ((0 : Int32), (0 : Int32)) from rfl]
    dsimp only
    by_cases c2 : mX5_isOutside L p0 = 0
    · rw [if_pos c2, if_pos c2]
      cases mEF f1 eC eL eB eU p0 en 0 none with
      | none =>
        dsimp only
        split <;> rfl
      | some e =>
        dsimp only
        by_cases c3 : (p1 - p1 / (3 : Int32) * (3 : Int32)) = (1 : Int32)
        · by_cases c4 : eX e = 0
          · by_cases c5 : mX5_does (eR e) p1 = 0
            · rw [if_pos c3, if_pos c4, if_pos c5, if_neg (fun q => q.2.2 c5)]
              rfl
            · rw [if_pos c3, if_pos c4, if_neg c5, if_pos (show (p1 - p1 / (3 : Int32) * (3 : Int32)) = (1 : Int32) ∧ eX e = 0 ∧ ¬ mX5_does (eR e) p1 = 0 from ⟨c3, c4, c5⟩)]
              rfl
          · rw [if_pos c3, if_neg c4, if_neg (fun q => c4 q.2.1)]
            rfl
        · rw [if_neg c3, if_neg (fun q => c3 q.1)]
          rfl
    · rw [if_neg c2, if_neg c2]
      split <;> rfl
theorem markL_congr {pa wa : Nat → Int32} : ∀ (j i : Nat) (w : Nat → Int64), (∀ q, i ≤ q → q < i + j → pa q = wa q) → mMarkL pa j i w = mMarkL wa j i w
  | 0, _, _, _ => rfl
  | j + 1, i, w, h => by
    unfold mMarkL
    rw [h i (by omega) (by omega)]
    exact markL_congr j (i + 1) _ (fun q h1 h2 => h q (by omega) (by omega))
theorem mark_eq {pa wa : Nat → Int32} {rd : Nat} (h1 : 1 ≤ rd) (h : ∀ i, i < rd → pa i = wa i) (lf : Int64) (k : Int32) (wd : Nat → Int64) :
    mMark rd lf pa (mX4_isWrite k) (mMarkL pa rd 0 wd) = (mMarkM rd wa k (mMarkL wa rd 0 wd), mMarkM rd wa k (mMarkL wa rd 0 wd) (wa (rd - 1)).toNatClampNeg) := by
  unfold mMark mMarkM mX4_isWrite
  rw [if_neg (by omega), markL_congr rd 0 wd (fun q _ hq => h q (by omega)), h (rd - 1) (by omega)]
  by_cases c : (k - k / (3 : Int32) * (3 : Int32)) = (1 : Int32)
  · rw [if_pos c, if_pos c, if_neg (by decide)]
  · rw [if_neg c, if_neg c, if_pos rfl]
/-- how two results of walk go together: the same answers, one list of entries -/
def WREL (L N : Nat) (LP : List Nat) (us : Nat) (r f2c f3c f4c f5c f6c f7c : Int32) (n : Nat) (f14c : Int32) (wd : Nat → Int64) (rs : Nat → Option Nat) (E : Nat → Nat → Int32) (y : MWT) : Prop :=
  y.1 = r ∧ y.2.1 = 0 ∧ y.2.2.1 = wd ∧ y.2.2.2.1 = n ∧ y.2.2.2.2.1 ≤ us + 1 ∧ (y.2.2.2.2.2.2.2.2.2.2.2.2.1 = f2c ∧ y.2.2.2.2.2.2.2.2.2.2.2.2.2.1 = f3c ∧ y.2.2.2.2.2.2.2.2.2.2.2.2.2.2.1 = f4c ∧ y.2.2.2.2.2.2.2.2.2.2.2.2.2.2.2.1 = f5c ∧ y.2.2.2.2.2.2.2.2.2.2.2.2.2.2.2.2.1 = f6c ∧ y.2.2.2.2.2.2.2.2.2.2.2.2.2.2.2.2.2.1 = f7c ∧ y.2.2.2.2.2.2.2.2.2.2.2.2.2.2.2.2.2.2.1 = f14c) ∧
  EREL N n LP rs E y.2.2.2.2.1 (y.2.2.2.1, y.2.2.2.2.2.1, y.2.2.2.2.2.2.1, y.2.2.2.2.2.2.2.1, y.2.2.2.2.2.2.2.2.1, y.2.2.2.2.2.2.2.2.2.1, y.2.2.2.2.2.2.2.2.2.2.1, y.2.2.2.2.2.2.2.2.2.2.2.1) ∧ (∀ a ∈ lsC n rs E, ELL L a)
section WALK
variable {L N n us : Nat} {LP : List Nat} {rs : Nat → Option Nat} {E : Nat → Nat → Int32} {eC eL eB eF eR eU eX : Nat → Int32} {f1 f8 : Int32} {wd : Nat → Int64} {ho ro : Nat → Int32}
theorem tab_rel (hL1 : 1 ≤ L) (hL4 : L ≤ 4) (h0 : 0 < N) (hh : HB ho) {F0 : Nat} (hro : ro f1.toNatClampNeg = nI F0) (hF0 : F0 < 2 ^ 20) (hu : us + 1 < 2 ^ 31) (hE : EREL N n LP rs E us (n, eC, eL, eB, eF, eR, eU, eX)) (hl : ∀ a ∈ lsC n rs E, ELL L a)
    {f4 f5 f6 f7 f14 f10 : Int32} {lf : Int64} {pa wa : Nat → Int32} {fa lg cm : Int32} {p0 p1 : Int32}
    {r f2' f3' f4' f6' f7' : Int32} {rd' : Nat} {f10' f11' f12' : Int32} {n' : Nat} {f14' : Int32} {lf' : Int64} {wd' : Nat → Int64} {pa' : Nat → Int32} {rs' : Nat → Option Nat} {E' : Nat → Nat → Int32}
    (h : (r, f2', f3', f4', f6', f7', rd', f10', f11', f12', n', f14', lf', wd', pa', rs', E') = mX4_translateByTables N L f1 f4 f6 f7 f8 f10 n f14 lf wd ho ro pa rs E p0 p1) :
    WREL L N LP us r f2' f3' f4' f5 f6' f7' n' f14' wd' rs' E' (mTab L N wd f1 ro ho f8 n us eC eL eB eF eR eU eX f4 f5 f6 f7 f14 fa lg cm wa p0 p1) := by
  have key := fol_wk (L := L) (f8 := f8) (wd := wd) (f10 := f10) (k := p1) (f1 := f1) (lg := lg) (cm := cm) (fa := fa) (wa := wa) (pa := pa) (lf := lf) (p := p0) hh hL1 hL4 hro hF0
  have hin : (mFol L f8 wd ho f10 lf pa (ro f1.toNatClampNeg) p0 p1).1 = 0 → mX3_isOutside L p0 = 0 := by
    intro h9
    by_cases c : mX3_isOutside L p0 = 0
    · exact c
    · unfold mFol at h9
      rw [if_neg c] at h9
      exact absurd h9 (show ¬ (1 : Int32) = 0 by decide)
  unfold mX4_translateByTables at h
  unfold mTab
  generalize mFol L f8 wd ho f10 lf pa (ro f1.toNatClampNeg) p0 p1 = X at key h hin
  generalize mWk L wd f1 ro ho f8 fa lg cm wa p0 p1 = Y at key ⊢
  obtain ⟨r1, rd1, lf1, x10, x11, x12, pa1⟩ := X
  obtain ⟨g1, ff1, fa1, mn1, lg1, cm1, wa1⟩ := Y
  obtain ⟨hmn, hag, key⟩ := key
  dsimp only at key h hin hmn hag ⊢
  subst hmn
  rcases key with ⟨q0, q1, q2, q3, ⟨g, hg, q4, q5⟩, ⟨q, hq, q6, q7⟩⟩ | ⟨q0, q1, q2, q3, q4⟩
  · subst q0; subst q1; subst q4; subst q5; subst q6; subst q7
    rw [if_neg (show ¬ (1 : Int32) = 0 by decide)]
    rw [if_pos rfl, mark_eq q2 hag] at h
    dsimp only at h ⊢
    obtain ⟨P, hP1, hP2, rfl⟩ := outside_in hL4 (hin rfl)
    obtain ⟨hR, hn, hU, hF, so, hS, hes⟩ := hE
    generalize hk : mX0_keep N (nI g) n f14 (mMarkM mn1 wa1 p1 (mMarkL wa1 mn1 0 wd) (wa1 (mn1 - 1)).toNatClampNeg) rs E f1 (nI P) = K at h
    obtain ⟨nk, fk, rk, Ek⟩ := K
    obtain ⟨X, hX1, hX2⟩ := keep_rel hR hn h0 hU hF hS hes hu (show g ≤ 3 by omega) hP2 hk.symm
    rw [hX1]
    unfold outK
    dsimp only at h ⊢
    unfold mX4_finish at h
    unfold mX5_told
    rw [if_pos rfl] at h
    rw [if_neg (show ¬ (1 : Int32) = 0 by decide)]
    dsimp only at h ⊢
    cases h
    have hlen : X.1 = n' := by
      obtain ⟨-, -, -, -, so2, hS2, hes2⟩ := hX2
      exact rel_len hS2 hes2
    refine ⟨rfl, rfl, rfl, hlen, Nat.le_refl _, ⟨rfl, rfl, rfl, rfl, rfl, Int32.add_zero _, rfl⟩, hX2, ?_⟩
    intro a ha
    rcases keep_mem hk.symm hR hn h0 ha with rfl | ha
    · exact newE_ELL (by omega) hg hP1
    · exact hl a ha
  · subst q1; subst q2; subst q3; subst q4
    rw [if_pos rfl]
    rw [if_neg q0] at h
    unfold mX4_finish at h
    rw [if_neg q0] at h
    unfold mX5_told
    rw [if_pos rfl]
    dsimp only at h ⊢
    cases h
    exact ⟨rfl, rfl, rfl, rfl, Nat.le_succ _, ⟨rfl, rfl, rfl, rfl, rfl, rfl, rfl⟩, hE, hl⟩
theorem by_rel (hL4 : L ≤ 4) (hh : HB ho) (hu : us + 1 < 2 ^ 31) (hR : ROK N LP rs) (hn : n ≤ N) (hU : KU (lsC n rs E)) (hF : ∀ a ∈ lsC n rs E, EF a) {so : List (Int32 × Ent)} (hS : SO so (n, eC, eL, eB, eF, eR, eU, eX) us) (hes : lsC n rs E = so.map Prod.snd) (hl : ∀ a ∈ lsC n rs E, ELL L a)
    {k e : Nat} (hk : k < n) (he : e < n) (hke : so[k]? = some (entM (n, eC, eL, eB, eF, eR, eU, eX) e)) (hent : entE E (rowA rs k) = (entM (n, eC, eL, eB, eF, eR, eU, eX) e).2)
    {f4 f5 f6 f7 f14 ff fa : Int32} {mn : Nat} {lg cm : Int32} {wa : Nat → Int32} {p0 p1 : Int32} {P : Nat} (hP : P < 2 ^ 24) (hp0 : p0 = nI P)
    {r f2' f3' f5' f7' : Int32} {rs' : Nat → Option Nat} (h : (r, f2', f3', f5', f7', rs') = mX4_translateByEntry L f5 f7 f8 ho rs E k p0 p1) :
    WREL L N LP us r f2' f3' f4 f5' f6 f7' n f14 wd rs' E (mBy L wd ho f8 n us eC eL eB eF eR eU eX f4 f5 f6 f7 f14 ff fa mn lg cm wa e p0 p1) := by
  subst hp0
  obtain ⟨g, b, F, R, hg, e1, -, -, hFl, e3, hRl, e4, -⟩ := hF _ (List.mem_of_getElem? (lsC_get hk))
  have y1 : E 1 (rowA rs k) = nI g := e1
  have y3 : E 3 (rowA rs k) = nI F := e3
  have y4 : E 4 (rowA rs k) = nI R := e4
  have m1 : eL e = nI g := ((congrArg (fun z : Ent => z.2.1) hent).symm).trans e1
  have m3 : eF e = nI F := ((congrArg (fun z : Ent => z.2.2.2.1) hent).symm).trans e3
  have m4 : eR e = nI R := ((congrArg (fun z : Ent => z.2.2.2.2.1) hent).symm).trans e4
  have hrel := use_rel hR hn hU hF hS hes hu hk he hke
  have hrs : rs' = useRs rs k := by
    unfold mX4_translateByEntry mX4_finish at h
    dsimp only at h
    split at h
    · cases h; rfl
    · split at h <;> (cases h; rfl)
  have hend : ∀ a ∈ lsC n rs' E, ELL L a := by
    rw [hrs]
    exact fun a ha => hl a (use_mem hk ha)
  unfold mX4_translateByEntry at h
  unfold mBy mX5_byEntry mX5_use
  rw [y1, y3, y4] at h
  rw [m1, m3, m4]
  dsimp only at h ⊢
  rw [allows_does hRl] at h
  by_cases c1 : mX5_does (nI R) p1 = 0
  · rw [if_pos c1] at h
    rw [if_pos c1]
    unfold mX4_finish at h
    unfold mX5_fails mX5_told
    rw [if_neg (show ¬ (3 : Int32) = 0 by decide)] at h
    dsimp only at h ⊢
    rw [if_pos rfl]
    cases h
    exact ⟨rfl, rfl, rfl, rfl, Nat.le_refl _, ⟨rfl, rfl, rfl, rfl, rfl, rfl, rfl⟩, hrel, hend⟩
  · rw [if_neg c1] at h
    rw [if_neg c1]
    rcases reach_ends (L := L) (f8 := f8) (ff := ff) (fa := fa) (cm := cm) hh hFl hg hP with ⟨r1, r2⟩ | ⟨q, hq, r1, r2⟩
    · rw [r1, if_pos rfl] at h
      rw [r2]
      unfold mX4_finish at h
      unfold mX5_told
      rw [if_neg (show ¬ (6 : Int32) = 0 by decide)] at h
      dsimp only at h ⊢
      rw [if_pos rfl]
      cases h
      exact ⟨rfl, rfl, rfl, rfl, Nat.le_refl _, ⟨rfl, rfl, rfl, rfl, rfl, rfl, rfl⟩, hrel, hend⟩
    · rw [r1, if_neg (nI_nm1 hq)] at h
      rw [r2]
      unfold mX4_finish at h
      unfold mX5_told
      rw [if_pos rfl] at h
      dsimp only at h ⊢
      rw [if_neg (show ¬ (1 : Int32) = 0 by decide)]
      cases h
      exact ⟨rfl, rfl, rfl, rfl, Nat.le_refl _, ⟨rfl, rfl, rfl, rfl, rfl, Int32.add_zero _, rfl⟩, hrel, hend⟩
theorem walk_rel (hL1 : 1 ≤ L) (hL4 : L ≤ 4) (h0 : 0 < N) (hh : HB ho) {F0 : Nat} (hro : ro f1.toNatClampNeg = nI F0) (hF0 : F0 < 2 ^ 20) (hu : us + 1 < 2 ^ 31) (hn31 : n < 2 ^ 31) (hE : EREL N n LP rs E us (n, eC, eL, eB, eF, eR, eU, eX)) (hl : ∀ a ∈ lsC n rs E, ELL L a)
    {f2 f3 f4 f5 f6 f7 f14 f10 f11 f12 : Int32} {rd : Nat} {lf : Int64} {pa wa : Nat → Int32} {ff fa lg cm : Int32} {mn : Nat} {p0 p1 : Int32} :
    (mX4_walk N L f1 f4 f5 f6 f7 f8 rd f10 f11 f12 n f14 lf wd ho ro pa rs E p0 p1 = .inl 1 ∧ mX5_walk L N wd f1 ro ho f8 n us eC eL eB eF eR eU eX f2 f3 f4 f5 f6 f7 f14 ff fa mn lg cm wa p0 p1 = ((0 : Int32), (1 : Int32), wd, n, us, eC, eL, eB, eF, eR, eU, eX, f2, f3, f4, f5, f6, f7, f14, ff, fa, mn, lg, cm, wa)) ∨
    ∃ (r f2' f3' f4' f5' f6' f7' : Int32) (rd' : Nat) (f10' f11' f12' : Int32) (n' : Nat) (f14' : Int32) (lf' : Int64) (wd' : Nat → Int64) (pa' : Nat → Int32) (rs' : Nat → Option Nat) (E' : Nat → Nat → Int32),
      mX4_walk N L f1 f4 f5 f6 f7 f8 rd f10 f11 f12 n f14 lf wd ho ro pa rs E p0 p1 = .inr (r, f2', f3', f4', f5', f6', f7', rd', f10', f11', f12', n', f14', lf', wd', pa', rs', E') ∧
      WREL L N LP us r f2' f3' f4' f5' f6' f7' n' f14' wd' rs' E' (mX5_walk L N wd f1 ro ho f8 n us eC eL eB eF eR eU eX f2 f3 f4 f5 f6 f7 f14 ff fa mn lg cm wa p0 p1) := by
  rw [mX5_walk_eq]
  unfold mX4_walk
  rw [show mX4_isKind p1 = mX5_isOf p1 (6 : Int32) from rfl]
  by_cases c1 : mX5_isOf p1 (6 : Int32) = 0
  · rw [if_pos c1, if_pos c1]
    exact Or.inl ⟨rfl, rfl⟩
  · rw [if_neg c1, if_neg c1]
    refine Or.inr ?_
    have tab : ∃ (r f2' f3' f4' f5' f6' f7' : Int32) (rd' : Nat) (f10' f11' f12' : Int32) (n' : Nat) (f14' : Int32) (lf' : Int64) (wd' : Nat → Int64) (pa' : Nat → Int32) (rs' : Nat → Option Nat) (E' : Nat → Nat → Int32),
        (match mX4_translateByTables N L f1 f4 f6 f7 f8 f10 n f14 lf wd ho ro pa rs E p0 p1 with
        | (r_7, f2_7, f3_7, f4_7, f6_7, f7_7, rd_7, f10_7, f11_7, f12_7, n_7, f14_7, lf_7, wd_7, pa_7, rs_7, E_7) =>
          (.inr (r_7, f2_7, f3_7, f4_7, f5, f6_7, f7_7, rd_7, f10_7, f11_7, f12_7, n_7, f14_7, lf_7, wd_7, pa_7, rs_7, E_7) : Nat ⊕ (Int32 × Int32 × Int32 × Int32 × Int32 × Int32 × Int32 × Nat × Int32 × Int32 × Int32 × Nat × Int32 × Int64 × (Nat → Int64) × (Nat → Int32) × (Nat → Option Nat) × (Nat → Nat → Int32)))) = .inr (r, f2', f3', f4', f5', f6', f7', rd', f10', f11', f12', n', f14', lf', wd', pa', rs', E') ∧
        WREL L N LP us r f2' f3' f4' f5' f6' f7' n' f14' wd' rs' E' (mTab L N wd f1 ro ho f8 n us eC eL eB eF eR eU eX f4 f5 f6 f7 f14 fa lg cm wa p0 p1) := by
      cases hT : mX4_translateByTables N L f1 f4 f6 f7 f8 f10 n f14 lf wd ho ro pa rs E p0 p1 with
      | mk r z =>
        obtain ⟨f2', f3', f4', f6', f7', rd', f10', f11', f12', n', f14', lf', wd', pa', rs', E'⟩ := z
        exact ⟨_, _, _, _, _, _, _, _, _, _, _, _, _, _, _, _, _, _, rfl, tab_rel (fa := fa) (lg := lg) (cm := cm) (wa := wa) (f5 := f5) hL1 hL4 h0 hh hro hF0 hu hE hl hT.symm⟩
    rw [← outside_eq hL4]
    obtain ⟨hR, hn, hU, hF, so, hS, hes⟩ := hE
    by_cases c2 : mX3_isOutside L p0 = 0
    · rw [if_pos c2]
      obtain ⟨P, -, hP, hp0⟩ := outside_in hL4 c2
      rcases find_rel (c := f1) (p := p0) hS hes hF with ⟨a1, a2⟩ | ⟨k, e, hk, he, a1, a2, a3, a4⟩
      · rw [a1]
        rw [show mEF f1 eC eL eB eU p0 n 0 none = none from a2]
        exact tab
      · rw [a1]
        rw [show mEF f1 eC eL eB eU p0 n 0 none = some e from a2]
        dsimp only
        rw [if_neg (nI_nm1 (by omega))]
        obtain ⟨g, b, F, R, -, -, -, -, -, -, hRl, e4, -⟩ := hF _ (List.mem_of_getElem? (lsC_get hk))
        have y4 : E 4 (rowA rs k) = nI R := e4
        have m4 : eR e = nI R := ((congrArg (fun z : Ent => z.2.2.2.2.1) a4).symm).trans e4
        have m5 : E 5 (rowA rs k) = eX e := congrArg (fun z : Ent => z.2.2.2.2.2) a4
        have hby : ∃ (r f2' f3' f4' f5' f6' f7' : Int32) (rd' : Nat) (f10' f11' f12' : Int32) (n' : Nat) (f14' : Int32) (lf' : Int64) (wd' : Nat → Int64) (pa' : Nat → Int32) (rs' : Nat → Option Nat) (E' : Nat → Nat → Int32),
            (match mX4_translateByEntry L f5 f7 f8 ho rs E k p0 p1 with
            | (r_12, f2_12, f3_12, f5_12, f7_12, rs_12) =>
              (.inr (r_12, f2_12, f3_12, f4, f5_12, f6, f7_12, rd, f10, f11, f12, n, f14, lf, wd, pa, rs_12, E) : Nat ⊕ (Int32 × Int32 × Int32 × Int32 × Int32 × Int32 × Int32 × Nat × Int32 × Int32 × Int32 × Nat × Int32 × Int64 × (Nat → Int64) × (Nat → Int32) × (Nat → Option Nat) × (Nat → Nat → Int32)))) = .inr (r, f2', f3', f4', f5', f6', f7', rd', f10', f11', f12', n', f14', lf', wd', pa', rs', E') ∧
            WREL L N LP us r f2' f3' f4' f5' f6' f7' n' f14' wd' rs' E' (mBy L wd ho f8 n us eC eL eB eF eR eU eX f4 f5 f6 f7 f14 ff fa mn lg cm wa e p0 p1) := by
          cases hT : mX4_translateByEntry L f5 f7 f8 ho rs E k p0 p1 with
          | mk r z =>
            obtain ⟨f2', f3', f5', f7', rs'⟩ := z
            exact ⟨_, _, _, _, _, _, _, _, _, _, _, _, _, _, _, _, _, _, rfl, by_rel (wd := wd) hL4 hh hu hR hn hU hF hS hes hl hk he a3 a4 hP hp0 hT.symm⟩
        have hneed : mX4_needsChangedMark E (rowA rs k) p1 = 0 ↔ ¬ ((p1 - p1 / (3 : Int32) * (3 : Int32)) = (1 : Int32) ∧ eX e = 0 ∧ ¬ mX5_does (eR e) p1 = 0) := by
          unfold mX4_needsChangedMark mX4_isWrite
          rw [m5, y4, m4, allows_does hRl]
          by_cases d1 : (p1 - p1 / (3 : Int32) * (3 : Int32)) = (1 : Int32)
          · rw [if_pos d1, if_neg (show ¬ (1 : Int32) = 0 by decide)]
            by_cases d2 : eX e = 0
            · rw [if_pos d2]
              by_cases d3 : mX5_does (nI R) p1 = 0
              · rw [if_pos d3]
                exact ⟨fun _ q => q.2.2 d3, fun _ => rfl⟩
              · rw [if_neg d3]
                exact ⟨fun q => absurd q (by decide), fun q => absurd ⟨d1, d2, d3⟩ q⟩
            · rw [if_neg d2]
              exact ⟨fun _ q => d2 q.2.1, fun _ => rfl⟩
          · rw [if_neg d1, if_pos rfl]
            exact ⟨fun _ q => d1 q.1, fun _ => rfl⟩
        by_cases c3 : mX4_needsChangedMark E (rowA rs k) p1 = 0
        · rw [if_pos c3, if_neg (hneed.mp c3)]
          exact hby
        · rw [if_neg c3, if_pos (Classical.byContradiction (fun q => c3 (hneed.mpr q)))]
          exact tab
    · rw [if_neg c2, out_find hL4 hF hl c2]
      exact tab
end WALK

/-! the class's way through the tables and the reference's -/
theorem lvl {l9 b L : Nat} (h : l9 + b + 1 = L) : (nI L - (1 : Int32)) - nI b = nI l9 := by
  rw [nI_sub1 L (by omega)]
  rw [pk_sub (by omega)]
  congr 1
  omega
def FW (L : Nat) (wd : Nat → Int64) (x : Int32 × Nat × Int64 × Int32 × Int32 × Int32 × (Nat → Int32)) (y : Int32 × Int32 × Int32 × Nat × Int32 × Int32 × (Nat → Int32)) : Prop :=
  y.2.2.2.1 = x.2.1 ∧ (∀ i, i < x.2.1 → x.2.2.2.2.2.2 i = y.2.2.2.2.2.2 i) ∧
  ((x.1 = 0 ∧ y.1 = 1 ∧ 1 ≤ x.2.1 ∧ x.2.2.1 = wd (x.2.2.2.2.2.2 (x.2.1 - 1)).toNatClampNeg ∧ (∃ g, g < L ∧ x.2.2.2.1 = nI g ∧ y.2.2.2.2.1 = nI g) ∧ (∃ q, q < 2 ^ 31 ∧ x.2.2.2.2.2.1 = nI q ∧ y.2.2.2.2.2.1 = nI q)) ∨
   (¬ x.1 = 0 ∧ y.1 = 0 ∧ y.2.1 = x.1 ∧ y.2.2.1 = x.2.2.2.2.1 ∧ x.2.2.2.2.2.1 = (-1 : Int32)))
section GOES
variable {L : Nat} {mm : Nat → Int64} {mh : Nat → Int32} {f8 ff fa : Int32} {mn : Nat} {wa : Nat → Int32} {x p2 p3 : Int32} {l9 : Nat}
theorem goes_no (h : mX5_mapped mh f8 x = (-1 : Int32)) : mX5_goes L mm mh f8 ff fa mn wa x l9 p2 p3 = ((0 : Int32), (6 : Int32), nI l9, mn, (-1 : Int32), wa) := by
  unfold mX5_goes
  rw [h, if_neg (by decide)]
  rfl
theorem goes_big {h : Nat} (h1 : mX5_mapped mh f8 x = nI h) (h2 : 256 ≤ h) (h3 : h < 2 ^ 21) : mX5_goes L mm mh f8 ff fa mn wa x l9 p2 p3 = ((0 : Int32), (5 : Int32), nI l9, mn, (-1 : Int32), wa) := by
  unfold mX5_goes
  rw [h1, if_pos (nI_pos' (by omega)), if_neg (show ¬ nI h < (256 : Int32) from (nI_nlt h2 (by omega) : ¬ nI h < nI 256))]
  rfl
/-- the word's place -/
def atW (h : Nat) (p2 : Int32) (b : Nat) : Int32 := ((16 : Int32) * nI h) + ((p2 >>> (((8 : Int32) + ((4 : Int32) * (nI b))) &&& 31)) &&& (15 : Int32))
theorem goes_in {h b : Nat} (h1 : mX5_mapped mh f8 x = nI h) (h2 : h < 256) (hb : L - 1 - l9 = b) (hb4 : b ≤ 3) :
    mX5_goes L mm mh f8 ff fa mn wa x l9 p2 p3 =
      (if lg_cmp (mm (atW h p2 b).toNatClampNeg &&& (1 : Int64)) (0 : Int64) = 0 then ((0 : Int32), (2 : Int32), nI l9, mn + 1, (-1 : Int32), upd wa mn (atW h p2 b))
      else if 0 < b ∧ lg_cmp (mm (atW h p2 b).toNatClampNeg &&& (32 : Int64)) (0 : Int64) = 0 then ((1 : Int32), ff, fa, mn + 1, (-1 : Int32), upd wa mn (atW h p2 b))
      else if (mX5_frameOf (mm (atW h p2 b).toNatClampNeg) - mX5_frameOf (mm (atW h p2 b).toNatClampNeg) / ((1 : Int32) <<< (((4 : Int32) * (nI b)) &&& 31)) * ((1 : Int32) <<< (((4 : Int32) * (nI b)) &&& 31))) = 0 then
        (if mX5_does (mX5_rightsOf (mm (atW h p2 b).toNatClampNeg)) p3 = 0 then ((0 : Int32), (3 : Int32), nI l9, mn + 1, (-1 : Int32), upd wa mn (atW h p2 b)) else ((1 : Int32), ff, fa, mn + 1, nI b, upd wa mn (atW h p2 b)))
      else ((0 : Int32), (4 : Int32), nI l9, mn + 1, (-1 : Int32), upd wa mn (atW h p2 b))) := by
  unfold mX5_goes
  rw [hb, h1, if_pos (nI_pos' (by omega)), if_pos (show nI h < (256 : Int32) from (nI_lt h2 (by decide) : nI h < nI 256))]
  show (if lg_cmp (mm (atW h p2 b).toNatClampNeg &&& (1 : Int64)) (0 : Int64) = 0 then _ else _) = _
  by_cases c1 : lg_cmp (mm (atW h p2 b).toNatClampNeg &&& (1 : Int64)) (0 : Int64) = 0
  · rw [if_pos c1, if_pos c1]
    rfl
  · rw [if_neg c1, if_neg c1]
    show (if lg_cmp (mm (atW h p2 b).toNatClampNeg &&& (32 : Int64)) (0 : Int64) = 0 then _ else _) = _
    obtain ⟨F, hF, hFe⟩ := frame_nI (mm (atW h p2 b).toNatClampNeg)
    have z : b = 0 → (mX5_frameOf (mm (atW h p2 b).toNatClampNeg) - mX5_frameOf (mm (atW h p2 b).toNatClampNeg) / ((1 : Int32) <<< (((4 : Int32) * (nI b)) &&& 31)) * ((1 : Int32) <<< (((4 : Int32) * (nI b)) &&& 31))) = 0 := by
      intro e
      rw [hFe]
      subst e
      rw [show ((1 : Int32) <<< (((4 : Int32) * (nI 0)) &&& 31)) = nI 1 by decide, pk_rem (by omega) (by decide) (by decide), Nat.mod_one]
      rfl
    by_cases c2 : lg_cmp (mm (atW h p2 b).toNatClampNeg &&& (32 : Int64)) (0 : Int64) = 0
    · rw [if_pos c2]
      by_cases c3 : b = 0
      · rw [if_pos (show nI b ≤ 0 by rw [c3]; decide), if_neg (show ¬ (0 < b ∧ lg_cmp (mm (atW h p2 b).toNatClampNeg &&& (32 : Int64)) (0 : Int64) = 0) from fun q => absurd q.1 (by omega)), if_pos (z c3)]
        rfl
      · rw [if_neg (nI_nle (by omega) (by omega)), if_pos (show 0 < b ∧ lg_cmp (mm (atW h p2 b).toNatClampNeg &&& (32 : Int64)) (0 : Int64) = 0 from ⟨by omega, c2⟩)]
        rfl
    · rw [if_neg c2]
      by_cases c3 : b = 0
      · rw [if_pos (show nI b ≤ 0 by rw [c3]; decide), if_neg (show ¬ (0 < b ∧ lg_cmp (mm (atW h p2 b).toNatClampNeg &&& (32 : Int64)) (0 : Int64) = 0) from fun q => absurd q.1 (by omega)), if_pos (z c3)]
        rfl
      · rw [if_neg (nI_nle (by omega) (by omega)), if_neg (show ¬ (0 < b ∧ lg_cmp (mm (atW h p2 b).toNatClampNeg &&& (32 : Int64)) (0 : Int64) = 0) from fun q => c2 q.2)]
        rfl
end GOES
section READ
variable {f8 : Int32} {rd : Nat} {lf : Int64} {wd : Nat → Int64} {ho pa : Nat → Int32} {x p1 : Int32} {b : Nat}
theorem read_no (h : mX5_mapped ho f8 x = (-1 : Int32)) : mX3_read f8 rd lf wd ho pa x (p1 >>> (mX4_bitsBelow (nI b) &&& 31)) = ((6 : Int32), rd, lf, pa) := by
  unfold mX3_read
  rw [home_eq, h, if_pos rfl]
theorem nI_nm1 {h : Nat} (h3 : h < 2 ^ 31) : ¬ nI h = (-1 : Int32) := fun e9 => nI_pos h3 (by rw [e9]; decide)
theorem read_big {h : Nat} (h1 : mX5_mapped ho f8 x = nI h) (h2 : 256 ≤ h) (h3 : h < 2 ^ 21) : mX3_read f8 rd lf wd ho pa x (p1 >>> (mX4_bitsBelow (nI b) &&& 31)) = ((5 : Int32), rd, lf, pa) := by
  unfold mX3_read
  rw [home_eq, h1, if_neg (nI_nm1 (by omega)), if_neg (show ¬ nI h < (256 : Int32) from (nI_nlt h2 (by omega) : ¬ nI h < nI 256))]
theorem read_in {h : Nat} (h1 : mX5_mapped ho f8 x = nI h) (h2 : h < 256) : mX3_read f8 rd lf wd ho pa x (p1 >>> (mX4_bitsBelow (nI b) &&& 31)) = ((if lg_cmp (wd (atW h p1 b).toNatClampNeg &&& (1 : Int64)) (0 : Int64) = 0 then (2 : Int32) else (0 : Int32)), rd + 1, wd (atW h p1 b).toNatClampNeg, upd pa rd (atW h p1 b)) := by
  unfold mX3_read
  rw [home_eq, h1, if_neg (nI_nm1 (by omega)), if_pos (show nI h < (256 : Int32) from (nI_lt h2 (by decide) : nI h < nI 256)), show (nI h * (16 : Int32)) + ((p1 >>> (mX4_bitsBelow (nI b) &&& 31)) &&& (15 : Int32)) = atW h p1 b by unfold atW mX4_bitsBelow; rw [Int32.mul_comm]]
  split <;> rfl
end READ
theorem upd_agree {pa wa : Nat → Int32} {rd : Nat} (h : ∀ i, i < rd → pa i = wa i) (v : Int32) : ∀ i, i < rd + 1 → upd pa rd v i = upd wa rd v i := by
  intro i hi
  by_cases e : i = rd
  · subst e
    rw [pk_us, pk_us]
  · rw [pk_un e, pk_un e]
    exact h i (by omega)
theorem mod4 : ∀ b : Nat, b ≤ 3 → ((1 : Int32) <<< (((4 : Int32) * (nI b)) &&& 31)) = nI (2 ^ (4 * b)) := by decide
theorem mod4p : ∀ b : Nat, b ≤ 3 → 2 ^ (4 * b) < 2 ^ 31 := by decide
section FOLT
variable {L : Nat} {f8 : Int32} {wd : Nat → Int64} {ho : Nat → Int32} {f10 k : Int32}
/-- at the leaf: the class's end against the reference's last step -/
theorem folT_wk (hh : HB ho) {b l9 P : Nat} (hL : l9 + b + 1 = L) (hL4 : L ≤ 4) (hP : P < 2 ^ 24) {rd : Nat} {lf : Int64} {pa wa : Nat → Int32} {at9 : Int32} (hlf : lf = wd at9.toNatClampNeg) (hpa : ∀ i, i < rd → pa i = wa i) {ff fa cm : Int32} :
    FW L wd (mFolT L f8 ho (nI P) k b (mX4_frameOf lf) (rd + 1) lf (upd pa rd at9))
      (if (mX5_frameOf lf - mX5_frameOf lf / ((1 : Int32) <<< (((4 : Int32) * (nI b)) &&& 31)) * ((1 : Int32) <<< (((4 : Int32) * (nI b)) &&& 31))) = 0 then
        (if mX5_does (mX5_rightsOf lf) k = 0 then ((0 : Int32), (3 : Int32), nI l9, rd + 1, (-1 : Int32), cm, upd wa rd at9)
        else match mX5_ends L ho f8 ff fa cm (mX5_frameOf lf) (nI b) (nI P) with
          | (r2, ff2, fa2, cm2) => (r2, ff2, fa2, rd + 1, nI b, cm2, upd wa rd at9))
      else ((0 : Int32), (4 : Int32), nI l9, rd + 1, (-1 : Int32), cm, upd wa rd at9)) := by
  obtain ⟨F, hF, hFe⟩ := frame_nI lf
  obtain ⟨R, hR, hRe⟩ := rights_nI lf
  unfold mFolT mX3_leafFault
  rw [frame_eq, rights_eq, hFe, hRe, pk_andN (n := F) (by omega) (4 * b) (mask4 b (by omega)), mod4 b (by omega), pk_rem (by omega) (Nat.two_pow_pos _) (mod4p b (by omega)), allows_does hR]
  have hag := upd_agree hpa at9
  have hlast : lf = wd ((upd pa rd at9) (rd + 1 - 1)).toNatClampNeg := by
    rw [show rd + 1 - 1 = rd from rfl, pk_us]
    exact hlf
  by_cases c1 : F % 2 ^ (4 * b) = 0
  · rw [c1, if_pos (show nI 0 = 0 from rfl), if_pos (show nI 0 = 0 from rfl)]
    by_cases c2 : mX5_does (nI R) k = 0
    · rw [if_pos c2, if_pos c2, if_neg (by decide)]
      exact ⟨rfl, hag, Or.inr ⟨by show ¬ (3 : Int32) = 0; decide, rfl, rfl, (lvl hL).symm, rfl⟩⟩
    · rw [if_neg c2, if_neg c2, if_pos rfl]
      rcases reach_ends (L := L) (f8 := f8) (ff := ff) (fa := fa) (cm := cm) hh hF (show b ≤ 3 by omega) hP with ⟨e1, e2⟩ | ⟨q, hq, e1, e2⟩
      · rw [e1, e2, if_pos rfl]
        exact ⟨rfl, hag, Or.inr ⟨by show ¬ (6 : Int32) = 0; decide, rfl, rfl, rfl, rfl⟩⟩
      · rw [e1, e2, if_neg (nI_nm1 hq)]
        exact ⟨rfl, hag, Or.inl ⟨rfl, rfl, by show 1 ≤ rd + 1; omega, hlast, ⟨b, by omega, rfl, rfl⟩, ⟨q, hq, rfl, rfl⟩⟩⟩
  · have hlt : F % 2 ^ (4 * b) < 2 ^ 31 := Nat.lt_of_le_of_lt (Nat.mod_le _ _) (by omega)
    rw [if_neg (nI_ne0 (by omega) hlt), if_neg (nI_ne0 (by omega) hlt), if_neg (by decide)]
    exact ⟨rfl, hag, Or.inr ⟨by show ¬ (4 : Int32) = 0; decide, rfl, rfl, (lvl hL).symm, rfl⟩⟩
theorem folL_wkL (hh : HB ho) {P : Nat} (hL4 : L ≤ 4) (hP : P < 2 ^ 24) : ∀ (b l9 F rd : Nat) (lf : Int64) (pa wa : Nat → Int32) (ff fa lg cm : Int32), l9 + b + 1 = L → F < 2 ^ 20 → (∀ i, i < rd → pa i = wa i) →
    FW L wd (mFolL L f8 wd ho (nI P) k f10 b (nI F) rd lf pa) (mWkL L wd ho f8 (nI P) k (b + 1) l9 (nI F) ff fa rd lg cm wa) := by
  intro b
  induction b with
  | zero =>
    intro l9 F rd lf pa wa ff fa lg cm hL hF hpa
    unfold mFolL mWkL
    rcases home_nI (f8 := f8) hh (F := F) (by omega) with e | ⟨h, hlt, e⟩
    · rw [read_no e, goes_no e]
      dsimp only
      rw [if_neg (by decide), if_pos rfl]
      exact ⟨rfl, hpa, Or.inr ⟨by show ¬ (6 : Int32) = 0; decide, rfl, rfl, (lvl (l9 := l9) (b := 0) hL).symm, rfl⟩⟩
    · by_cases hb : h < 256
      · rw [read_in e hb, goes_in e hb (show L - 1 - l9 = 0 by omega) (by omega)]
        dsimp only
        by_cases c1 : lg_cmp (wd (atW h (nI P) 0).toNatClampNeg &&& (1 : Int64)) (0 : Int64) = 0
        · rw [if_pos c1, if_pos c1]
          dsimp only
          rw [if_neg (by decide), if_pos rfl]
          exact ⟨rfl, upd_agree hpa _, Or.inr ⟨by show ¬ (2 : Int32) = 0; decide, rfl, rfl, (lvl (l9 := l9) (b := 0) hL).symm, rfl⟩⟩
        · rw [if_neg c1, if_neg c1, if_pos rfl, if_neg (show ¬ (0 < 0 ∧ lg_cmp (wd (atW h (nI P) 0).toNatClampNeg &&& (32 : Int64)) (0 : Int64) = 0) from fun q => absurd q.1 (by omega))]
          have key := folT_wk (l9 := l9) (b := 0) (L := L) (f8 := f8) (k := k) (ff := ff) (fa := fa) (cm := cm) hh hL hL4 hP (lf := wd (atW h (nI P) 0).toNatClampNeg) (at9 := atW h (nI P) 0) rfl hpa
          by_cases c3 : (mX5_frameOf (wd (atW h (nI P) 0).toNatClampNeg) - mX5_frameOf (wd (atW h (nI P) 0).toNatClampNeg) / ((1 : Int32) <<< (((4 : Int32) * (nI 0)) &&& 31)) * ((1 : Int32) <<< (((4 : Int32) * (nI 0)) &&& 31))) = 0
          · rw [if_pos c3] at key ⊢
            by_cases c4 : mX5_does (mX5_rightsOf (wd (atW h (nI P) 0).toNatClampNeg)) k = 0
            · rw [if_pos c4] at key ⊢
              dsimp only
              rw [if_pos rfl]
              exact key
            · rw [if_neg c4] at key ⊢
              dsimp only
              rw [if_neg (by decide), if_neg (nI_pos (by omega)), show rd + 1 - 1 = rd from rfl, pk_us]
              exact key
          · rw [if_neg c3] at key ⊢
            dsimp only
            rw [if_pos rfl]
            exact key
      · rw [read_big e (by omega) hlt, goes_big e (by omega) hlt]
        dsimp only
        rw [if_neg (by decide), if_pos rfl]
        exact ⟨rfl, hpa, Or.inr ⟨by show ¬ (5 : Int32) = 0; decide, rfl, rfl, (lvl (l9 := l9) (b := 0) hL).symm, rfl⟩⟩
  | succ b ih =>
    intro l9 F rd lf pa wa ff fa lg cm hL hF hpa
    unfold mFolL
    rw [show mWkL L wd ho f8 (nI P) k (b + 1 + 1) l9 (nI F) ff fa rd lg cm wa = (match mX5_goes L wd ho f8 ff fa rd wa (nI F) l9 (nI P) k with
      | (r, ff', fa', mn', lg', wa') => if r = 0 then ((0 : Int32), ff', fa', mn', lg', cm, wa')
        else if lg' < 0 then mWkL L wd ho f8 (nI P) k (b + 1) (l9 + 1) (mX5_frameOf (wd (wa' (mn' - 1)).toNatClampNeg)) ff' fa' mn' lg' cm wa'
        else match mX5_ends L ho f8 ff' fa' cm (mX5_frameOf (wd (wa' (mn' - 1)).toNatClampNeg)) lg' (nI P) with
          | (r2, ff2, fa2, cm2) => (r2, ff2, fa2, mn', lg', cm2, wa')) from rfl]
    rcases home_nI (f8 := f8) hh (F := F) (by omega) with e | ⟨h, hlt, e⟩
    · rw [read_no e, goes_no e]
      dsimp only
      rw [if_neg (by decide), if_pos rfl]
      exact ⟨rfl, hpa, Or.inr ⟨by show ¬ (6 : Int32) = 0; decide, rfl, rfl, (lvl hL).symm, rfl⟩⟩
    · by_cases hb : h < 256
      · rw [read_in e hb, goes_in e hb (show L - 1 - l9 = b + 1 by omega) (by omega)]
        dsimp only
        by_cases c1 : lg_cmp (wd (atW h (nI P) (b + 1)).toNatClampNeg &&& (1 : Int64)) (0 : Int64) = 0
        · rw [if_pos c1, if_pos c1]
          dsimp only
          rw [if_neg (by decide), if_pos rfl]
          exact ⟨rfl, upd_agree hpa _, Or.inr ⟨by show ¬ (2 : Int32) = 0; decide, rfl, rfl, (lvl hL).symm, rfl⟩⟩
        · rw [if_neg c1, if_neg c1, if_pos rfl]
          by_cases c2 : lg_cmp (wd (atW h (nI P) (b + 1)).toNatClampNeg &&& (32 : Int64)) (0 : Int64) = 0
          · rw [if_pos c2, if_pos (show 0 < b + 1 ∧ lg_cmp (wd (atW h (nI P) (b + 1)).toNatClampNeg &&& (32 : Int64)) (0 : Int64) = 0 from ⟨by omega, c2⟩)]
            dsimp only
            rw [if_neg (by decide), if_pos (by decide), show rd + 1 - 1 = rd from rfl, pk_us, frame_eq]
            obtain ⟨F2, hF2, hFe⟩ := frame_nI (wd (atW h (nI P) (b + 1)).toNatClampNeg)
            rw [hFe]
            exact ih (l9 + 1) F2 (rd + 1) _ _ _ _ _ _ _ (by omega) hF2 (upd_agree hpa _)
          · rw [if_neg c2, if_neg (show ¬ (0 < b + 1 ∧ lg_cmp (wd (atW h (nI P) (b + 1)).toNatClampNeg &&& (32 : Int64)) (0 : Int64) = 0) from fun q => c2 q.2)]
            have key := folT_wk (L := L) (f8 := f8) (k := k) (ff := ff) (fa := fa) (cm := cm) hh hL hL4 hP (lf := wd (atW h (nI P) (b + 1)).toNatClampNeg) (at9 := atW h (nI P) (b + 1)) rfl hpa
            by_cases c3 : (mX5_frameOf (wd (atW h (nI P) (b + 1)).toNatClampNeg) - mX5_frameOf (wd (atW h (nI P) (b + 1)).toNatClampNeg) / ((1 : Int32) <<< (((4 : Int32) * (nI (b + 1))) &&& 31)) * ((1 : Int32) <<< (((4 : Int32) * (nI (b + 1))) &&& 31))) = 0
            · rw [if_pos c3] at key ⊢
              by_cases c4 : mX5_does (mX5_rightsOf (wd (atW h (nI P) (b + 1)).toNatClampNeg)) k = 0
              · rw [if_pos c4] at key ⊢
                dsimp only
                rw [if_pos rfl]
                exact key
              · rw [if_neg c4] at key ⊢
                dsimp only
                rw [if_neg (by decide), if_neg (nI_pos (by omega)), show rd + 1 - 1 = rd from rfl, pk_us]
                exact key
            · rw [if_neg c3] at key ⊢
              dsimp only
              rw [if_pos rfl]
              exact key
      · rw [read_big e (by omega) hlt, goes_big e (by omega) hlt]
        dsimp only
        rw [if_neg (by decide), if_pos rfl]
        exact ⟨rfl, hpa, Or.inr ⟨by show ¬ (5 : Int32) = 0; decide, rfl, rfl, (lvl hL).symm, rfl⟩⟩
theorem fol_wk {f1 lg cm fa : Int32} {ro wa pa : Nat → Int32} {lf : Int64} {p : Int32} (hh : HB ho) (hL1 : 1 ≤ L) (hL4 : L ≤ 4) {F : Nat} (hro : ro f1.toNatClampNeg = nI F) (hF : F < 2 ^ 20) :
    FW L wd (mFol L f8 wd ho f10 lf pa (ro f1.toNatClampNeg) p k) (mWk L wd f1 ro ho f8 fa lg cm wa p k) := by
  unfold mFol mWk
  rw [← outside_eq hL4]
  by_cases c : mX3_isOutside L p = 0
  · rw [if_pos c, if_pos c, hro]
    obtain ⟨P, -, hP, rfl⟩ := outside_in hL4 c
    have h := folL_wkL (L := L) (f8 := f8) (wd := wd) (f10 := f10) (k := k) hh hL4 hP (L - 1) 0 F 0 lf pa wa 0 fa lg cm (by omega) hF (fun i hi => absurd hi (by omega))
    rw [show L - 1 + 1 = L by omega] at h
    exact h
  · rw [if_neg c, if_neg c]
    exact ⟨rfl, fun i hi => absurd hi (by show ¬ i < 0; omega), Or.inr ⟨by show ¬ (1 : Int32) = 0; decide, rfl, rfl, rfl, rfl⟩⟩
end FOLT

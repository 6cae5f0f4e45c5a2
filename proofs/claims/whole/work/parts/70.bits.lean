theorem bN (P : Nat) (h : P < 2 ^ 32) : (nI P).toBitVec.toNat = P := by
  show (BitVec.ofNat 32 P).toNat = P
  rw [BitVec.toNat_ofNat]
  exact Nat.mod_eq_of_lt h
theorem bInj {x y : Int32} (h : x.toBitVec.toNat = y.toBitVec.toNat) : x = y := Int32.toBitVec_inj.mp (BitVec.eq_of_toNat_eq h)
theorem nI_bits (x : Int32) : x = nI x.toBitVec.toNat := bInj (by rw [bN _ x.toBitVec.isLt])
theorem smod32 : ∀ s : Nat, s < 32 → (nI s).toBitVec.smod 32 = BitVec.ofNat 32 s := by decide
theorem sarB (x : Int32) {s : Nat} (hs : s < 32) : (x >>> nI s).toBitVec = x.toBitVec.sshiftRight s := by
  rw [Int32.toBitVec_shiftRight, smod32 s hs]
  show x.toBitVec.sshiftRight (BitVec.ofNat 32 s).toNat = _
  rw [BitVec.toNat_ofNat, Nat.mod_eq_of_lt (by omega)]
theorem msbF {P : Nat} (h : P < 2 ^ 31) : (nI P).toBitVec.msb = false := by
  rw [BitVec.msb_eq_decide, bN P (by omega)]
  simp only [decide_eq_false_iff_not]
  omega
theorem sarN {P s : Nat} (hP : P < 2 ^ 31) (hs : s < 32) : nI P >>> nI s = nI (P / 2 ^ s) := by
  apply bInj
  rw [sarB _ hs, BitVec.toNat_sshiftRight, msbF hP, if_neg (by simp), bN P (by omega), Nat.shiftRight_eq_div_pow, bN]
  exact Nat.lt_of_le_of_lt (Nat.div_le_self _ _) (by omega)
theorem u31 : ∀ s : Nat, s < 32 → ((nI s).toUInt32 &&& Int32.toUInt32 31) = UInt32.ofNat s := by decide
theorem jushrN (x : Int32) {s : Nat} (hs : s < 32) : jushr x (nI s) = nI (x.toBitVec.toNat / 2 ^ s) := by
  apply bInj
  rw [bN _ (Nat.lt_of_le_of_lt (Nat.div_le_self _ _) x.toBitVec.isLt)]
  unfold jushr
  rw [u31 s hs]
  show (x.toUInt32 >>> UInt32.ofNat s).toBitVec.toNat = _
  rw [UInt32.toBitVec_shiftRight]
  have e : ((UInt32.ofNat s).toBitVec % 32).toNat = s := by
    show ((BitVec.ofNat 32 s) % 32).toNat = s
    rw [BitVec.toNat_umod, BitVec.toNat_ofNat]
    show s % 2 ^ 32 % 32 = s
    omega
  rw [BitVec.ushiftRight_eq', BitVec.toNat_ushiftRight, e, Nat.shiftRight_eq_div_pow]
  rfl
theorem shlN {P s : Nat} (hs : s < 32) : nI P <<< nI s = nI (P * 2 ^ s) := by
  apply bInj
  rw [Int32.toBitVec_shiftLeft, smod32 s hs, BitVec.shiftLeft_eq', BitVec.toNat_shiftLeft, BitVec.toNat_ofNat, Nat.mod_eq_of_lt (show s < 2 ^ 32 by omega), Nat.shiftLeft_eq]
  show (BitVec.ofNat 32 P).toNat * 2 ^ s % 2 ^ 32 = (BitVec.ofNat 32 (P * 2 ^ s)).toNat
  rw [BitVec.toNat_ofNat, BitVec.toNat_ofNat, Nat.mod_mul_mod]
theorem nI_mul (a b : Nat) : nI a * nI b = nI (a * b) := (Int32.ofNat_mul a b).symm
theorem nI_sub1 (a : Nat) (h : 0 < a) : nI a - 1 = nI (a - 1) := by
  obtain ⟨b, rfl⟩ : ∃ b, a = b + 1 := ⟨a - 1, by omega⟩
  exact nI_pred b
theorem nI_ofP {x : Int32} (h : ¬ x < 0) : ∃ P, P < 2 ^ 31 ∧ x = nI P := by
  refine ⟨x.toBitVec.toNat, ?_, nI_bits x⟩
  rw [Int32.lt_iff_toInt_lt] at h
  have h1 : x.toInt = x.toBitVec.toInt := rfl
  rw [h1, BitVec.toInt_eq_toNat_cond] at h
  have h0 : (0 : Int32).toInt = 0 := rfl
  rw [h0] at h
  have := x.toBitVec.isLt
  split at h <;> omega
theorem neg_bits {x : Int32} (h : x < 0) : 2 ^ 31 ≤ x.toBitVec.toNat := by
  rw [Int32.lt_iff_toInt_lt] at h
  have h1 : x.toInt = x.toBitVec.toInt := rfl
  rw [h1, BitVec.toInt_eq_toNat_cond] at h
  have h0 : (0 : Int32).toInt = 0 := rfl
  rw [h0] at h
  have := x.toBitVec.isLt
  split at h <;> omega
theorem sar_neg {x : Int32} (h : x < 0) {s : Nat} (hs : s < 32) : x >>> nI s < 0 := by
  have hm : x.toBitVec.msb = true := by
    rw [BitVec.msb_eq_decide]
    have := neg_bits h
    simpa using this
  rw [Int32.lt_iff_toInt_lt]
  show (x >>> nI s).toBitVec.toInt < 0
  rw [sarB _ hs, BitVec.toInt_sshiftRight]
  have h2 : x.toBitVec.toInt < 0 := by
    rw [Int32.lt_iff_toInt_lt] at h
    exact h
  rw [Int.shiftRight_eq_div_pow]
  exact Int.ediv_neg_of_neg_of_pos h2 (by exact_mod_cast Nat.two_pow_pos s)
theorem bb : ∀ b : Nat, b ≤ 4 → (((8 : Int32) + ((4 : Int32) * nI b)) &&& 31) = nI (8 + 4 * b) := by decide
theorem b4 : ∀ b : Nat, b ≤ 4 → (((4 : Int32) * nI b) &&& 31) = nI (4 * b) := by decide
theorem bs : ∀ b : Nat, b ≤ 4 → ((8 : Int32) + ((4 : Int32) * nI b)) = nI (8 + 4 * b) := by decide
theorem W64 (w : Int64) : ((jlushr w (8 : Int32)).toInt32).toBitVec.toNat % 2 ^ 20 = ((jlshr w (8 : Int32)).toInt32).toBitVec.toNat % 2 ^ 20 := by
  have e1 : ((8 : Int32).toInt64 &&& 63) = (8 : Int64) := by decide
  have e2 : ((8 : Int32).toInt64.toUInt64 &&& Int64.toUInt64 63) = (8 : UInt64) := by decide
  unfold jlushr jlshr
  rw [e1, e2, Int64.toBitVec_toInt32, Int64.toBitVec_toInt32, UInt64.toBitVec_toInt64, UInt64.toBitVec_shiftRight, Int64.toBitVec_shiftRight]
  have e3 : ((8 : UInt64).toBitVec % 64) = 8#64 := by decide
  have e4 : ((8 : Int64).toBitVec.smod 64) = 8#64 := by decide
  rw [e3, e4, BitVec.signExtend_eq_setWidth_of_le _ (by decide), BitVec.signExtend_eq_setWidth_of_le _ (by decide), BitVec.toNat_setWidth, BitVec.toNat_setWidth, BitVec.ushiftRight_eq', BitVec.toNat_ushiftRight]
  show _ = (w.toBitVec.sshiftRight 8).toNat % 2 ^ 32 % 2 ^ 20
  rw [BitVec.toNat_sshiftRight]
  show w.toBitVec.toNat >>> 8 % 2 ^ 32 % 2 ^ 20 = _
  rw [Nat.shiftRight_eq_div_pow, Nat.shiftRight_eq_div_pow]
  have := w.toBitVec.isLt
  split <;> omega
theorem W64r (w : Int64) : ((jlushr w (1 : Int32)).toInt32).toBitVec.toNat % 2 ^ 4 = ((jlshr w (1 : Int32)).toInt32).toBitVec.toNat % 2 ^ 4 := by
  have e1 : ((1 : Int32).toInt64 &&& 63) = (1 : Int64) := by decide
  have e2 : ((1 : Int32).toInt64.toUInt64 &&& Int64.toUInt64 63) = (1 : UInt64) := by decide
  unfold jlushr jlshr
  rw [e1, e2, Int64.toBitVec_toInt32, Int64.toBitVec_toInt32, UInt64.toBitVec_toInt64, UInt64.toBitVec_shiftRight, Int64.toBitVec_shiftRight]
  have e3 : ((1 : UInt64).toBitVec % 64) = 1#64 := by decide
  have e4 : ((1 : Int64).toBitVec.smod 64) = 1#64 := by decide
  rw [e3, e4, BitVec.signExtend_eq_setWidth_of_le _ (by decide), BitVec.signExtend_eq_setWidth_of_le _ (by decide), BitVec.toNat_setWidth, BitVec.toNat_setWidth, BitVec.ushiftRight_eq', BitVec.toNat_ushiftRight]
  show _ = (w.toBitVec.sshiftRight 1).toNat % 2 ^ 32 % 2 ^ 4
  rw [BitVec.toNat_sshiftRight]
  show w.toBitVec.toNat >>> 1 % 2 ^ 32 % 2 ^ 4 = _
  rw [Nat.shiftRight_eq_div_pow, Nat.shiftRight_eq_div_pow]
  have := w.toBitVec.isLt
  split <;> omega

/-! the class's and the reference's small functions -/
theorem frame_eq (w : Int64) : mX4_frameOf w = mX5_frameOf w := by
  unfold mX4_frameOf mX5_frameOf
  rw [pk_and _ 20 (by decide), pk_and _ 20 (by decide), W64]
theorem frame_nI (w : Int64) : ∃ F, F < 2 ^ 20 ∧ mX5_frameOf w = nI F := pk_andE _ 20 (by decide)
theorem rights_eq (w : Int64) : mX4_rightsOf w = mX5_rightsOf w := by
  unfold mX4_rightsOf mX5_rightsOf
  rw [pk_and _ 4 (by decide), pk_and _ 4 (by decide), W64r]
theorem rights_nI (w : Int64) : ∃ R, R < 16 ∧ mX5_rightsOf w = nI R := pk_andE _ 4 (by decide)
theorem and8 : ∀ R : Nat, R < 16 → (nI R &&& (8 : Int32)) = 0 ∨ (nI R &&& (8 : Int32)) = 8 := by decide
theorem allows_does {R : Nat} (hR : R < 16) (k : Int32) : mX4_allows (nI R) k = mX5_does (nI R) k := by
  unfold mX4_allows mX5_does
  obtain ⟨j, hj, e⟩ := pk_andE ((nI R) >>> ((k - k / (3 : Int32) * (3 : Int32)) &&& 31)) (m := (1 : Int32)) 1 (by decide)
  rw [e]
  rcases (show j = 0 ∨ j = 1 by omega) with rfl | rfl
  · rw [if_pos (show nI 0 = 0 by decide), if_neg (show ¬ nI 0 = 1 by decide)]
    repeat' split
    all_goals rfl
  · rw [if_neg (show ¬ nI 1 = 0 by decide), if_pos (show nI 1 = 1 by decide)]
    rcases and8 R hR with h | h
    · rw [if_pos h, if_neg (show ¬ (nI R &&& (8 : Int32)) = 8 by rw [h]; decide)]
    · rw [if_neg (show ¬ (nI R &&& (8 : Int32)) = 0 by rw [h]; decide), if_pos h]
def HB (ho : Nat → Int32) : Prop := ∀ j, j < 256 → ho j = (-1 : Int32) ∨ ∃ h, h ≤ 65535 ∧ ho j = nI h
theorem HB.ok {ho : Nat → Int32} (h : HB ho) : HOK ho := fun j hj => by
  rcases h j hj with e | ⟨q, hq, e⟩
  · exact Or.inl e
  · exact Or.inr (by rw [e]; exact nI_pos (by omega))
theorem home_eq (f8 : Int32) (ho : Nat → Int32) (x : Int32) : mX2_homeOf f8 ho x = mX5_mapped ho f8 x := by
  unfold mX2_homeOf mX5_mapped mX5_isOf
  by_cases h0 : f8 = 0
  · rw [if_pos h0, if_pos h0]
  · rw [if_neg h0, if_neg h0]
    by_cases h1 : x < 0
    · rw [if_pos h1, if_pos h1, if_pos rfl]
    · rw [if_neg h1, if_neg h1]
      by_cases h2 : (256 : Int32) ≤ x
      · rw [if_pos h2, if_pos h2, if_pos rfl]
      · rw [if_neg h2, if_neg h2, if_neg (by decide)]
theorem home_nI {f8 : Int32} {ho : Nat → Int32} (hh : HB ho) {F : Nat} (hF : F < 2 ^ 21) : mX5_mapped ho f8 (nI F) = (-1 : Int32) ∨ ∃ h, h < 2 ^ 21 ∧ mX5_mapped ho f8 (nI F) = nI h := by
  unfold mX5_mapped mX5_isOf
  by_cases h0 : f8 = 0
  · rw [if_pos h0]
    exact Or.inr ⟨F, hF, rfl⟩
  · rw [if_neg h0, if_neg (nI_pos (by omega))]
    by_cases h2 : (256 : Int32) ≤ nI F
    · rw [if_pos h2, if_pos rfl]
      exact Or.inl rfl
    · rw [if_neg h2, if_neg (by decide), nI_clamp (by omega)]
      have hF2 : F < 256 := by
        have := mt (nI_leI (a := 256) (b := F) (by decide) (by omega)).mpr h2
        omega
      rcases hh F hF2 with e | ⟨q, hq, e⟩
      · exact Or.inl e
      · exact Or.inr ⟨q, by omega, e⟩
theorem mask8 : ∀ g : Nat, g ≤ 4 → (((1 : Int32) <<< (((8 : Int32) + ((4 : Int32) * nI g)) &&& 31)) - (1 : Int32)).toBitVec.toNat = 2 ^ (8 + 4 * g) - 1 := by decide
theorem mask4 : ∀ g : Nat, g ≤ 4 → (((1 : Int32) <<< (((4 : Int32) * nI g) &&& 31)) - (1 : Int32)).toBitVec.toNat = 2 ^ (4 * g) - 1 := by decide
theorem pageN {g P : Nat} (hg : g ≤ 3) : P % 2 ^ (8 + 4 * g) / 2 ^ 8 = P / 2 ^ 8 % 2 ^ (4 * g) := by
  rcases (show g = 0 ∨ g = 1 ∨ g = 2 ∨ g = 3 by omega) with rfl | rfl | rfl | rfl <;> omega
theorem page_cls {g P : Nat} (hg : g ≤ 3) (hP : P < 2 ^ 24) : ((nI P &&& (((1 : Int32) <<< ((mX4_bitsBelow (nI g)) &&& 31)) - (1 : Int32))) >>> ((8 : Int32) &&& 31)) = nI (P / 2 ^ 8 % 2 ^ (4 * g)) := by
  unfold mX4_bitsBelow
  rw [pk_andN (by omega) (8 + 4 * g) (mask8 g (by omega)), show ((8 : Int32) &&& 31) = nI 8 by decide, sarN (Nat.lt_of_le_of_lt (Nat.mod_le _ _) (by omega)) (by omega), pageN hg]
theorem page_mod {g P : Nat} (hg : g ≤ 3) (hP : P < 2 ^ 24) : mX5_behind (nI P) (nI g) = nI (P / 2 ^ 8 % 2 ^ (4 * g)) := by
  unfold mX5_behind
  rw [show ((8 : Int32) &&& 31) = nI 8 by decide, sarN (by omega) (by omega), pk_andN (by omega) (4 * g) (mask4 g (by omega))]
theorem reach_ends {L : Nat} {f8 ff fa cm : Int32} {ho : Nat → Int32} (hh : HB ho) {F g P : Nat} (hF : F < 2 ^ 20) (hg : g ≤ 3) (hP : P < 2 ^ 24) :
    (mX2_reach f8 ho (nI F) (nI g) (nI P) = (-1 : Int32) ∧ mX5_ends L ho f8 ff fa cm (nI F) (nI g) (nI P) = ((0 : Int32), (6 : Int32), nI L, cm)) ∨
    (∃ q, q < 2 ^ 31 ∧ mX2_reach f8 ho (nI F) (nI g) (nI P) = nI q ∧ mX5_ends L ho f8 ff fa cm (nI F) (nI g) (nI P) = ((1 : Int32), ff, fa, nI q)) := by
  unfold mX2_reach mX5_ends
  rw [page_cls hg hP, page_mod hg hP, nI_add, home_eq]
  have hpg : P / 2 ^ 8 % 2 ^ (4 * g) < 2 ^ 16 := Nat.lt_of_le_of_lt (Nat.mod_le _ _) (by omega)
  rcases home_nI (f8 := f8) hh (F := F + P / 2 ^ 8 % 2 ^ (4 * g)) (by omega) with e | ⟨h, hlt, e⟩
  · rw [e]
    exact Or.inl ⟨if_pos rfl, if_neg (by decide)⟩
  · rw [e]
    have e2 : ¬ nI h = (-1 : Int32) := fun e9 => nI_pos (n := h) (by omega) (by rw [e9]; decide)
    rw [if_neg e2, if_pos (nI_pos' (by omega)), show ((8 : Int32) &&& 31) = nI 8 by decide, shlN (by omega), pk_andN (n := P) (by omega) (m := (255 : Int32)) 8 (by decide), nI_add, show (256 : Int32) = nI 256 from rfl, nI_mul, nI_add, Nat.mul_comm 256 h]
    refine Or.inr ⟨h * 2 ^ 8 + P % 2 ^ 8, by omega, rfl, rfl⟩
theorem outN : ∀ L : Nat, L ≤ 4 → ((1 : Int32) <<< (((8 : Int32) + ((4 : Int32) * nI L)) &&& 31)) = nI (2 ^ (8 + 4 * L)) := by decide
theorem outP : ∀ L : Nat, L ≤ 4 → 2 ^ (8 + 4 * L) ≤ 2 ^ 24 := by decide
theorem outside_eq {L : Nat} (hL : L ≤ 4) (x : Int32) : mX3_isOutside L x = mX5_isOutside L x := by
  unfold mX3_isOutside mX5_isOutside mX4_bitsBelow
  by_cases h0 : x < 0
  · rw [if_pos h0, if_pos h0]
  · rw [if_neg h0, if_neg h0]
    obtain ⟨P, hP, rfl⟩ := nI_ofP h0
    have hp := outP L hL
    have hq : P / 2 ^ (8 + 4 * L) < 2 ^ 31 := Nat.lt_of_le_of_lt (Nat.div_le_self _ _) hP
    rw [outN L hL, bb L hL, sarN hP (by omega)]
    by_cases h1 : P < 2 ^ (8 + 4 * L)
    · rw [if_pos (nI_lt h1 (by omega)), Nat.div_eq_of_lt h1, if_pos (by decide)]
    · rw [if_neg (nI_nlt (by omega) (by omega)), if_neg (nI_nle (Nat.div_pos (by omega) (Nat.two_pow_pos _)) hq)]
theorem outside_in {L : Nat} (hL : L ≤ 4) {x : Int32} (h : mX3_isOutside L x = 0) : ∃ P, P < 2 ^ (8 + 4 * L) ∧ P < 2 ^ 24 ∧ x = nI P := by
  unfold mX3_isOutside mX4_bitsBelow at h
  by_cases h0 : x < 0
  · rw [if_pos h0] at h
    exact absurd h (by decide)
  · rw [if_neg h0] at h
    obtain ⟨P, hP, rfl⟩ := nI_ofP h0
    have hp := outP L hL
    rw [outN L hL] at h
    by_cases h1 : nI P < nI (2 ^ (8 + 4 * L))
    · have := (nI_ltI hP (by omega)).mp h1
      exact ⟨P, this, by omega, rfl⟩
    · rw [if_neg h1] at h
      exact absurd h (by decide)

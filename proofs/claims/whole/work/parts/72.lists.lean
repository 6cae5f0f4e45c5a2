/-! entries as lists -/
abbrev Ent : Type := Int32 × Int32 × Int32 × Int32 × Int32 × Int32
def entE (E : Nat → Nat → Int32) (y : Nat) : Ent := (E 0 y, E 1 y, E 2 y, E 3 y, E 4 y, E 5 y)
def lsC (n : Nat) (rs : Nat → Option Nat) (E : Nat → Nat → Int32) : List Ent := (List.range n).map (fun i => entE E (rowA rs i))
def entM (x : EST) (e : Nat) : Int32 × Ent := (x.2.2.2.2.2.2.1 e, (x.2.1 e, x.2.2.1 e, x.2.2.2.1 e, x.2.2.2.2.1 e, x.2.2.2.2.2.1 e, x.2.2.2.2.2.2.2 e))
def lsM (x : EST) : List (Int32 × Ent) := (List.range x.1).map (entM x)
def ROK (N : Nat) (LP : List Nat) (rs : Nat → Option Nat) : Prop := (∀ i, i < N → rs i = some (rowA rs i) ∧ rowA rs i ∈ LP) ∧ ∀ i j, i < N → j < N → rowA rs i = rowA rs j → i = j
section LS
variable {α : Type}
theorem map_off {m e : Nat} {f : Nat → α} {v : α} (h : m ≤ e) : (List.range m).map (fun j => if j = e then v else f j) = (List.range m).map f := by
  apply List.map_congr_left
  intro j hj
  have := List.mem_range.mp hj
  exact if_neg (by omega)
theorem ls_pick (f : Nat → α) (e : Nat) : ∀ m, e < m → ∃ l : List α, ((List.range m).map f).Perm (f e :: l) ∧ ∀ v, ((List.range m).map (fun j => if j = e then v else f j)).Perm (v :: l)
  | 0, h => absurd h (by omega)
  | m + 1, h => by
    by_cases c : e = m
    · subst c
      refine ⟨(List.range e).map f, ?_, fun v => ?_⟩
      · rw [List.range_succ, List.map_append]
        exact List.perm_append_singleton _ _
      · rw [List.range_succ, List.map_append, map_off (Nat.le_refl e)]
        rw [show List.map (fun j => if j = e then v else f j) [e] = [v] by simp]
        exact List.perm_append_singleton _ _
    · obtain ⟨l, h1, h2⟩ := ls_pick f e m (by omega)
      refine ⟨l ++ [f m], ?_, fun v => ?_⟩
      · rw [List.range_succ, List.map_append]
        exact List.Perm.append_right _ h1
      · rw [List.range_succ, List.map_append]
        rw [show List.map (fun j => if j = e then v else f j) [m] = [f m] by simp; intro h9; exact absurd h9.symm c]
        exact List.Perm.append_right _ (h2 v)
theorem ls_drop (f : Nat → α) (e m : Nat) (h : e < m + 1) : ((List.range (m + 1)).map f).Perm (f e :: (List.range m).map (fun j => if j = e then f m else f j)) := by
  rw [List.range_succ, List.map_append]
  by_cases c : e = m
  · subst c
    rw [map_off (Nat.le_refl e)]
    exact List.perm_append_singleton _ _
  · obtain ⟨l, h1, h2⟩ := ls_pick f e m (by omega)
    refine (List.Perm.append_right _ h1).trans ?_
    exact List.Perm.cons _ ((List.perm_append_singleton _ _).trans (h2 (f m)).symm)
theorem ls_len {x : EST} : (lsM x).length = x.1 := by
  unfold lsM
  rw [List.length_map, List.length_range]
theorem lsC_len {n : Nat} {rs : Nat → Option Nat} {E : Nat → Nat → Int32} : (lsC n rs E).length = n := by
  unfold lsC
  rw [List.length_map, List.length_range]
theorem lsC_get {n i : Nat} {rs : Nat → Option Nat} {E : Nat → Nat → Int32} (h : i < n) : (lsC n rs E)[i]? = some (entE E (rowA rs i)) := by
  unfold lsC
  rw [List.getElem?_map, List.getElem?_range h]
  rfl
theorem lsM_get {x : EST} {e : Nat} (h : e < x.1) : (lsM x)[e]? = some (entM x e) := by
  unfold lsM
  rw [List.getElem?_map, List.getElem?_range h]
  rfl
theorem lsM_mem {x : EST} {a : Int32 × Ent} : a ∈ lsM x ↔ ∃ e, e < x.1 ∧ entM x e = a := by
  unfold lsM
  rw [List.mem_map]
  constructor
  · rintro ⟨e, h1, h2⟩
    exact ⟨e, List.mem_range.mp h1, h2⟩
  · rintro ⟨e, h1, h2⟩
    exact ⟨e, List.mem_range.mpr h1, h2⟩
end LS
theorem upd_if (f : Nat → Int32) (k j : Nat) (v : Int32) : upd f k v j = if j = k then v else f j := rfl
theorem ent_drop (x : EST) (k j : Nat) : entM (mDropT x k) j = if j = k then entM x (x.1 - 1) else entM x j := by
  obtain ⟨en, eC, eL, eB, eF, eR, eU, eX⟩ := x
  unfold mDropT mX5_drop entM
  dsimp only
  by_cases h : j = k
  · subst h
    rw [if_pos rfl, pk_us, pk_us, pk_us, pk_us, pk_us, pk_us, pk_us]
  · rw [if_neg h, pk_un h, pk_un h, pk_un h, pk_un h, pk_un h, pk_un h, pk_un h]
theorem drop_en (x : EST) (k : Nat) : (mDropT x k).1 = x.1 - 1 := by
  obtain ⟨en, eC, eL, eB, eF, eR, eU, eX⟩ := x
  rfl
theorem lsM_drop {x : EST} {k : Nat} (h : k < x.1) : (lsM x).Perm (entM x k :: lsM (mDropT x k)) := by
  unfold lsM
  rw [drop_en]
  obtain ⟨m, hm⟩ : ∃ m, x.1 = m + 1 := ⟨x.1 - 1, by omega⟩
  have e1 : (List.range (x.1 - 1)).map (entM (mDropT x k)) = (List.range m).map (fun j => if j = k then entM x m else entM x j) := by
    rw [hm]
    apply List.map_congr_left
    intro j _
    rw [ent_drop, hm]
    rfl
  rw [e1, hm]
  exact ls_drop (entM x) k m (by omega)
def gDrop (mt : Int32 × Ent → Bool) : Nat → EST → EST
  | 0, x => x
  | k + 1, x => if mt (entM x k) = true then gDrop mt k (mDropT x k) else gDrop mt k x
theorem range_split {α : Type} (f : Nat → α) {k m : Nat} (h : k ≤ m) : (List.range m).map f = (List.range k).map f ++ (List.range' k (m - k)).map f := by
  rw [← List.map_append, List.range_eq_range', List.range_eq_range', show (0 : Nat) = 0 from rfl]
  congr 1
  have := List.range'_append (s := 0) (m := k) (n := m - k) (step := 1)
  rw [Nat.one_mul, Nat.zero_add] at this
  rw [this]
  congr 1
  omega
theorem gDrop_ls (mt : Int32 × Ent → Bool) : ∀ (k : Nat) (x : EST), k ≤ x.1 → (lsM (gDrop mt k x)).Perm (((List.range k).map (entM x)).filter (fun a => !mt a) ++ (List.range' k (x.1 - k)).map (entM x)) ∧ (gDrop mt k x).1 ≤ x.1
  | 0, x, _ => by
    refine ⟨?_, Nat.le_refl _⟩
    unfold gDrop lsM
    rw [range_split (entM x) (Nat.zero_le x.1)]
    exact List.Perm.refl _
  | k + 1, x, h => by
    unfold gDrop
    have e0 : (List.range (k + 1)).map (entM x) = (List.range k).map (entM x) ++ [entM x k] := by rw [List.range_succ, List.map_append]; rfl
    have e1 : (List.range' k (x.1 - k)).map (entM x) = entM x k :: (List.range' (k + 1) (x.1 - (k + 1))).map (entM x) := by
      rw [show x.1 - k = (x.1 - (k + 1)) + 1 by omega, List.range'_succ]
      rfl
    by_cases c : mt (entM x k) = true
    · rw [if_pos c]
      obtain ⟨h1, h2⟩ := gDrop_ls mt k (mDropT x k) (by rw [drop_en]; omega)
      rw [drop_en] at h1 h2
      refine ⟨h1.trans ?_, by omega⟩
      have e2 : (List.range k).map (entM (mDropT x k)) = (List.range k).map (entM x) := by
        apply List.map_congr_left
        intro j hj
        have := List.mem_range.mp hj
        rw [ent_drop, if_neg (by omega)]
      rw [e2, e0, List.filter_append, show [entM x k].filter (fun a => !mt a) = [] by simp [c], List.append_nil]
      refine List.Perm.append_left _ ?_
      have p1 := lsM_drop (x := x) (k := k) (by omega)
      unfold lsM at p1
      rw [drop_en, range_split (entM x) (show k ≤ x.1 by omega), range_split (entM (mDropT x k)) (show k ≤ x.1 - 1 by omega), e1, e2] at p1
      have p2 := (List.perm_middle (a := entM x k) (l₁ := (List.range k).map (entM x)) (l₂ := (List.range' (k + 1) (x.1 - (k + 1))).map (entM x))).symm.trans p1
      exact ((List.perm_append_left_iff _).mp (List.Perm.cons_inv p2)).symm
    · rw [if_neg c]
      obtain ⟨h1, h2⟩ := gDrop_ls mt k x (by omega)
      refine ⟨h1.trans ?_, h2⟩
      rw [e1, e0, List.filter_append, show [entM x k].filter (fun a => !mt a) = [entM x k] by simp [c], List.append_assoc]
      exact List.Perm.refl _
theorem gDrop_all (mt : Int32 × Ent → Bool) (x : EST) : (lsM (gDrop mt x.1 x)).Perm ((lsM x).filter (fun a => !mt a)) := by
  have h := (gDrop_ls mt x.1 x (Nat.le_refl _)).1
  rw [Nat.sub_self] at h
  rw [show (List.range' x.1 0).map (entM x) = [] from rfl, List.append_nil] at h
  exact h

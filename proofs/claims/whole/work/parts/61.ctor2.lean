def CPrA (dC : Nat → ClassId) (dI : Nat → Nat → Nat) (ws : va_W) (tys : List (ClassId × FieldType)) (sz : Nat) (U : State) : Prop := CPrQ dC dI ws tys sz U ∧ va_AO RX1 U
theorem cx_blindA {dC : Nat → ClassId} {dI : Nat → Nat → Nat} {ws : va_W} {tys : List (ClassId × FieldType)} {sz : Nat} {av : List Value} : FrameBlind (va_Pc av (CPrA dC dI ws tys sz)) :=
  fun a U g mk q => by
    obtain ⟨q0, ⟨q1, ⟨qP, qK, qN⟩, qD⟩, qA⟩ := q
    exact ⟨q0, ⟨q1, ⟨qP, va_K.moved (u := U) (U := U.calling g mk a) (Vm.Alike.refl U.vm) qK, qN.same rfl⟩, qD⟩, va_AO.moved (u := U) (U := U.calling g mk a) (Vm.Alike.refl U.vm) qA⟩
theorem cx_preSA {s : State} {H : Heap} {dC : Nat → ClassId} {dI : Nat → Nat → Nat} {ws : va_W} {tys : List (ClassId × FieldType)} {As : List Value} {A : Nat → Prop} (hK : va_K (dC, dI) vwCl tys s) (hP : va_P (dC, dI) vwCl ws H) (hN : NX s) (hD : va_D A ws) (hO : va_AO RX1 s) : PreS s H (va_Pc As (CPrA dC dI ws tys H.size)) As :=
  ⟨cx_blindA, fun U hU hW => ⟨rfl, ⟨by rw [hU], ⟨by rw [hU]; exact hP, va_K.moved hW.alike hK, hN.warm hW⟩, hD.weaken (fun _ _ _ _ => trivial)⟩, va_AO.moved hW.alike hO⟩⟩
theorem pool_push {D : va_G} {A : Nat → Prop} {X : va_W} {LP : List Nat} {q : Nat} {H : Heap} (hP : va_P D vwCl ((X ++ va_pl LP (CEf (fun _ _ => 0))) ++ [(q, .inr (1, [.int 0, .int 0, .int 0, .int 0, .int 0, .int 0]))]) H) (hD : va_D A ((X ++ va_pl LP (CEf (fun _ _ => 0))) ++ [(q, .inr (1, [.int 0, .int 0, .int 0, .int 0, .int 0, .int 0]))])) : q ∉ LP ∧ va_P D vwCl (X ++ va_pl (LP ++ [q]) (CEf (fun _ _ => 0))) H ∧ va_D A (X ++ va_pl (LP ++ [q]) (CEf (fun _ _ => 0))) := by
  have hq := va_pl_fresh2 hD
  have e1 : (X ++ va_pl LP (CEf (fun _ _ => 0))) ++ [(q, .inr (1, [.int 0, .int 0, .int 0, .int 0, .int 0, .int 0]))] = X ++ va_pl (LP ++ [q]) (CEf (fun _ _ => 0)) := by
    rw [List.append_assoc, va_pl_push hq]
    congr 2
    funext z
    by_cases hz : z = q
    · subst hz
      rw [va_up_self]
    · rw [va_up_ne _ _ hz]
  rw [e1] at hP hD
  exact ⟨hq, hP, hD⟩
set_option maxHeartbeats 4000000 in
set_option maxRecDepth 100000 in
theorem c_X0_init (l : Launch) (dC : Nat → ClassId) (dI : Nat → Nat → Nat) (h0 sz : Nat) (p0 : Nat) (h1p : 1 ≤ p0) (hp32 : p0 ≤ 32) : Met l yX0_init (wX0_init :: AW) ({ frames := 2, cells := 33, slots := 224, locals := 32 }) (va_Pc [.ref h0, .int (nI p0)] (CPrA dC dI [(h0, .inr (0, [.null, .int 0, .int 0]))] [] sz)) (va_Qv (fun (_ : Unit) => True) (fun (_ : Unit) (t : State) => ∃ (q1 : Nat) (c1 : ClassId) (f : Nat → Option Nat) (LP : List Nat), va_P (dC, dI) vwCl ([(h0, .inr (0, [.ref q1, .int 0, .int 0])), (q1, .inl (c1, p0, .inr (.inr (.inr (.inr f)))))] ++ va_pl LP (CEf (fun _ _ => 0))) t.heap ∧ va_K (dC, dI) vwCl [(c1, .object RX1)] t ∧ va_D (va_A [(h0, .inr (0, [.null, .int 0, .int 0]))] sz) ([(h0, .inr (0, [.ref q1, .int 0, .int 0])), (q1, .inl (c1, p0, .inr (.inr (.inr (.inr f)))))] ++ va_pl LP (CEf (fun _ _ => 0))) ∧ LP.length = p0 ∧ LP.Nodup ∧ ∀ k9, k9 < p0 → f k9 = LP[k9]?) (va_A [(h0, .inr (0, [.null, .int 0, .int 0]))] sz)) 33 224 (va_A [(h0, .inr (0, [.null, .int 0, .int 0]))] sz) := by
  refine cx_of (cc := cX0_init) (maxL := 3) (ret := none) (by decide) rfl (Nat.le_of_ble_eq_true rfl) ?_
  intro p e s m below meth c ls hx hb hr hts hown hlocks hml hnm hl hB
  have hta : ∀ w ∈ AW, w.before [.ref h0, .int (nI p0)].toArray s = true := fun w h => hts w (List.mem_cons_of_mem _ h)
  have hl : lv_has ls 3 [(0, .ref h0), (1, .int (nI p0))] := hl
  have hown : s.vm.findClass RX0 = some m.cls := hown
  have hin : meth.name = "<init>" := hnm
  obtain ⟨⟨rfl, ⟨hP, hK, hN⟩, hD0⟩, hO⟩ := hB
  have hD := hD0.self (sz := s.heap.size)
  generalize hAe : va_A [(h0, .inr (0, [.null, .int 0, .int 0]))] s.heap.size = A at hD ⊢
  have hA : ∀ q : Nat, s.heap.size ≤ q → A q := fun q h => by rw [← hAe]; exact Or.inr h
  have hS : va_S A s.heap s.heap [] := va_S.rf
  refine lv_aload_n hx hb dX0_init_0 rfl (lv_at hl 0 rfl) ?_
  refine W.objInit hx hb hown (hta _ aw_120) (hta _ aw_55) (hta _ aw_56) rfl (by rw [hml]; exact hl.1) rfl dX0_init_1 (Nat.le_of_ble_eq_true rfl) (Nat.le_of_ble_eq_true rfl) ?_
  refine W.eq (g2 := F0 m 4 ls []) rfl ?_
  refine lv_aload_n hx hb dX0_init_4 rfl (lv_at hl 0 rfl) ?_
  refine lv_iload_n hx hb dX0_init_5 rfl (lv_at hl 1 rfl) ?_
  refine va_newq (C := RX1) (N' := p0) (n := nI p0) hx hb hown (hta _ aw_121) hO hK hP hD hS hA (nI_pos (by omega)) (nI_clamp (by omega)) (by omega) (Nat.le_of_ble_eq_true rfl) (show 0 + p0 ≤ 224 by omega) dX0_init_6 (fun q1 c1 H hK hP hD hS => ?_)
  refine W.widen (k := 1) (n := 32) (Nat.le_of_ble_eq_true rfl) (by omega) ?_
  have hP : va_P (dC, dI) vwCl [(h0, .inr (0, [.null, .int (0 : Int32), .int (0 : Int32)])), (q1, .inl (c1, p0, .inr (.inr (.inr (.inr (fun _ => none))))))] H := hP
  have hD : va_D A [(h0, .inr (0, [.null, .int (0 : Int32), .int (0 : Int32)])), (q1, .inl (c1, p0, .inr (.inr (.inr (.inr (fun _ => none))))))] := hD
  have hK : va_K (dC, dI) vwCl [(c1, .object RX1)] s := hK
  refine va_putF (D := (dC, dI)) (ci := 0) (v := .ref q1) (ty := .array (.object "PageRows$Entry")) (C := RX0) (T := TX0) (N := 3) hx hb hta inA_X0 tyX0 tyX0_ok nmX0 hown hK hP hD hS 0 rfl rfl 0 (by decide) (hta _ aw_159) (fun _ h9 => h9) rfl hin rfl (by decide +kernel) rfl rfl (Nat.le_of_ble_eq_true rfl) dX0_init_9 (fun H locs hP hD hS => ?_)
  have hP : va_P (dC, dI) vwCl [(h0, .inr (0, [.ref q1, .int (0 : Int32), .int (0 : Int32)])), (q1, .inl (c1, p0, .inr (.inr (.inr (.inr (fun _ => none))))))] H := hP
  have hD : va_D A [(h0, .inr (0, [.ref q1, .int (0 : Int32), .int (0 : Int32)])), (q1, .inl (c1, p0, .inr (.inr (.inr (.inr (fun _ => none))))))] := hD
  refine lv_iconst (v := 0) hx hb dX0_init_12 (by decide) ?_
  refine lv_istore_n (lv' := [(2, .int (0 : Int32)), (0, .ref h0), (1, .int (nI p0))]) hx hb dX0_init_13 rfl hl (by decide) rfl (fun ls hl => ?_)
  have loop : ∀ (j i : Nat) (f : Nat → Option Nat) (LP : List Nat), i + j = p0 → LP.length = i → LP.Nodup → (∀ k9, k9 < i → f k9 = LP[k9]?) → ∀ (H : Heap) (locs : List Loc), va_P (dC, dI) vwCl ([(h0, .inr (0, [.ref q1, .int (0 : Int32), .int (0 : Int32)])), (q1, .inl (c1, p0, .inr (.inr (.inr (.inr f)))))] ++ va_pl LP ((CEf (fun _ _ => 0)))) H → va_D A ([(h0, .inr (0, [.ref q1, .int (0 : Int32), .int (0 : Int32)])), (q1, .inl (c1, p0, .inr (.inr (.inr (.inr f)))))] ++ va_pl LP ((CEf (fun _ _ => 0)))) → va_S A s.heap H locs → ∀ (ls : Array Slot), lv_has ls 3 [(2, .int (nI i)), (0, .ref h0), (1, .int (nI p0))] → W p l e ({ frames := 2, cells := 33, slots := 224, locals := 32 }) s m [.ref h0, .int (nI p0)].toArray below meth c H locs (1 + i) (32 + 6 * i) (MQ below (va_Qv (fun (_ : Unit) => True) (fun (_ : Unit) (t : State) => ∃ (q1 : Nat) (c1 : ClassId) (f : Nat → Option Nat) (LP : List Nat), va_P (dC, dI) vwCl ([(h0, .inr (0, [.ref q1, .int 0, .int 0])), (q1, .inl (c1, p0, .inr (.inr (.inr (.inr f)))))] ++ va_pl LP (CEf (fun _ _ => 0))) t.heap ∧ va_K (dC, dI) vwCl [(c1, .object RX1)] t ∧ va_D A ([(h0, .inr (0, [.ref q1, .int 0, .int 0])), (q1, .inl (c1, p0, .inr (.inr (.inr (.inr f)))))] ++ va_pl LP (CEf (fun _ _ => 0))) ∧ LP.length = p0 ∧ LP.Nodup ∧ ∀ k9, k9 < p0 → f k9 = LP[k9]?) A) [.ref h0, .int (nI p0)].toArray s 33 224 A) (F0 m 14 ls []) := by
    intro j
    induction j with
    | zero =>
      intro i f LP hi hlen hnd hf H locs hP hD hS ls hl
      refine lv_iload_n hx hb dX0_init_14 rfl (lv_at hl 0 rfl) ?_
      refine lv_iload_n hx hb dX0_init_15 rfl (lv_at hl 2 rfl) ?_
      refine lv_icmp_ge (tgt := 38) hx hb dX0_init_16 (by decide) (fun c_16_50 => ?_) (fun c_16_50 => ?_)
      · have hip : i = p0 := by omega
        refine W.widen (k := 33) (n := 224) (by omega) (by omega) ?_
        exact W.vret hx hb hr (fun t ht hW => ⟨⟨(), rfl, trivial, q1, c1, f, LP, by rw [ht]; exact hP, va_K.moved hW.alike hK, hD, by rw [← hip]; exact hlen, hnd, fun k9 h9 => hf k9 (by omega)⟩, hS.F ht⟩) hS.2.2 dX0_init_38
      · exact absurd (nI_le (by omega) (by omega)) c_16_50
    | succ j ih =>
      intro i f LP hi hlen hnd hf H locs hP hD hS ls hl
      refine lv_iload_n hx hb dX0_init_14 rfl (lv_at hl 0 rfl) ?_
      refine lv_iload_n hx hb dX0_init_15 rfl (lv_at hl 2 rfl) ?_
      refine lv_icmp_ge (tgt := 38) hx hb dX0_init_16 (by decide) (fun c_16_50 => ?_) (fun c_16_50 => ?_)
      · exact absurd c_16_50 (nI_ge (by omega) (by omega))
      · refine lv_aload_n hx hb dX0_init_19 rfl (lv_at hl 1 rfl) ?_
        refine va_get (D := (dC, dI)) (ci := 0) (v := .ref q1) (C := RX0) (T := TX0) (N := 3) hx hb hta inA_X0 hown hK hP 0 rfl rfl 0 (by decide) (hta _ aw_159) (fun _ h9 => h9) rfl dX0_init_20 ?_
        refine lv_iload_n hx hb dX0_init_23 rfl (lv_at hl 0 rfl) ?_
        refine va_new (ci := 1) (fs := [.int 0, .int 0, .int 0, .int 0, .int 0, .int 0]) (C := RX1) (T := TX1) (N := 6) hx hb hta inA_X1 tyX1 tyX1_ok hown (hta _ aw_121) (hta _ aw_123) (hta _ aw_42) hK hP hD hS hA rfl (fun j hj => by rcases (show j = 0 ∨ j = 1 ∨ j = 2 ∨ j = 3 ∨ j = 4 ∨ j = 5 by omega) with rfl | rfl | rfl | rfl | rfl | rfl <;> rfl) (show 1 + i + 1 ≤ 33 by omega) (show 32 + 6 * i + 6 ≤ 224 by omega) dX0_init_24 (fun qn H hP hD hS => ?_)
        obtain ⟨hq9, hP, hD⟩ := pool_push hP hD
        refine lv_dup hx hb dX0_init_27 rfl ?_
        refine cx_callSv (va_runIN (As := []) (rest := [.ref qn, .int (nI i), .ref q1]) ⟨hx, hb, hml, hown, hta⟩ (c_X1_init l qn) ⟨va_cnB 0 hta (gC aw_126) rfl rfl rfl (hN.nm 3 rfl) (hta _ aw_42) (by decide +kernel) ⟨Nat.le_of_ble_eq_true rfl, Nat.le_of_ble_eq_true rfl⟩, rfl, (hta _ aw_125)⟩ cx_pre0 rfl rfl hl.1 rfl (lv_room (Nat.le_of_ble_eq_true rfl)) dX0_init_28 ⟨show 1 + i + 1 + 0 ≤ 33 by omega, show 32 + 6 * i + 6 + 0 ≤ 224 by omega⟩) ?_
        obtain ⟨k_52, hk_52⟩ := va_pl_get (X := [(h0, .inr (0, [.ref q1, .int (0 : Int32), .int (0 : Int32)])), (q1, .inl (c1, p0, .inr (.inr (.inr (.inr f)))))]) (f := ((CEf (fun _ _ => 0)))) (List.mem_append_right LP (List.mem_singleton.mpr rfl))
        refine va_astq hx hb hK hP hD hS 1 0 k_52 1 rfl rfl hk_52 rfl (vp_in_nI (by omega) (by omega)) dX0_init_31 (fun H locs hP hD hS => ?_)
        rw [nI_clamp (show i < 2 ^ 31 by omega)] at hP hD
        have hP : va_P (dC, dI) vwCl ([(h0, .inr (0, [.ref q1, .int (0 : Int32), .int (0 : Int32)])), (q1, .inl (c1, p0, .inr (.inr (.inr (.inr (va_up f i (some qn)))))))] ++ va_pl (LP ++ [qn]) ((CEf (fun _ _ => 0)))) H := hP
        have hD : va_D A ([(h0, .inr (0, [.ref q1, .int (0 : Int32), .int (0 : Int32)])), (q1, .inl (c1, p0, .inr (.inr (.inr (.inr (va_up f i (some qn)))))))] ++ va_pl (LP ++ [qn]) ((CEf (fun _ _ => 0)))) := hD
        refine lv_iinc (v := nI (i + 1)) (lv' := [(2, .int (nI (i + 1))), (0, .ref h0), (1, .int (nI p0))]) hx hb dX0_init_32 hl (k := 0) rfl (cx_inc i 1 rfl) (by decide) rfl (fun ls hl => ?_)
        refine lv_goto (tgt := 14) hx hb dX0_init_35 (by decide) ?_
        refine W.widen (k := 1 + (i + 1)) (n := 32 + 6 * (i + 1)) (by omega) (by omega) ?_
        exact ih (i + 1) _ (LP ++ [qn]) (by omega) (by rw [List.length_append, hlen]; rfl) (List.nodup_append.mpr ⟨hnd, List.nodup_cons.mpr ⟨List.not_mem_nil, List.nodup_nil⟩, fun a9 h1 b9 h2 e9 => by rw [List.mem_singleton.mp h2] at e9; rw [e9] at h1; exact hq9 h1⟩) (fun k9 h9 => by by_cases e9 : k9 = i; (· subst e9; rw [va_up_self, ← hlen, List.getElem?_append_right (Nat.le_refl _), Nat.sub_self]; rfl); (· rw [va_up_ne _ _ e9, hf k9 (by omega), List.getElem?_append_left (by omega)])) H locs hP hD hS ls (lv_sub hl [0, 1, 2] rfl)
  exact loop p0 0 (fun _ => none) [] (by omega) rfl List.nodup_nil (fun k9 h9 => absurd h9 (by omega)) H locs (by show va_P _ _ (_ ++ []) _; rw [List.append_nil]; exact hP) (by show va_D _ (_ ++ []); rw [List.append_nil]; exact hD) hS ls (lv_sub hl [0, 1, 2] rfl)

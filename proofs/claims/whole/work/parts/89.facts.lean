theorem lrel0 {LP : List Nat} {rs : Nat → Option Nat} (p0 p1 : Int32) (hlen : LP.length = cN p1) (hnd : LP.Nodup) (hrs : ∀ k9, k9 < cN p1 → rs k9 = LP[k9]?) : LREL (cL p0) (cN p1) LP 0 0 (hoF 256) (roF 4) 0 rs (fun _ _ => 0) 0 (fun _ => 0) (fun _ => 0) (fun _ => 0) (fun _ => 0) (fun _ => 0) (fun _ => 0) (fun _ => 0) := by
  have hl := cL_in p0
  have hn := cN_in p1
  have hget : ∀ i, i < cN p1 → ∃ h : i < LP.length, rs i = some LP[i] := by
    intro i hi
    refine ⟨by omega, ?_⟩
    rw [hrs i hi]
    exact List.getElem?_eq_getElem (by omega)
  refine ⟨⟨hl.1, hl.2, by omega, hn.2⟩, fun j hj => Or.inl (if_pos hj), fun j hj => ⟨j, by omega, if_pos hj⟩, cx_in0 (by decide), ZB_0, ⟨⟨fun i hi => ?_, fun i j hi hj e => ?_⟩, Nat.zero_le _, List.Pairwise.nil, fun a ha => absurd ha List.not_mem_nil, [], ⟨List.Perm.refl _, List.Pairwise.nil, fun a ha => absurd ha List.not_mem_nil⟩, rfl⟩, fun a ha => absurd ha List.not_mem_nil, fun _ => ZB_0⟩
  · obtain ⟨h1, h2⟩ := hget i hi
    have h3 : rowA rs i = LP[i] := by
      unfold rowA
      rw [h2]
      rfl
    rw [h3]
    exact ⟨h2, List.getElem_mem h1⟩
  · obtain ⟨h1, h2⟩ := hget i hi
    obtain ⟨h3, h4⟩ := hget j hj
    unfold rowA at e
    rw [h2, h4] at e
    exact (List.getElem_inj hnd).mp e
theorem nest_in : ∀ w ∈ nestL, w ∈ lw_tbl := by
  intro w hw
  have h := (by decide +kernel : nestL.all (fun w => decide (w ∈ lw_tbl)) = true)
  simpa using List.all_eq_true.mp h w hw
theorem str_in : ∀ q ∈ strL, Cond.stringRef RX4 q.1 q.2 ∈ lw_tbl := by
  intro q hq
  have h := (by decide +kernel : strL.all (fun q => decide (Cond.stringRef RX4 q.1 q.2 ∈ lw_tbl)) = true)
  simpa using List.all_eq_true.mp h q hq
theorem str_ex {args : Array Value} {s : State} (hgv : (Jvm.Cond.and given_1 narrow_1).before args s = true) : ∀ q ∈ strL, (Cond.exactly (.string RX4 q.1) "java/lang/String").before args s = true := by
  intro q hq
  have hs := flat_of_before _ hgv
  rcases List.mem_cons.mp hq with rfl | hq
  · exact hs _ (by decide +kernel)
  rcases List.mem_cons.mp hq with rfl | hq
  · exact hs _ (by decide +kernel)
  rcases List.mem_cons.mp hq with rfl | hq
  · exact hs _ (by decide +kernel)
  rcases List.mem_cons.mp hq with rfl | hq
  · exact hs _ (by decide +kernel)
  rcases List.mem_cons.mp hq with rfl | hq
  · exact hs _ (by decide +kernel)
  rcases List.mem_cons.mp hq with rfl | hq
  · exact hs _ (by decide +kernel)
  rcases List.mem_cons.mp hq with rfl | hq
  · exact hs _ (by decide +kernel)
  rcases List.mem_cons.mp hq with rfl | hq
  · exact hs _ (by decide +kernel)
  cases hq
theorem start_XW {args : Array Value} {s : State} (hts : ∀ w ∈ lw_tbl, w.before args s = true) (hgv : (Jvm.Cond.and given_1 narrow_1).before args s = true) : XW s :=
  ⟨va_Nw.of rfl (hts (.castable IOE IOE) (by decide +kernel)), va_Nw.of rfl (hts (.castable IAE IAE) (by decide +kernel)), va_Nw.of rfl (hts (.declares ⟨"java/lang/RuntimeException", "<init>", "(Ljava/lang/String;)V"⟩) (by decide +kernel)), va_Nw.of rfl (hts (.declares ⟨"java/lang/Exception", "<init>", "(Ljava/lang/String;)V"⟩) (by decide +kernel)), va_Nw.of rfl (hts (.declares ⟨"java/lang/Throwable", "<init>", "(Ljava/lang/String;)V"⟩) (by decide +kernel)), fun q hq => by
    obtain ⟨sa, -, -, -, ha, -⟩ := Cond.exactly_spec (str_ex hgv q hq)
    exact ⟨sa, vk_R.of (hts _ (str_in q hq)) ha⟩⟩
theorem start_XZ {args : Array Value} {s : State} (hts : ∀ w ∈ lw_tbl, w.before args s = true) (hgv : (Jvm.Cond.and given_1 narrow_1).before args s = true) : XZ (fun q : Nat => s.heap.size ≤ q) s s.heap := by
  have hs := flat_of_before _ hgv
  exact ⟨vx_Zqof (hts (.laysStatic Bundle.tN "UNASSIGNED_STACK" Bundle.steD) (by decide +kernel)) (hts (.initialized Bundle.tN) (by decide +kernel)) (hs (.isRef (.static Bundle.tN "UNASSIGNED_STACK" Bundle.steD)) (by decide +kernel)) (fun a h => Nat.not_le.mpr h),
    vx_Zqof (hts (.laysStatic Bundle.tN "SUPPRESSED_SENTINEL" Bundle.listD) (by decide +kernel)) (hts (.initialized Bundle.tN) (by decide +kernel)) (hs (.isRef (.static Bundle.tN "SUPPRESSED_SENTINEL" Bundle.listD)) (by decide +kernel)) (fun a h => Nat.not_le.mpr h)⟩
theorem start_Nc {args : Array Value} {s : State} (hgv : (Jvm.Cond.and given_1 narrow_1).before args s = true) : va_Nc IAE IOE s := va_Nc.of (flat_of_before _ hgv (.not (.castable IAE IOE)) (by decide +kernel))
theorem start_NX {args : Array Value} {s : State} (hts : ∀ w ∈ lw_tbl, w.before args s = true) : NX s := fun w hw => va_Nw.of (nestL_on w hw) (hts w (nest_in w hw))
theorem start_AO {args : Array Value} {s : State} (hts : ∀ w ∈ lw_tbl, w.before args s = true) : va_AO RX1 s := va_AO.of (hts (.arrayOver (.object RX1)) (by decide +kernel))

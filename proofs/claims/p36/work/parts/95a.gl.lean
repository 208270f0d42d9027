/-! ===== p36: the start, 1: what is given of the machine ===== -/
theorem inJx00060 : ∀ w ∈ u_ws RJx00060 TJx00060 6, w ∈ lw_tbl := by
  show ∀ w ∈ ([u_lay RJx00060 TJx00060 0, u_lay RJx00060 TJx00060 1, u_lay RJx00060 TJx00060 2, u_lay RJx00060 TJx00060 3, u_lay RJx00060 TJx00060 4, u_lay RJx00060 TJx00060 5] : List Cond), w ∈ lw_tbl
  exact List.forall_mem_cons.mpr ⟨tin_5 _ (List.mem_of_getElem? (i := 69) rfl), List.forall_mem_cons.mpr ⟨tin_5 _ (List.mem_of_getElem? (i := 70) rfl), List.forall_mem_cons.mpr ⟨tin_5 _ (List.mem_of_getElem? (i := 71) rfl), List.forall_mem_cons.mpr ⟨tin_5 _ (List.mem_of_getElem? (i := 72) rfl), List.forall_mem_cons.mpr ⟨tin_5 _ (List.mem_of_getElem? (i := 73) rfl), List.forall_mem_cons.mpr ⟨tin_5 _ (List.mem_of_getElem? (i := 74) rfl), fun _ h => absurd h List.not_mem_nil⟩⟩⟩⟩⟩⟩
theorem strs_in : ∀ q ∈ strs, Cond.stringRef RX7 q.1 q.2 ∈ lw_tbl := List.forall_mem_cons.mpr ⟨tin_2 _ (List.mem_of_getElem? (i := 59) rfl), List.forall_mem_cons.mpr ⟨tin_2 _ (List.mem_of_getElem? (i := 95) rfl), List.forall_mem_cons.mpr ⟨tin_2 _ (List.mem_of_getElem? (i := 111) rfl), List.forall_mem_cons.mpr ⟨tin_5 _ (List.mem_of_getElem? (i := 90) rfl), List.forall_mem_cons.mpr ⟨tin_3 _ (List.mem_of_getElem? (i := 111) rfl), List.forall_mem_cons.mpr ⟨tin_3 _ (List.mem_of_getElem? (i := 229) rfl), List.forall_mem_cons.mpr ⟨tin_5 _ (List.mem_of_getElem? (i := 101) rfl), List.forall_mem_cons.mpr ⟨tin_3 _ (List.mem_of_getElem? (i := 119) rfl), List.forall_mem_cons.mpr ⟨tin_3 _ (List.mem_of_getElem? (i := 146) rfl), List.forall_mem_cons.mpr ⟨tin_3 _ (List.mem_of_getElem? (i := 160) rfl), List.forall_mem_cons.mpr ⟨tin_3 _ (List.mem_of_getElem? (i := 174) rfl), List.forall_mem_cons.mpr ⟨tin_3 _ (List.mem_of_getElem? (i := 180) rfl), List.forall_mem_cons.mpr ⟨tin_4 _ (List.mem_of_getElem? (i := 25) rfl), List.forall_mem_cons.mpr ⟨tin_5 _ (List.mem_of_getElem? (i := 51) rfl), List.forall_mem_cons.mpr ⟨tin_4 _ (List.mem_of_getElem? (i := 73) rfl), List.forall_mem_cons.mpr ⟨tin_4 _ (List.mem_of_getElem? (i := 99) rfl), List.forall_mem_cons.mpr ⟨tin_4 _ (List.mem_of_getElem? (i := 100) rfl), List.forall_mem_cons.mpr ⟨tin_4 _ (List.mem_of_getElem? (i := 109) rfl), List.forall_mem_cons.mpr ⟨tin_4 _ (List.mem_of_getElem? (i := 131) rfl), List.forall_mem_cons.mpr ⟨tin_4 _ (List.mem_of_getElem? (i := 180) rfl), List.forall_mem_cons.mpr ⟨tin_4 _ (List.mem_of_getElem? (i := 205) rfl), List.forall_mem_cons.mpr ⟨tin_4 _ (List.mem_of_getElem? (i := 224) rfl), fun _ h => absurd h List.not_mem_nil⟩⟩⟩⟩⟩⟩⟩⟩⟩⟩⟩⟩⟩⟩⟩⟩⟩⟩⟩⟩⟩⟩
theorem gv_nc : ∀ q ∈ ncs, ∃ i : Nat, gvn[i]? = some (Cond.not (.castable q.1 q.2)) := List.forall_mem_cons.mpr ⟨⟨243, by decide +kernel⟩, List.forall_mem_cons.mpr ⟨⟨227, by decide +kernel⟩, List.forall_mem_cons.mpr ⟨⟨226, by decide +kernel⟩, List.forall_mem_cons.mpr ⟨⟨242, by decide +kernel⟩, fun _ h => absurd h List.not_mem_nil⟩⟩⟩⟩
theorem lay_u : Cond.laysStatic Bundle.tN "UNASSIGNED_STACK" Bundle.steD ∈ lw_tbl := tin_2 _ (List.mem_of_getElem? (i := 41) rfl)
theorem gv_u : gvn[4]? = some (.isRef (.static Bundle.tN "UNASSIGNED_STACK" Bundle.steD)) := by decide +kernel
theorem lay_n : Cond.laysStatic Bundle.tN "SUPPRESSED_SENTINEL" Bundle.listD ∈ lw_tbl := tin_2 _ (List.mem_of_getElem? (i := 43) rfl)
theorem gv_n : gvn[5]? = some (.isRef (.static Bundle.tN "SUPPRESSED_SENTINEL" Bundle.listD)) := by decide +kernel
theorem no_traces {l : Launch} (h : l.flags = flags0) : l.stackTraces = false := by
  unfold Launch.stackTraces
  rw [h]
  decide
theorem arr_known {args : Array Value} {s : State} {ty : FieldType} (h : (Cond.arrayClass ty).before args s = true) : ∃ cA, ArrOfT s cA ty ∧ s.vm.findClass ("[" ++ ty.toString) = some cA := by
  obtain ⟨cA, kA, comp, h1, h2, h3⟩ := Cond.arrayClass_spec h
  exact ⟨cA, fun n z => ⟨fun k h => (by cases h), kA, h2, comp, h3⟩, h1⟩
theorem arr_over {args : Array Value} {s : State} {C : String} (h : (Cond.arrayOver (.object C)).before args s = true) : ∃ cA, ArrOfT s cA (.object C) ∧ va_RA s cA (.object C) := by
  obtain ⟨comp, c, k, f1, f2, f3, f4, f5⟩ := Cond.arrayOver_spec h
  exact ⟨c, fun n z => ⟨fun k h => (by cases h), k, f3, comp, f4⟩, k, comp, f3, f4, f1, f5⟩
theorem gl_of {l : Launch} (hflags : l.flags = flags0) {b : Nat} {s : State} (hts : ∀ w ∈ lw_tbl, w.before #[Value.ref b] s = true) (hgv : (Jvm.Cond.and given_1 narrow_1).before #[Value.ref b] s = true) : ∃ (D : va_G) (ca : Nat → ClassId), Gl l s (s.heap.size, 0) D ca := by
  have hfl := flat_of_before _ hgv
  have hm : ∀ (i : Nat) (w : Cond), gvn[i]? = some w → w.before #[Value.ref b] s = true := fun i w h => hfl w (List.mem_of_getElem? h)
  obtain ⟨c0, iS0, hKn0⟩ := u_known (C := RJ0) (T := TJ0) (N := 4) (n := 4) hts inJ0 (hts _ aw_J0.1)
  obtain ⟨c1, iS1, hKn1⟩ := u_known (C := RJx00060) (T := TJx00060) (N := 6) (n := 6) hts inJx00060 (hts _ aw_Jx00060.1)
  obtain ⟨c2, iS2, hKn2⟩ := u_known (C := RX0) (T := TX0) (N := 3) (n := 3) hts inX0 (hts _ aw_X0.1)
  obtain ⟨c3, iS3, hKn3⟩ := u_known (C := RX1) (T := TX1) (N := 3) (n := 3) hts inX1 (hts _ aw_X1.1)
  obtain ⟨c4, iS4, hKn4⟩ := u_known (C := RX2) (T := TX2) (N := 2) (n := 2) hts inX2 (hts _ aw_X2.1)
  obtain ⟨c5, iS5, hKn5⟩ := u_known (C := RX3) (T := TX3) (N := 5) (n := 5) hts inX3 (hts _ aw_X3.1)
  obtain ⟨c6, iS6, hKn6⟩ := u_known (C := RX4) (T := TX4) (N := 8) (n := 8) hts inX4 (hts _ aw_X4.1)
  obtain ⟨c7, iS7, hKn7⟩ := u_known (C := RX5) (T := TX5) (N := 4) (n := 4) hts inX5 (hts _ aw_X5.1)
  obtain ⟨c8, iS8, hKn8⟩ := u_known (C := RX6) (T := TX6) (N := 3) (n := 3) hts inX6 (hts _ aw_X6.1)
  obtain ⟨c9, iS9, hKn9⟩ := u_known (C := RX7) (T := TX7) (N := 10) (n := 10) hts inX7 (hts _ aw_X7.1)
  obtain ⟨c10, iS10, hKn10⟩ := u_known (C := RJ4) (T := TJ4) (N := 4) (n := 4) hts inJ4 (hts _ aw_J4.1)
  obtain ⟨dC, dI, hKc⟩ : ∃ (dC : Nat → ClassId) (dI : Nat → Nat → Nat), ∀ (k : Nat) (q : vw_C), vwCl[k]? = some q → u_Kn s q.1 q.2.1 q.2.2 (dC k) (dI k) := by
    refine ⟨fun k => if k = 0 then c0 else if k = 1 then c1 else if k = 2 then c2 else if k = 3 then c3 else if k = 4 then c4 else if k = 5 then c5 else if k = 6 then c6 else if k = 7 then c7 else if k = 8 then c8 else if k = 9 then c9 else c10, fun k => if k = 0 then iS0 else if k = 1 then iS1 else if k = 2 then iS2 else if k = 3 then iS3 else if k = 4 then iS4 else if k = 5 then iS5 else if k = 6 then iS6 else if k = 7 then iS7 else if k = 8 then iS8 else if k = 9 then iS9 else iS10, ?_⟩
    intro k q hq
    match k, hq with
    | 0, hq => cases hq; exact hKn0
    | 1, hq => cases hq; exact hKn1
    | 2, hq => cases hq; exact hKn2
    | 3, hq => cases hq; exact hKn3
    | 4, hq => cases hq; exact hKn4
    | 5, hq => cases hq; exact hKn5
    | 6, hq => cases hq; exact hKn6
    | 7, hq => cases hq; exact hKn7
    | 8, hq => cases hq; exact hKn8
    | 9, hq => cases hq; exact hKn9
    | 10, hq => cases hq; exact hKn10
    | k + 11, hq => simp at hq
  obtain ⟨cI, i1, i2⟩ := arr_known (hts _ cw_int.1)
  obtain ⟨cC, k1, k2⟩ := arr_known (hts _ cw_char.1)
  obtain ⟨cB, b1, b2⟩ := arr_known (hts _ cw_byte.1)
  obtain ⟨cO, o1, o2⟩ := arr_over (hts _ arrOver_in)
  have hA : ∀ a : Nat, a < s.heap.size → ¬ aD (s.heap.size, 0) a := fun a h h2 => absurd (Nat.lt_of_lt_of_le h h2.1) (Nat.lt_irrefl _)
  refine ⟨(dC, dI), fun k => if k = 0 then cI else if k = 1 then cC else if k = 2 then cB else if k = 3 then cB else cO, no_traces hflags, ⟨_, hts⟩, Nat.le_refl _, ⟨hKc, fun k q hq => ?_⟩, vx_Zqof (hts _ lay_u) (hts _ iw_Throwable.1) (hm _ _ gv_u) hA, vx_Zqof (hts _ lay_n) (hts _ iw_Throwable.1) (hm _ _ gv_n) hA, fun q hq => ?_, fun q hq => ?_⟩
  · match k, hq with
    | 0, hq => cases hq; exact ⟨i1, i2⟩
    | 1, hq => cases hq; exact ⟨k1, k2⟩
    | 2, hq => cases hq; exact ⟨b1, b2⟩
    | 3, hq => cases hq; exact ⟨b1, b2⟩
    | 4, hq => cases hq; exact ⟨o1, o2⟩
    | k + 5, hq => simp [tys] at hq
  · have hw := hts _ (strs_in q hq)
    obtain ⟨k, cf, i, a, -, -, -, -, -, hev⟩ := Cond.stringRef_spec hKn9.2.1 hw
    exact ⟨a, vk_R.of hw hev⟩
  · obtain ⟨i, hi⟩ := gv_nc q hq
    exact va_Nc.of (hm i _ hi)

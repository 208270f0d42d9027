/-! ===== p36: what is given of things outside ===== -/
theorem ls_cs : (Cond.laysStatic "java/lang/String" "COMPACT_STRINGS" "Z") ∈ lw_tbl := tin_5 _ (List.mem_of_getElem? (i := 4) rfl)
theorem ls_sf : (Cond.laysStatic "jdk/internal/util/Preconditions" "SIOOBE_FORMATTER" "Ljava/util/function/BiFunction;") ∈ lw_tbl := tin_5 _ (List.mem_of_getElem? (i := 20) rfl)
theorem ls_do : (Cond.laysStatic "java/lang/Integer" "DigitOnes" "[B") ∈ lw_tbl := tin_6 _ (List.mem_of_getElem? (i := 10) rfl)
theorem ls_dt : (Cond.laysStatic "java/lang/Integer" "DigitTens" "[B") ∈ lw_tbl := tin_6 _ (List.mem_of_getElem? (i := 12) rfl)
abbrev gvn : List Cond := flatC (Jvm.Cond.and given_1 narrow_1)
theorem gv_cs : gvn[6]? = some (.eq (.static "java/lang/String" "COMPACT_STRINGS" "Z") (.int 1)) := by decide +kernel
theorem gv_sf : gvn[7]? = some (.isRef (.static "jdk/internal/util/Preconditions" "SIOOBE_FORMATTER" "Ljava/util/function/BiFunction;")) := by decide +kernel
theorem gv_do : gvn[12]? = some (.arrayOf (.static "java/lang/Integer" "DigitOnes" "[B") .byte) ∧ gvn[13]? = some (.eq (.length (.static "java/lang/Integer" "DigitOnes" "[B")) (.int 100)) := by decide +kernel
theorem gv_doE : ∀ j, j < 100 → gvn[14 + j]? = some (.eq (.elem (.static "java/lang/Integer" "DigitOnes" "[B") (.int (Int32.ofNat j))) (.int (nI (48 + j % 10)))) := by decide +kernel
theorem gv_dt : gvn[115]? = some (.arrayOf (.static "java/lang/Integer" "DigitTens" "[B") .byte) ∧ gvn[116]? = some (.eq (.length (.static "java/lang/Integer" "DigitTens" "[B")) (.int 100)) := by decide +kernel
theorem gv_dtE : ∀ j, j < 100 → gvn[117 + j]? = some (.eq (.elem (.static "java/lang/Integer" "DigitTens" "[B") (.int (Int32.ofNat j))) (.int (nI (48 + j / 10)))) := by decide +kernel
/-- a text's words, from the place base on -/
def strB (q : Nat × String × Nat) : Bool :=
  decide (gvn[q.2.2]? = some (.exactly (.string RL q.1) "java/lang/String")) && (decide (gvn[q.2.2 + 1]? = some (.eq (.field (.string RL q.1) "java/lang/String" "coder" "B") (.int 0))) &&
  (decide (gvn[q.2.2 + 2]? = some (.arrayOf (.field (.string RL q.1) "java/lang/String" "value" "[B") .byte)) && (decide (gvn[q.2.2 + 3]? = some (.eq (.length (.field (.string RL q.1) "java/lang/String" "value" "[B")) (.int (Int32.ofNat (cds q.2.1).length)))) &&
  (decide ((cds q.2.1).length < 60) && (List.range (cds q.2.1).length).all (fun j => decide (gvn[q.2.2 + 4 + j]? = some (.eq (.elem (.field (.string RL q.1) "java/lang/String" "value" "[B") (.int (Int32.ofNat j))) (.int ((cds q.2.1).getD j 0)))))))))
def lwSb : List (Nat × String × Nat) := [(146, "w", 788), (154, ";w", 793), (180, ";g99", 799), (182, "w3", 807), (184, "n77", 813), (186, "l5:123", 820), (192, "w12", 830), (194, "g", 837), (196, "l5", 842), (198, "", 848), (200, "w1;", 852), (202, "n123", 859), (204, "r0;", 867), (206, "x", 874), (230, "l1:", 879), (232, ";l2:", 886), (234, ";q1:2;l3:", 894), (236, "16=0 4=1 2=2 2. 4=3 4. 32.", 907), (245, "16=0 4. 2=1 2. 4=2 4. 32.", 937), (247, "16=0 4. 1=1 1. 2. 4=2 4. 32.", 966), (249, "16=0 8. 4=2 4=1 32.", 998), (251, "16=0 8=1 4=2 4. 32.", 1021), (253, "16=0 8=1 8. 32.", 1044), (255, "64=0", 1063), (261, "2. 2=0 4. 8. 16. 2=1 2. 4. 8. 16.", 1071)]
theorem lwSb_ok : lwSb.all strB = true := by decide +kernel
theorem lwSb_eq : lwSb.map (fun q => (q.1, q.2.1)) = lwS := rfl
theorem lwS_ref : ∀ q ∈ lwS, (Cond.stringRef RL q.1 q.2) ∈ lw_tbl := List.forall_mem_cons.mpr ⟨tin_6 _ (List.mem_of_getElem? (i := 81) rfl), List.forall_mem_cons.mpr ⟨tin_6 _ (List.mem_of_getElem? (i := 82) rfl), List.forall_mem_cons.mpr ⟨tin_6 _ (List.mem_of_getElem? (i := 83) rfl), List.forall_mem_cons.mpr ⟨tin_6 _ (List.mem_of_getElem? (i := 84) rfl), List.forall_mem_cons.mpr ⟨tin_6 _ (List.mem_of_getElem? (i := 85) rfl), List.forall_mem_cons.mpr ⟨tin_6 _ (List.mem_of_getElem? (i := 86) rfl), List.forall_mem_cons.mpr ⟨tin_6 _ (List.mem_of_getElem? (i := 87) rfl), List.forall_mem_cons.mpr ⟨tin_6 _ (List.mem_of_getElem? (i := 88) rfl), List.forall_mem_cons.mpr ⟨tin_6 _ (List.mem_of_getElem? (i := 89) rfl), List.forall_mem_cons.mpr ⟨tin_6 _ (List.mem_of_getElem? (i := 90) rfl), List.forall_mem_cons.mpr ⟨tin_6 _ (List.mem_of_getElem? (i := 91) rfl), List.forall_mem_cons.mpr ⟨tin_6 _ (List.mem_of_getElem? (i := 92) rfl), List.forall_mem_cons.mpr ⟨tin_6 _ (List.mem_of_getElem? (i := 93) rfl), List.forall_mem_cons.mpr ⟨tin_6 _ (List.mem_of_getElem? (i := 94) rfl), List.forall_mem_cons.mpr ⟨tin_6 _ (List.mem_of_getElem? (i := 95) rfl), List.forall_mem_cons.mpr ⟨tin_6 _ (List.mem_of_getElem? (i := 96) rfl), List.forall_mem_cons.mpr ⟨tin_6 _ (List.mem_of_getElem? (i := 97) rfl), List.forall_mem_cons.mpr ⟨tin_6 _ (List.mem_of_getElem? (i := 98) rfl), List.forall_mem_cons.mpr ⟨tin_6 _ (List.mem_of_getElem? (i := 99) rfl), List.forall_mem_cons.mpr ⟨tin_6 _ (List.mem_of_getElem? (i := 100) rfl), List.forall_mem_cons.mpr ⟨tin_6 _ (List.mem_of_getElem? (i := 101) rfl), List.forall_mem_cons.mpr ⟨tin_6 _ (List.mem_of_getElem? (i := 102) rfl), List.forall_mem_cons.mpr ⟨tin_6 _ (List.mem_of_getElem? (i := 103) rfl), List.forall_mem_cons.mpr ⟨tin_6 _ (List.mem_of_getElem? (i := 104) rfl), List.forall_mem_cons.mpr ⟨tin_6 _ (List.mem_of_getElem? (i := 105) rfl), fun _ h => absurd h List.not_mem_nil⟩⟩⟩⟩⟩⟩⟩⟩⟩⟩⟩⟩⟩⟩⟩⟩⟩⟩⟩⟩⟩⟩⟩⟩⟩
section
variable {s : State} {b : Nat} {g : Nat × Nat}
theorem ext_G (hts : ∀ w ∈ lw_tbl, w.before #[Value.ref b] s = true) (hgv : (Jvm.Cond.and given_1 narrow_1).before #[Value.ref b] s = true) (hA : ∀ a : Nat, a < s.heap.size → ¬ aD g a) : ∃ t1 t2 : Nat, PrG t1 t2 g s := by
  have hfl := flat_of_before _ hgv
  have hm : ∀ (i : Nat) (w : Cond), gvn[i]? = some w → w.before #[Value.ref b] s = true := fun i w h => hfl w (List.mem_of_getElem? h)
  obtain ⟨t1, e1, h1⟩ := va_Tof (args := #[Value.ref b]) (N := 100) (f := fun j => .int (nI (48 + j % 10))) (A := aD g) (by decide) (hm _ _ gv_do.1) (va_eqt (hm _ _ gv_do.2)) (fun j hj => va_eqt (hm _ _ (gv_doE j hj))) hA
  obtain ⟨t2, e2, h2⟩ := va_Tof (args := #[Value.ref b]) (N := 100) (f := fun j => .int (nI (48 + j / 10))) (A := aD g) (by decide) (hm _ _ gv_dt.1) (va_eqt (hm _ _ gv_dt.2)) (fun j hj => va_eqt (hm _ _ (gv_dtE j hj))) hA
  exact ⟨t1, t2, va_Zof (hts _ ls_cs) (hts _ iw_J0.1) (va_eqt (hm _ _ gv_cs)) hA, va_Zref (hts _ ls_do) (hts _ iw_J6.1) e1 hA, va_Zref (hts _ ls_dt) (hts _ iw_J6.1) e2 hA, h1, h2, va_Zqof (hts _ ls_sf) (hts _ iw_J3.1) (hm _ _ gv_sf) hA⟩
theorem ext_S {m : MethodId} (hown : s.vm.findClass RL = some m.cls) (hts : ∀ w ∈ lw_tbl, w.before #[Value.ref b] s = true) (hgv : (Jvm.Cond.and given_1 narrow_1).before #[Value.ref b] s = true) (hA : ∀ a : Nat, a < s.heap.size → ¬ aD g a) : ∀ q ∈ lwS, ∃ sa sd : Nat, vk_R RL q.1 q.2 sa s ∧ PrS sa sd (cds q.2) g s := by
  have hfl := flat_of_before _ hgv
  have hm : ∀ (i : Nat) (w : Cond), gvn[i]? = some w → w.before #[Value.ref b] s = true := fun i w h => hfl w (List.mem_of_getElem? h)
  obtain ⟨t1, t2, hG⟩ := ext_G hts hgv hA
  intro q hq
  have hq2 := hq
  rw [← lwSb_eq] at hq2
  obtain ⟨⟨k, tx, base⟩, hb1, rfl⟩ := List.mem_map.mp hq2
  have hb := List.all_eq_true.mp lwSb_ok _ hb1
  simp only [strB, Bool.and_eq_true, decide_eq_true_eq, List.all_eq_true] at hb
  obtain ⟨b1, b2, b3, b4, b5, b6⟩ := hb
  obtain ⟨adK, adV, hS, hev⟩ := vk_Sof (args := #[Value.ref b]) (s := s) (N := 1) (tm := fun _ => .string RL k) (len := [(cds tx).length]) (byt := [cds tx]) (A := aD g)
    (fun i hi => by obtain rfl : i = 0 := (by omega); show (cds tx).length < _; omega) (fun i hi => hm _ _ b1) (fun i hi => hm _ _ b2) (fun i hi => hm _ _ b3) (fun i hi => by obtain rfl : i = 0 := (by omega); exact hm _ _ b4)
    (fun i hi j hj => by obtain rfl : i = 0 := (by omega); exact hm _ _ (b6 j (List.mem_range.mpr hj))) (fun i j hi hj hne => absurd (show i = j by omega) hne) hA
  have h0 := hS.1 0 (by decide)
  have hw := hts _ (lwS_ref _ hq)
  obtain ⟨kk, cf, i, a, -, -, -, -, -, hev2⟩ := Cond.stringRef_spec hown hw
  have ea : a = adK 0 := by
    have h9 := hev2.symm.trans (hev 0 (by decide))
    exact Value.ref.inj (Option.some.inj h9)
  subst ea
  exact ⟨adK 0, adV 0, vk_R.of hw hev2, h0.1, h0.2.1, h0.2.2.1, h0.2.2.2, hG.1, hG.2.2.2.2.2⟩
end

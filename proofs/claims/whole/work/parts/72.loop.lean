/-! ===== the law's loop ===== -/
theorem nI_len3 {a m : Nat} (ha : a < 2 ^ 20) (hm : m < 2 ^ 20) : nI a - 3 < nI m ↔ a < m + 3 := by
  have e : (nI a - 3).toInt = (a : Int) - 3 := by
    show (nI a - nI 3).toInt = _
    rw [Int32.toInt_sub, nI_toInt (by omega), nI_toInt (by omega)]
    rw [Int.bmod_eq_of_le] <;> omega
  rw [Int32.lt_iff_toInt_lt, e, nI_toInt (by omega)]
  omega
theorem and63 (x : Int32) : ∃ a, a < 64 ∧ x &&& 63 = nI a := by
  refine ⟨x.toBitVec.toNat % 64, Nat.mod_lt _ (by omega), ?_⟩
  rw [← Int32.toBitVec_inj]
  apply BitVec.eq_of_toNat_eq
  rw [Int32.toBitVec_and, BitVec.toNat_and]
  have h1 : (63 : Int32).toBitVec.toNat = 2 ^ 6 - 1 := by decide
  rw [h1, Nat.and_two_pow_sub_one_eq_mod]
  have h2 : (nI (x.toBitVec.toNat % 64)).toBitVec.toNat = x.toBitVec.toNat % 64 := by
    show (BitVec.ofNat 32 (x.toBitVec.toNat % 64)).toNat = _
    rw [BitVec.toNat_ofNat, Nat.mod_eq_of_lt (by omega)]
  rw [h2]
theorem law_loop {Wk : tW} {kc ks len : Nat} {xs : Nat → Int32} (W : LawC Wk kc ks len xs) (hlen : len ≤ 1536) : ∀ (j m k n : Nat) (X : GS), Rel X → len ≤ m + 3 * j + 2 → m ≤ 2000 + 3 * (600 - j) → j ≤ 600 → k + 2 * j ≤ kc → n + 12 * j ≤ ks → Wk k n 28 (LOC (nI m)) [] (mkH X) := by
  have K := W.1
  have start : ∀ (m k n : Nat) (X : GS), m < 100000 → k ≤ kc → n ≤ ks → (m + 3 ≤ len → Wk k n 37 (LOC (nI m)) [] (mkH X)) → Wk k n 28 (LOC (nI m)) [] (mkH X) := by
    intro m k n X hm hk hn go
    refine K.iload (q := 30) dL_law_28 rfl rfl ?_
    refine K.aload_n (q := 31) dL_law_30 rfl rfl ?_
    refine W.2.2.1 _ _ _ 32 _ _ _ dL_law_31 rfl ?_
    refine K.iconst (q := 33) (v := 3) dL_law_32 rfl (by decide) ?_
    refine K.isub (q := 34) dL_law_33 rfl ?_
    refine K.icmp_gt (q := 37) (tgt := 1909) dL_law_34 rfl (by decide) (fun _ => ?_) (fun c => ?_)
    · refine K.iconst (q := 1910) (v := 1) dL_law_1909 rfl (by decide) ?_
      exact W.2.2.2 _ _ _ _ _ hk hn dL_law_1910
    · exact go (by
        have h9 : ¬ len < m + 3 := fun h => c ((nI_len3 (a := len) (m := m) (by omega) (by omega)).mpr h)
        omega)
  intro j
  induction j with
  | zero =>
    intro m k n X R hm hm2 hj hk hn
    exact start m k n X (by omega) (by omega) (by omega) (fun h => by omega)
  | succ j ih =>
    intro m k n X R hm hm2 hj hk hn
    refine start m k n X (by omega) (by omega) (by omega) (fun h3 => ?_)
    have tail : ∀ (k' n' : Nat) (Y : GS), Rel Y → k' + 2 * j ≤ kc → n' + 12 * j ≤ ks → Wk k' n' 1903 (LOC (nI m)) [] (mkH Y) := by
      intro k' n' Y RY hk' hn'
      refine K.iinc (q := 1906) (v := nI (m + 3)) dL_law_1903 rfl rfl ((Int32.ofNat_add m 3).symm) (by decide) rfl ?_
      refine K.goto (tgt := 28) dL_law_1906 (by decide) ?_
      exact ih (m + 3) k' n' Y RY (by omega) (by omega) (by omega) hk' hn'
    refine K.aload_n (q := 38) dL_law_37 rfl rfl ?_
    refine K.iload (q := 40) dL_law_38 rfl rfl ?_
    refine W.sld (q := 41) (m := m) (by omega) dL_law_40 rfl ?_
    refine K.bipush (q := 43) (v := 63) dL_law_41 rfl (by decide) ?_
    refine K.iand (q := 44) dL_law_43 rfl ?_
    obtain ⟨a, ha, ea⟩ := and63 (xs m)
    rw [ea]
    rcases (show a = 0 ∨ a = 1 ∨ a = 2 ∨ a = 3 ∨ a = 4 ∨ a = 5 ∨ a = 6 ∨ a = 7 ∨ a = 8 ∨ a = 9 ∨ a = 10 ∨ a = 11 ∨ a = 12 ∨ a = 13 ∨ a = 14 ∨ a = 15 ∨ a = 16 ∨ a = 17 ∨ a = 18 ∨ a = 19 ∨ a = 20 ∨ a = 21 ∨ a = 22 ∨ a = 23 ∨ a = 24 ∨ a = 25 ∨ a = 26 ∨ a = 27 ∨ a = 28 ∨ a = 29 ∨ a = 30 ∨ a = 31 ∨ a = 32 ∨ 33 ≤ a by omega) with rfl | rfl | rfl | rfl | rfl | rfl | rfl | rfl | rfl | rfl | rfl | rfl | rfl | rfl | rfl | rfl | rfl | rfl | rfl | rfl | rfl | rfl | rfl | rfl | rfl | rfl | rfl | rfl | rfl | rfl | rfl | rfl | rfl | h33
    · exact K.tableIn (off := 148) (tgt := 192) dL_law_44 (by decide) (by decide) rfl (by decide) (op_0 W R (m := m) (k := k) (n := n) (by omega) (by omega) (by omega) (fun Y RY => tail _ _ Y RY (by omega) (by omega)))
    · exact K.tableIn (off := 216) (tgt := 260) dL_law_44 (by decide) (by decide) rfl (by decide) (op_1 W R (m := m) (k := k) (n := n) (by omega) (by omega) (by omega) (fun Y RY => tail _ _ Y RY (by omega) (by omega)))
    · exact K.tableIn (off := 284) (tgt := 328) dL_law_44 (by decide) (by decide) rfl (by decide) (op_2 W R (m := m) (k := k) (n := n) (by omega) (by omega) (by omega) (fun Y RY => tail _ _ Y RY (by omega) (by omega)))
    · exact K.tableIn (off := 340) (tgt := 384) dL_law_44 (by decide) (by decide) rfl (by decide) (op_3 W R (m := m) (k := k) (n := n) (by omega) (by omega) (by omega) (fun Y RY => tail _ _ Y RY (by omega) (by omega)))
    · exact K.tableIn (off := 396) (tgt := 440) dL_law_44 (by decide) (by decide) rfl (by decide) (op_4 W R (m := m) (k := k) (n := n) (by omega) (by omega) (by omega) (fun Y RY => tail _ _ Y RY (by omega) (by omega)))
    · exact K.tableIn (off := 464) (tgt := 508) dL_law_44 (by decide) (by decide) rfl (by decide) (op_5 W R (m := m) (k := k) (n := n) (by omega) (by omega) (by omega) (fun Y RY => tail _ _ Y RY (by omega) (by omega)))
    · exact K.tableIn (off := 520) (tgt := 564) dL_law_44 (by decide) (by decide) rfl (by decide) (op_6 W R (m := m) (k := k) (n := n) (by omega) (by omega) (by omega) (fun Y RY => tail _ _ Y RY (by omega) (by omega)))
    · exact K.tableIn (off := 576) (tgt := 620) dL_law_44 (by decide) (by decide) rfl (by decide) (op_7 W R (m := m) (k := k) (n := n) (by omega) (by omega) (by omega) (fun Y RY => tail _ _ Y RY (by omega) (by omega)))
    · exact K.tableIn (off := 644) (tgt := 688) dL_law_44 (by decide) (by decide) rfl (by decide) (op_8 W R (m := m) (k := k) (n := n) (by omega) (by omega) (by omega) (fun Y RY => tail _ _ Y RY (by omega) (by omega)))
    · exact K.tableIn (off := 712) (tgt := 756) dL_law_44 (by decide) (by decide) rfl (by decide) (op_9 W R (m := m) (k := k) (n := n) (by omega) (by omega) (by omega) (fun Y RY => tail _ _ Y RY (by omega) (by omega)))
    · exact K.tableIn (off := 780) (tgt := 824) dL_law_44 (by decide) (by decide) rfl (by decide) (op_10 W R (m := m) (k := k) (n := n) (by omega) (by omega) (by omega) (fun Y RY => tail _ _ Y RY (by omega) (by omega)))
    · exact K.tableIn (off := 848) (tgt := 892) dL_law_44 (by decide) (by decide) rfl (by decide) (op_11 W R (m := m) (k := k) (n := n) (by omega) (by omega) (by omega) (fun Y RY => tail _ _ Y RY (by omega) (by omega)))
    · exact K.tableIn (off := 932) (tgt := 976) dL_law_44 (by decide) (by decide) rfl (by decide) (op_12 W R (m := m) (k := k) (n := n) (by omega) (by omega) (by omega) (fun Y RY => tail _ _ Y RY (by omega) (by omega)))
    · exact K.tableIn (off := 976) (tgt := 1020) dL_law_44 (by decide) (by decide) rfl (by decide) (op_13 W R (m := m) (k := k) (n := n) (by omega) (by omega) (by omega) (fun Y RY => tail _ _ Y RY (by omega) (by omega)))
    · exact K.tableIn (off := 1032) (tgt := 1076) dL_law_44 (by decide) (by decide) rfl (by decide) (op_14 W R (m := m) (k := k) (n := n) (by omega) (by omega) (by omega) (fun Y RY => tail _ _ Y RY (by omega) (by omega)))
    · exact K.tableIn (off := 1088) (tgt := 1132) dL_law_44 (by decide) (by decide) rfl (by decide) (op_15 W R (m := m) (k := k) (n := n) (by omega) (by omega) (by omega) (fun Y RY => tail _ _ Y RY (by omega) (by omega)))
    · exact K.tableIn (off := 1144) (tgt := 1188) dL_law_44 (by decide) (by decide) rfl (by decide) (op_16 W R (m := m) (k := k) (n := n) (by omega) (by omega) (by omega) (fun Y RY => tail _ _ Y RY (by omega) (by omega)))
    · exact K.tableIn (off := 1200) (tgt := 1244) dL_law_44 (by decide) (by decide) rfl (by decide) (op_17 W R (m := m) (k := k) (n := n) (by omega) (by omega) (by omega) (fun Y RY => tail _ _ Y RY (by omega) (by omega)))
    · exact K.tableIn (off := 1256) (tgt := 1300) dL_law_44 (by decide) (by decide) rfl (by decide) (op_18 W R (m := m) (k := k) (n := n) (by omega) (by omega) (by omega) (fun Y RY => tail _ _ Y RY (by omega) (by omega)))
    · exact K.tableIn (off := 1312) (tgt := 1356) dL_law_44 (by decide) (by decide) rfl (by decide) (op_19 W R (m := m) (k := k) (n := n) (by omega) (by omega) (fun Y RY => tail _ _ Y RY (by omega) (by omega)))
    · exact K.tableIn (off := 1325) (tgt := 1369) dL_law_44 (by decide) (by decide) rfl (by decide) (op_20 W R (m := m) (k := k) (n := n) (by omega) (by omega) (fun Y RY => tail _ _ Y RY (by omega) (by omega)))
    · exact K.tableIn (off := 1338) (tgt := 1382) dL_law_44 (by decide) (by decide) rfl (by decide) (op_21 W R (m := m) (k := k) (n := n) (by omega) (by omega) (by omega) (fun Y RY => tail _ _ Y RY (by omega) (by omega)))
    · exact K.tableIn (off := 1394) (tgt := 1438) dL_law_44 (by decide) (by decide) rfl (by decide) (op_22 W R (m := m) (k := k) (n := n) (by omega) (by omega) (by omega) (fun Y RY => tail _ _ Y RY (by omega) (by omega)))
    · exact K.tableIn (off := 1452) (tgt := 1496) dL_law_44 (by decide) (by decide) rfl (by decide) (op_23 W R (m := m) (k := k) (n := n) (by omega) (by omega) (by omega) (fun Y RY => tail _ _ Y RY (by omega) (by omega)))
    · exact K.tableIn (off := 1496) (tgt := 1540) dL_law_44 (by decide) (by decide) rfl (by decide) (op_24 W R (m := m) (k := k) (n := n) (by omega) (by omega) (fun Y RY => tail _ _ Y RY (by omega) (by omega)))
    · exact K.tableIn (off := 1509) (tgt := 1553) dL_law_44 (by decide) (by decide) rfl (by decide) (op_25 W R (m := m) (k := k) (n := n) (by omega) (by omega) (by omega) (fun Y RY => tail _ _ Y RY (by omega) (by omega)))
    · exact K.tableIn (off := 1581) (tgt := 1625) dL_law_44 (by decide) (by decide) rfl (by decide) (op_26 W R (m := m) (k := k) (n := n) (by omega) (by omega) (by omega) (fun Y RY => tail _ _ Y RY (by omega) (by omega)))
    · exact K.tableIn (off := 1637) (tgt := 1681) dL_law_44 (by decide) (by decide) rfl (by decide) (op_27 W R (m := m) (k := k) (n := n) (by omega) (by omega) (fun Y RY => tail _ _ Y RY (by omega) (by omega)))
    · exact K.tableIn (off := 1650) (tgt := 1694) dL_law_44 (by decide) (by decide) rfl (by decide) (op_28 W R (m := m) (k := k) (n := n) (by omega) (by omega) (by omega) (fun Y RY => tail _ _ Y RY (by omega) (by omega)))
    · exact K.tableIn (off := 1715) (tgt := 1759) dL_law_44 (by decide) (by decide) rfl (by decide) (op_29 W R (m := m) (k := k) (n := n) (by omega) (by omega) (fun Y RY => tail _ _ Y RY (by omega) (by omega)))
    · exact K.tableIn (off := 1758) (tgt := 1802) dL_law_44 (by decide) (by decide) rfl (by decide) (op_30 W R (m := m) (k := k) (n := n) (by omega) (by omega) (by omega) (fun Y RY => tail _ _ Y RY (by omega) (by omega)))
    · exact K.tableIn (off := 1802) (tgt := 1846) dL_law_44 (by decide) (by decide) rfl (by decide) (op_31 W R (m := m) (k := k) (n := n) (by omega) (by omega) (fun Y RY => tail _ _ Y RY (by omega) (by omega)))
    · exact K.tableIn (off := 1815) (tgt := 1859) dL_law_44 (by decide) (by decide) rfl (by decide) (op_32 W R (m := m) (k := k) (n := n) (by omega) (by omega) (by omega) (fun Y RY => tail _ _ Y RY (by omega) (by omega)))
    · refine K.tableOut (tgt := 1903) dL_law_44 (Or.inr ?_) (by decide) (tail _ _ X R (by omega) (by omega))
      rw [nI_toInt (by omega)]
      omega

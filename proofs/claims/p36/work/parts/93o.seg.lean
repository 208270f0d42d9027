/-! ===== p36: the law, 15: z, one piece; refused ===== -/
section
variable {F : FxT} {kc ks : Nat} {Wk : lW} {k n : Nat}
theorem seg_J4 (C : CoL [] F RL cL_law 12 20 kc ks Wk) {HS : aH} (hu : HS.1 = false) {ax az : Nat} {L : List (Option Value)} (h11 : L[11]? = some (some (.ref (az + 1000)))) {ta tb : List Int32} (hB : zD ta tb = true) (hO : zO ta tb = true) (hc : ChA (Z13 ta tb)) (hk : k + 2000 ≤ kc) (hn : n + 20000 ≤ ks)
    (kk : ChA (Z21 ta tb) → Wk (k + 2000) (n + 20000) 1082 L [] [(ax, HS), (az, mkH (Z21 ta tb))]) : Wk k n 938 L [] [(ax, HS), (az, mkH (Z13 ta tb))] := by
  simp only [zD, Bool.and_eq_true, decide_eq_true_eq] at hB
  obtain ⟨v1, e1, v2, l6, v3, e3, v4, l7, v5, e5, v6, e7, v8, e8, v9, e9, v10, e10, v11, e11, v12, e12, v13, e13⟩ := hB
  simp only [zO, Bool.and_eq_true, decide_eq_true_eq] at hO
  obtain ⟨m2, m4, m5, m7, m9, m11, m13, m15, m17, m18, m19, m20, m21, m22, m23, p2, p4, p5, p7, p9, p11, p13, p15, p17, p18, p19, p20, p21, p22, p23, -⟩ := hO
  have z14 : sGive (Z13 ta tb) 2 = Z14 ta tb := rfl
  have hc14 : ChA (Z14 ta tb) := by rw [← z14]; exact ch_give hc _
  have z15 : sLine (Z14 ta tb) = Z15 ta tb := rfl
  have hc15 : ChA (Z15 ta tb) := by rw [← z15]; exact ch_line hc14
  have z16 : sGiveAll (Z15 ta tb) 1 = Z16 ta tb := rfl
  have hc16 : ChA (Z16 ta tb) := by rw [← z16]; exact ch_giveAll hc15 _
  have z17 : sLine (Z16 ta tb) = Z17 ta tb := rfl
  have hc17 : ChA (Z17 ta tb) := by rw [← z17]; exact ch_line hc16
  have z18 : sLend (Z17 ta tb) 5 1 = Z18 ta tb := rfl
  have hc18 : ChA (Z18 ta tb) := by rw [← z18]; exact ch_lend hc17 _ _
  have z19 : sResize (Z18 ta tb) 0 2 = Z19 ta tb := rfl
  have hc19 : ChA (Z19 ta tb) := by rw [← z19]; exact ch_resize hc18 _ _
  have z20 : sWay (Z19 ta tb) 1 = Z20 ta tb := rfl
  have hc20 : ChA (Z20 ta tb) := by rw [← z20]; exact ch_way hc19 _
  have z21 : sLend (Z20 ta tb) 5 2 = Z21 ta tb := rfl
  have hc21 : ChA (Z21 ta tb) := by rw [← z21]; exact ch_lend hc20 _ _
  generalize Z13 ta tb = A13 at *
  generalize Z14 ta tb = A14 at *
  generalize Z15 ta tb = A15 at *
  generalize Z16 ta tb = A16 at *
  generalize Z17 ta tb = A17 at *
  generalize Z18 ta tb = A18 at *
  generalize Z19 ta tb = A19 at *
  generalize Z20 ta tb = A20 at *
  generalize Z21 ta tb = A21 at *
  have hv : unF ([(ax, HS)] ++ []) := fun q hq => by rw [List.mem_singleton.mp hq]; exact hu
  refine goW (ws' := [(ax, HS)] ++ (az, mkH A13) :: []) rfl ?_
  refine C.aload (q := 940) dL_law_938 rfl h11 ?_
  refine C.iconst (q := 941) (v := 2) dL_law_940 rfl (by decide) ?_
  have c1 := c7_give (X := A13) ⟨m13, p13⟩ 2 0
  rw [rT_0 e1, v1, z14] at c1
  refine C.cV (w1 := [(ax, HS)]) (S := []) (av := [.int 2]) (q := 944) prT_ok src_0 hv rfl rfl mkX7_give mw_L_41 (Ct.g (c1)) rfl (fix1 _) (fix1 _) rfl (by decide) rfl (Nat.le_of_ble_eq_true rfl) (by omega) (by omega) dL_law_941 rfl ?_
  refine C.if_ne (q := 947) (tgt := 1080) dL_law_944 rfl (by decide) (fun h => absurd rfl h) (fun _ => ?_)
  refine C.aload (q := 949) dL_law_947 rfl h11 ?_
  refine C.aload (q := 951) dL_law_949 rfl h11 ?_
  have c2 := c7_line A14 v2
  rw [z15] at c2
  refine C.cV (w1 := [(ax, HS)]) (S := [.ref (az + 1000)]) (av := []) (q := 954) prT_ok src_0 hv rfl rfl mkX7_line mw_L_208 (Ct.g (c2)) rfl fix0 (fix1 _) rfl (by decide) rfl (Nat.le_of_ble_eq_true rfl) (by omega) (by omega) dL_law_951 rfl ?_
  have q1 : (253, "16=0 8=1 8. 32.") ∈ lwS := by decide
  have cT := cch_lw _ q1
  rw [show cds (253, "16=0 8=1 8. 32.").2 = tx6 from by decide] at cT
  refine C.ldcs q1 dL_law_954 rfl (fun sa sd C1 => ?_)
  rw [show cds "16=0 8=1 8. 32." = tx6 from by decide] at C1
  refine C1.cS (w1 := [(ax, HS)]) (S := []) (av := [.int (nI tx6.length), .ref (sa + 1000)]) (q := 959) (Pr := PrS sa sd tx6) prS_ok (src_S (q := (sa, sd, tx6)) List.mem_cons_self) hv rfl rfl mkL_isLine mw_L_238 (L_isLine cT (by decide) l6 hc15) (fixIR _ _) (fix1 _) rfl (by decide) rfl (Nat.le_of_ble_eq_true rfl) (by omega) (by omega) dL_law_956 rfl ?_
  clear q1 cT C1
  refine C.if_eq (q := 962) (tgt := 1080) dL_law_959 rfl (by decide) (fun h => absurd h (by decide)) (fun _ => ?_)
  refine C.aload (q := 964) dL_law_962 rfl h11 ?_
  refine C.iconst (q := 965) (v := 1) dL_law_964 rfl (by decide) ?_
  have c3 := c7_giveAll (X := A15) ⟨m15, p15⟩ 1 0
  rw [rT_0 e3, v3, z16] at c3
  refine C.cV (w1 := [(ax, HS)]) (S := []) (av := [.int 1]) (q := 968) prT_ok src_0 hv rfl rfl mkX7_giveAll mw_L_45 (Ct.g (c3)) rfl (fix1 _) (fix1 _) rfl (by decide) rfl (Nat.le_of_ble_eq_true rfl) (by omega) (by omega) dL_law_965 rfl ?_
  refine C.iconst (q := 969) (v := 2) dL_law_968 rfl (by decide) ?_
  refine C.icmp_ne (q := 972) (tgt := 1080) dL_law_969 rfl (by decide) (fun h => absurd rfl h) (fun _ => ?_)
  refine C.aload (q := 974) dL_law_972 rfl h11 ?_
  refine C.aload (q := 976) dL_law_974 rfl h11 ?_
  have c4 := c7_line A16 v4
  rw [z17] at c4
  refine C.cV (w1 := [(ax, HS)]) (S := [.ref (az + 1000)]) (av := []) (q := 979) prT_ok src_0 hv rfl rfl mkX7_line mw_L_208 (Ct.g (c4)) rfl fix0 (fix1 _) rfl (by decide) rfl (Nat.le_of_ble_eq_true rfl) (by omega) (by omega) dL_law_976 rfl ?_
  have q1 : (255, "64=0") ∈ lwS := by decide
  have cT := cch_lw _ q1
  rw [show cds (255, "64=0").2 = tx7 from by decide] at cT
  refine C.ldcs q1 dL_law_979 rfl (fun sa sd C1 => ?_)
  rw [show cds "64=0" = tx7 from by decide] at C1
  refine C1.cS (w1 := [(ax, HS)]) (S := []) (av := [.int (nI tx7.length), .ref (sa + 1000)]) (q := 984) (Pr := PrS sa sd tx7) prS_ok (src_S (q := (sa, sd, tx7)) List.mem_cons_self) hv rfl rfl mkL_isLine mw_L_238 (L_isLine cT (by decide) l7 hc17) (fixIR _ _) (fix1 _) rfl (by decide) rfl (Nat.le_of_ble_eq_true rfl) (by omega) (by omega) dL_law_981 rfl ?_
  clear q1 cT C1
  refine C.if_eq (q := 987) (tgt := 1080) dL_law_984 rfl (by decide) (fun h => absurd h (by decide)) (fun _ => ?_)
  refine C.aload (q := 989) dL_law_987 rfl h11 ?_
  refine C.iconst (q := 990) (v := 0) dL_law_989 rfl (by decide) ?_
  refine C.iconst (q := 991) (v := 0) dL_law_990 rfl (by decide) ?_
  have c5 := c7_loanOf A17 0 0 e5
  rw [v5] at c5
  refine C.cV (w1 := [(ax, HS)]) (S := []) (av := [.int 0, .int 0]) (q := 994) prT_ok src_0 hv rfl rfl mkX7_loanOf mw_L_66 (Ct.g (c5)) rfl (fix2 _ _) (fix1 _) rfl (by decide) rfl (Nat.le_of_ble_eq_true rfl) (by omega) (by omega) dL_law_991 rfl ?_
  refine C.iconst (q := 995) (v := 4) dL_law_994 rfl (by decide) ?_
  refine C.icmp_ne (q := 998) (tgt := 1080) dL_law_995 rfl (by decide) (fun h => absurd rfl h) (fun _ => ?_)
  refine C.aload (q := 1000) dL_law_998 rfl h11 ?_
  refine C.iconst (q := 1001) (v := 4) dL_law_1000 rfl (by decide) ?_
  have c6 := c7_account A17 4 rfl
  rw [v6] at c6
  refine C.cV (w1 := [(ax, HS)]) (S := []) (av := [.int 4]) (q := 1004) prT_ok src_0 hv rfl rfl mkX7_account mw_L_63 (Ct.g (c6)) rfl (fix1 _) (fix1 _) rfl (by decide) rfl (Nat.le_of_ble_eq_true rfl) (by omega) (by omega) dL_law_1001 rfl ?_
  refine C.if_ne (q := 1007) (tgt := 1080) dL_law_1004 rfl (by decide) (fun h => absurd rfl h) (fun _ => ?_)
  refine C.aload (q := 1009) dL_law_1007 rfl h11 ?_
  refine C.iconst (q := 1010) (v := 0) dL_law_1009 rfl (by decide) ?_
  refine C.iconst (q := 1011) (v := 5) dL_law_1010 rfl (by decide) ?_
  refine C.iconst (q := 1012) (v := 1) dL_law_1011 rfl (by decide) ?_
  have ea : ∀ r, aR "java/lang/UnsupportedOperationException" r = -2 := fun r => rfl
  have c7 := L_act0 (X := A17) ⟨m17, p17⟩ 5 1
  rw [e7, ea, z18] at c7
  refine C.cSX (w1 := [(ax, HS)]) (S := []) (av := [.int 0, .int 5, .int 1]) (q := 1015) prT_ok src_0 hv rfl rfl mkL_act owL_act swL_act (by decide) mw_L_30 (Ct.g (c7)) (fun _ _ => rfl) (fix1 _) rfl (by decide) rfl (Nat.le_of_ble_eq_true rfl) (by omega) (by omega) dL_law_1012 rfl ?_
  refine C.bipush (q := 1017) (v := -2) dL_law_1015 rfl (by decide) ?_
  refine C.icmp_ne (q := 1020) (tgt := 1080) dL_law_1017 rfl (by decide) (fun h => absurd rfl h) (fun _ => ?_)
  refine C.aload (q := 1022) dL_law_1020 rfl h11 ?_
  refine C.iconst (q := 1023) (v := 0) dL_law_1022 rfl (by decide) ?_
  have c8 := c7_refusal A18 0 e8
  rw [v8] at c8
  refine C.cV (w1 := [(ax, HS)]) (S := []) (av := [.int 0]) (q := 1026) prT_ok src_0 hv rfl rfl mkX7_refusal mw_L_176 (Ct.g (c8)) rfl (fix1 _) (fix1 _) rfl (by decide) rfl (Nat.le_of_ble_eq_true rfl) (by omega) (by omega) dL_law_1023 rfl ?_
  refine C.iconst (q := 1027) (v := 2) dL_law_1026 rfl (by decide) ?_
  refine C.icmp_ne (q := 1030) (tgt := 1080) dL_law_1027 rfl (by decide) (fun h => absurd rfl h) (fun _ => ?_)
  refine C.aload (q := 1032) dL_law_1030 rfl h11 ?_
  refine C.iconst (q := 1033) (v := 1) dL_law_1032 rfl (by decide) ?_
  have c9 := c7_refusal A18 1 e9
  rw [v9] at c9
  refine C.cV (w1 := [(ax, HS)]) (S := []) (av := [.int 1]) (q := 1036) prT_ok src_0 hv rfl rfl mkX7_refusal mw_L_176 (Ct.g (c9)) rfl (fix1 _) (fix1 _) rfl (by decide) rfl (Nat.le_of_ble_eq_true rfl) (by omega) (by omega) dL_law_1033 rfl ?_
  refine C.if_ne (q := 1039) (tgt := 1080) dL_law_1036 rfl (by decide) (fun h => absurd rfl h) (fun _ => ?_)
  refine C.aload (q := 1041) dL_law_1039 rfl h11 ?_
  refine C.iconst (q := 1042) (v := 0) dL_law_1041 rfl (by decide) ?_
  refine C.iconst (q := 1043) (v := 2) dL_law_1042 rfl (by decide) ?_
  have c10 := c7_resize (X := A18) ⟨m18, p18⟩ 0 2
  rw [rT_0 e10, v10, z19] at c10
  refine C.cV (w1 := [(ax, HS)]) (S := []) (av := [.int 0, .int 2]) (q := 1046) prT_ok src_0 hv rfl rfl mkX7_resize mw_L_48 (Ct.g (c10)) rfl (fix2 _ _) (fix1 _) rfl (by decide) rfl (Nat.le_of_ble_eq_true rfl) (by omega) (by omega) dL_law_1043 rfl ?_
  refine C.if_ne (q := 1049) (tgt := 1080) dL_law_1046 rfl (by decide) (fun h => absurd rfl h) (fun _ => ?_)
  refine C.aload (q := 1051) dL_law_1049 rfl h11 ?_
  refine C.iconst (q := 1052) (v := 1) dL_law_1051 rfl (by decide) ?_
  have c11 := c7_way (X := A19) ⟨m19, p19⟩ 1 0
  rw [rT_0 e11, v11, z20] at c11
  refine C.cV (w1 := [(ax, HS)]) (S := []) (av := [.int 1]) (q := 1055) prT_ok src_0 hv rfl rfl mkX7_way mw_L_51 (Ct.g (c11)) rfl (fix1 _) (fix1 _) rfl (by decide) rfl (Nat.le_of_ble_eq_true rfl) (by omega) (by omega) dL_law_1052 rfl ?_
  refine C.if_ne (q := 1058) (tgt := 1080) dL_law_1055 rfl (by decide) (fun h => absurd rfl h) (fun _ => ?_)
  refine C.aload (q := 1060) dL_law_1058 rfl h11 ?_
  refine C.iconst (q := 1061) (v := 5) dL_law_1060 rfl (by decide) ?_
  refine C.iconst (q := 1062) (v := 2) dL_law_1061 rfl (by decide) ?_
  have c12 := c7_lend (X := A20) ⟨m20, p20⟩ 5 2
  rw [rT_0 e12, v12, z21] at c12
  refine C.cV (w1 := [(ax, HS)]) (S := []) (av := [.int 5, .int 2]) (q := 1065) prT_ok src_0 hv rfl rfl mkX7_lend mw_L_34 (Ct.g (c12)) rfl (fix2 _ _) (fix1 _) rfl (by decide) rfl (Nat.le_of_ble_eq_true rfl) (by omega) (by omega) dL_law_1062 rfl ?_
  refine C.iconst (q := 1066) (v := 1) dL_law_1065 rfl (by decide) ?_
  refine C.icmp_ne (q := 1069) (tgt := 1080) dL_law_1066 rfl (by decide) (fun h => absurd rfl h) (fun _ => ?_)
  refine C.aload (q := 1071) dL_law_1069 rfl h11 ?_
  refine C.iconst (q := 1072) (v := 1) dL_law_1071 rfl (by decide) ?_
  refine C.iconst (q := 1073) (v := 2) dL_law_1072 rfl (by decide) ?_
  have c13 := c7_loanOf A21 1 2 e13
  rw [v13] at c13
  refine C.cV (w1 := [(ax, HS)]) (S := []) (av := [.int 1, .int 2]) (q := 1076) prT_ok src_0 hv rfl rfl mkX7_loanOf mw_L_66 (Ct.g (c13)) rfl (fix2 _ _) (fix1 _) rfl (by decide) rfl (Nat.le_of_ble_eq_true rfl) (by omega) (by omega) dL_law_1073 rfl ?_
  refine C.iconst (q := 1077) (v := 2) dL_law_1076 rfl (by decide) ?_
  refine C.icmp_eq (q := 1080) (tgt := 1082) dL_law_1077 rfl (by decide) (fun _ => ?_) (fun h => absurd rfl h)
  exact C.wd (by omega) (by omega) (kk hc21)
end

/-! ===== p36: the law, 16: z, the last ways ===== -/
section
variable {F : FxT} {kc ks : Nat} {Wk : lW} {k n : Nat}
theorem seg_J5 (C : CoL [] F RL cL_law 12 20 kc ks Wk) {HS : aH} (hu : HS.1 = false) {ax az : Nat} {L : List (Option Value)} (h11 : L[11]? = some (some (.ref (az + 1000)))) {ta tb : List Int32} (hB : zE ta tb = true) (hO : zO ta tb = true) (hc : ChA (Z21 ta tb)) (hk : k + 2000 ≤ kc) (hn : n + 20000 ≤ ks)
    (kk : ChA (Z25 ta tb) → Wk (k + 2000) (n + 20000) 1172 L [] [(ax, HS), (az, mkH (Z25 ta tb))]) : Wk k n 1082 L [] [(ax, HS), (az, mkH (Z21 ta tb))] := by
  simp only [zE, Bool.and_eq_true, decide_eq_true_eq] at hB
  obtain ⟨v1, e1, v2, e2, v3, v4, e4, v5, l8, v6, e6, v7, e7, e8, v8⟩ := hB
  simp only [zO, Bool.and_eq_true, decide_eq_true_eq] at hO
  obtain ⟨m2, m4, m5, m7, m9, m11, m13, m15, m17, m18, m19, m20, m21, m22, m23, p2, p4, p5, p7, p9, p11, p13, p15, p17, p18, p19, p20, p21, p22, p23, -⟩ := hO
  have z22 : sWay (Z21 ta tb) 2 = Z22 ta tb := rfl
  have hc22 : ChA (Z22 ta tb) := by rw [← z22]; exact ch_way hc _
  have z23 : sAsk (Z22 ta tb) 6 2 = Z23 ta tb := rfl
  have hc23 : ChA (Z23 ta tb) := by rw [← z23]; exact ch_ask hc22 _ _
  have z24 : sGive (Z23 ta tb) 0 = Z24 ta tb := rfl
  have hc24 : ChA (Z24 ta tb) := by rw [← z24]; exact ch_give hc23 _
  have z25 : sLine (Z24 ta tb) = Z25 ta tb := rfl
  have hc25 : ChA (Z25 ta tb) := by rw [← z25]; exact ch_line hc24
  generalize Z21 ta tb = A21 at *
  generalize Z22 ta tb = A22 at *
  generalize Z23 ta tb = A23 at *
  generalize Z24 ta tb = A24 at *
  generalize Z25 ta tb = A25 at *
  have hv : unF ([(ax, HS)] ++ []) := fun q hq => by rw [List.mem_singleton.mp hq]; exact hu
  refine goW (ws' := [(ax, HS)] ++ (az, mkH A21) :: []) rfl ?_
  refine C.aload (q := 1084) dL_law_1082 rfl h11 ?_
  refine C.iconst (q := 1085) (v := 2) dL_law_1084 rfl (by decide) ?_
  have c1 := c7_way (X := A21) ⟨m21, p21⟩ 2 0
  rw [rT_0 e1, v1, z22] at c1
  refine C.cV (w1 := [(ax, HS)]) (S := []) (av := [.int 2]) (q := 1088) prT_ok src_0 hv rfl rfl mkX7_way mw_L_51 (Ct.g (c1)) rfl (fix1 _) (fix1 _) rfl (by decide) rfl (Nat.le_of_ble_eq_true rfl) (by omega) (by omega) dL_law_1085 rfl ?_
  refine C.iconst (q := 1089) (v := 1) dL_law_1088 rfl (by decide) ?_
  refine C.icmp_ne (q := 1092) (tgt := 1170) dL_law_1089 rfl (by decide) (fun h => absurd rfl h) (fun _ => ?_)
  refine C.aload (q := 1094) dL_law_1092 rfl h11 ?_
  refine C.bipush (q := 1096) (v := 6) dL_law_1094 rfl (by decide) ?_
  refine C.iconst (q := 1097) (v := 2) dL_law_1096 rfl (by decide) ?_
  have c2 := c7_ask (X := A22) ⟨m22, p22⟩ 6 2
  rw [rT_0 e2, v2, z23] at c2
  refine C.cV (w1 := [(ax, HS)]) (S := []) (av := [.int 6, .int 2]) (q := 1100) prT_ok src_0 hv rfl rfl mkX7_ask mw_L_38 (Ct.g (c2)) rfl (fix2 _ _) (fix1 _) rfl (by decide) rfl (Nat.le_of_ble_eq_true rfl) (by omega) (by omega) dL_law_1097 rfl ?_
  refine C.bipush (q := 1102) (v := 32) dL_law_1100 rfl (by decide) ?_
  refine C.icmp_ne (q := 1105) (tgt := 1170) dL_law_1102 rfl (by decide) (fun h => absurd rfl h) (fun _ => ?_)
  refine C.aload (q := 1107) dL_law_1105 rfl h11 ?_
  refine C.cV (w1 := [(ax, HS)]) (S := []) (av := []) (q := 1110) prT_ok src_0 hv rfl rfl mkX7_isWell mw_L_257 (Ct.g (c7_isWell A23 v3)) rfl fix0 (fix1 _) rfl (by decide) rfl (Nat.le_of_ble_eq_true rfl) (by omega) (by omega) dL_law_1107 rfl ?_
  refine C.iconst (q := 1111) (v := 1) dL_law_1110 rfl (by decide) ?_
  refine C.icmp_ne (q := 1114) (tgt := 1170) dL_law_1111 rfl (by decide) (fun h => absurd rfl h) (fun _ => ?_)
  refine C.aload (q := 1116) dL_law_1114 rfl h11 ?_
  refine C.iconst (q := 1117) (v := 0) dL_law_1116 rfl (by decide) ?_
  have c4 := c7_give (X := A23) ⟨m23, p23⟩ 0 0
  rw [rT_0 e4, v4, z24] at c4
  refine C.cV (w1 := [(ax, HS)]) (S := []) (av := [.int 0]) (q := 1120) prT_ok src_0 hv rfl rfl mkX7_give mw_L_41 (Ct.g (c4)) rfl (fix1 _) (fix1 _) rfl (by decide) rfl (Nat.le_of_ble_eq_true rfl) (by omega) (by omega) dL_law_1117 rfl ?_
  refine C.if_ne (q := 1123) (tgt := 1170) dL_law_1120 rfl (by decide) (fun h => absurd rfl h) (fun _ => ?_)
  refine C.aload (q := 1125) dL_law_1123 rfl h11 ?_
  refine C.aload (q := 1127) dL_law_1125 rfl h11 ?_
  have c5 := c7_line A24 v5
  rw [z25] at c5
  refine C.cV (w1 := [(ax, HS)]) (S := [.ref (az + 1000)]) (av := []) (q := 1130) prT_ok src_0 hv rfl rfl mkX7_line mw_L_208 (Ct.g (c5)) rfl fix0 (fix1 _) rfl (by decide) rfl (Nat.le_of_ble_eq_true rfl) (by omega) (by omega) dL_law_1127 rfl ?_
  have q1 : (261, "2. 2=0 4. 8. 16. 2=1 2. 4. 8. 16.") ∈ lwS := by decide
  have cT := cch_lw _ q1
  rw [show cds (261, "2. 2=0 4. 8. 16. 2=1 2. 4. 8. 16.").2 = tx8 from by decide] at cT
  refine C.ldcw q1 dL_law_1130 rfl (fun sa sd C1 => ?_)
  rw [show cds "2. 2=0 4. 8. 16. 2=1 2. 4. 8. 16." = tx8 from by decide] at C1
  refine C1.cS (w1 := [(ax, HS)]) (S := []) (av := [.int (nI tx8.length), .ref (sa + 1000)]) (q := 1136) (Pr := PrS sa sd tx8) prS_ok (src_S (q := (sa, sd, tx8)) List.mem_cons_self) hv rfl rfl mkL_isLine mw_L_238 (L_isLine cT (by decide) l8 hc25) (fixIR _ _) (fix1 _) rfl (by decide) rfl (Nat.le_of_ble_eq_true rfl) (by omega) (by omega) dL_law_1133 rfl ?_
  clear q1 cT C1
  refine C.if_eq (q := 1139) (tgt := 1170) dL_law_1136 rfl (by decide) (fun h => absurd h (by decide)) (fun _ => ?_)
  refine C.aload (q := 1141) dL_law_1139 rfl h11 ?_
  refine C.iconst (q := 1142) (v := 1) dL_law_1141 rfl (by decide) ?_
  refine C.cV (w1 := [(ax, HS)]) (S := []) (av := [.int 1]) (q := 1145) prT_ok src_0 hv rfl rfl mkX7_would mw_L_242 (Ct.g (c7_would A25 v6 e6)) rfl (fix1 _) (fix1 _) rfl (by decide) rfl (Nat.le_of_ble_eq_true rfl) (by omega) (by omega) dL_law_1142 rfl ?_
  refine C.bipush (q := 1147) (v := 16) dL_law_1145 rfl (by decide) ?_
  refine C.icmp_ne (q := 1150) (tgt := 1170) dL_law_1147 rfl (by decide) (fun h => absurd rfl h) (fun _ => ?_)
  refine C.aload (q := 1152) dL_law_1150 rfl h11 ?_
  refine C.iconst (q := 1153) (v := 0) dL_law_1152 rfl (by decide) ?_
  refine C.cV (w1 := [(ax, HS)]) (S := []) (av := [.int 0]) (q := 1156) prT_ok src_0 hv rfl rfl mkX7_ranked mw_L_263 (Ct.g (c7_ranked A25 v7 e7)) rfl (fix1 _) (fix1 _) rfl (by decide) rfl (Nat.le_of_ble_eq_true rfl) (by omega) (by omega) dL_law_1153 rfl ?_
  refine C.iconst (q := 1157) (v := 5) dL_law_1156 rfl (by decide) ?_
  refine C.icmp_ne (q := 1160) (tgt := 1170) dL_law_1157 rfl (by decide) (fun h => absurd rfl h) (fun _ => ?_)
  refine C.aload (q := 1162) dL_law_1160 rfl h11 ?_
  have hnan : 0 < (A25.1 0).1 3 → vf_n64 (FP.ddiv (FP.i2d (r_X3_allSizes (A25.1 0) - r_X3_allAmounts (A25.1 0))) (FP.i2d ((A25.1 0).1 3))) := fun h => by
    have v9 := v8
    unfold r_X7_meanWaste at v9
    rw [if_pos h] at v9
    rw [v9]
    unfold vf_n64
    decide +kernel
  have c8 := c7_meanWaste A25 hnan e8
  rw [v8] at c8
  refine C.cV (w1 := [(ax, HS)]) (S := []) (av := []) (q := 1165) prT_ok src_0 hv rfl rfl mkX7_meanWaste mw_L_266 (Ct.g (c8)) rfl fix0 (fun _ _ => rfl) rfl (by decide) rfl (Nat.le_of_ble_eq_true rfl) (by omega) (by omega) dL_law_1162 rfl ?_
  refine C.dconst0 (q := 1166) dL_law_1165 rfl ?_
  refine C.dcmp (q := 1167) dL_law_1166 rfl ?_
  refine C.if_eq (q := 1170) (tgt := 1172) dL_law_1167 rfl (by decide) (fun _ => ?_) (fun h => absurd (by decide) h)
  exact C.wd (by omega) (by omega) (kk hc25)
end

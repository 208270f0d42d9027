/-! ===== p36: the law, 14: z, lines ===== -/
section
variable {F : FxT} {kc ks : Nat} {Wk : lW} {k n : Nat}
theorem seg_J3 (C : CoL [] F RL cL_law 12 20 kc ks Wk) {HS : aH} (hu : HS.1 = false) {ax az : Nat} {L : List (Option Value)} (h11 : L[11]? = some (some (.ref (az + 1000)))) {ta tb : List Int32} (hB : zC ta tb = true) (hO : zO ta tb = true) (hc : ChA (Z4 ta tb)) (hk : k + 2000 ≤ kc) (hn : n + 20000 ≤ ks)
    (kk : ChA (Z13 ta tb) → Wk (k + 2000) (n + 20000) 938 L [] [(ax, HS), (az, mkH (Z13 ta tb))]) : Wk k n 819 L [] [(ax, HS), (az, mkH (Z4 ta tb))] := by
  simp only [zC, Bool.and_eq_true, decide_eq_true_eq] at hB
  obtain ⟨v1, e1, v2, e2, v3, l2, v4, e4, v5, l3, v6, e6, v7, l4, v8, e8, v9, l5⟩ := hB
  simp only [zO, Bool.and_eq_true, decide_eq_true_eq] at hO
  obtain ⟨m2, m4, m5, m7, m9, m11, m13, m15, m17, m18, m19, m20, m21, m22, m23, p2, p4, p5, p7, p9, p11, p13, p15, p17, p18, p19, p20, p21, p22, p23, -⟩ := hO
  have z5 : sAsk (Z4 ta tb) 4 64 = Z5 ta tb := rfl
  have hc5 : ChA (Z5 ta tb) := by rw [← z5]; exact ch_ask hc _ _
  have z6 : sGive (Z5 ta tb) 1 = Z6 ta tb := rfl
  have hc6 : ChA (Z6 ta tb) := by rw [← z6]; exact ch_give hc5 _
  have z7 : sLine (Z6 ta tb) = Z7 ta tb := rfl
  have hc7 : ChA (Z7 ta tb) := by rw [← z7]; exact ch_line hc6
  have z8 : sResize (Z7 ta tb) 1 1 = Z8 ta tb := rfl
  have hc8 : ChA (Z8 ta tb) := by rw [← z8]; exact ch_resize hc7 _ _
  have z9 : sLine (Z8 ta tb) = Z9 ta tb := rfl
  have hc9 : ChA (Z9 ta tb) := by rw [← z9]; exact ch_line hc8
  have z10 : sResize (Z9 ta tb) 1 4 = Z10 ta tb := rfl
  have hc10 : ChA (Z10 ta tb) := by rw [← z10]; exact ch_resize hc9 _ _
  have z11 : sLine (Z10 ta tb) = Z11 ta tb := rfl
  have hc11 : ChA (Z11 ta tb) := by rw [← z11]; exact ch_line hc10
  have z12 : sResize (Z11 ta tb) 1 5 = Z12 ta tb := rfl
  have hc12 : ChA (Z12 ta tb) := by rw [← z12]; exact ch_resize hc11 _ _
  have z13 : sLine (Z12 ta tb) = Z13 ta tb := rfl
  have hc13 : ChA (Z13 ta tb) := by rw [← z13]; exact ch_line hc12
  generalize Z4 ta tb = A4 at *
  generalize Z5 ta tb = A5 at *
  generalize Z6 ta tb = A6 at *
  generalize Z7 ta tb = A7 at *
  generalize Z8 ta tb = A8 at *
  generalize Z9 ta tb = A9 at *
  generalize Z10 ta tb = A10 at *
  generalize Z11 ta tb = A11 at *
  generalize Z12 ta tb = A12 at *
  generalize Z13 ta tb = A13 at *
  have hv : unF ([(ax, HS)] ++ []) := fun q hq => by rw [List.mem_singleton.mp hq]; exact hu
  refine goW (ws' := [(ax, HS)] ++ (az, mkH A4) :: []) rfl ?_
  refine C.aload (q := 821) dL_law_819 rfl h11 ?_
  refine C.iconst (q := 822) (v := 4) dL_law_821 rfl (by decide) ?_
  refine C.bipush (q := 824) (v := 64) dL_law_822 rfl (by decide) ?_
  have c1 := c7_ask (X := A4) ⟨m4, p4⟩ 4 64
  rw [rT_0 e1, v1, z5] at c1
  refine C.cV (w1 := [(ax, HS)]) (S := []) (av := [.int 4, .int 64]) (q := 827) prT_ok src_0 hv rfl rfl mkX7_ask mw_L_38 (Ct.g (c1)) rfl (fix2 _ _) (fix1 _) rfl (by decide) rfl (Nat.le_of_ble_eq_true rfl) (by omega) (by omega) dL_law_824 rfl ?_
  refine C.iconst (q := 828) (v := -1) dL_law_827 rfl (by decide) ?_
  refine C.icmp_ne (q := 831) (tgt := 936) dL_law_828 rfl (by decide) (fun h => absurd rfl h) (fun _ => ?_)
  refine C.aload (q := 833) dL_law_831 rfl h11 ?_
  refine C.iconst (q := 834) (v := 1) dL_law_833 rfl (by decide) ?_
  have c2 := c7_give (X := A5) ⟨m5, p5⟩ 1 0
  rw [rT_0 e2, v2, z6] at c2
  refine C.cV (w1 := [(ax, HS)]) (S := []) (av := [.int 1]) (q := 837) prT_ok src_0 hv rfl rfl mkX7_give mw_L_41 (Ct.g (c2)) rfl (fix1 _) (fix1 _) rfl (by decide) rfl (Nat.le_of_ble_eq_true rfl) (by omega) (by omega) dL_law_834 rfl ?_
  refine C.if_ne (q := 840) (tgt := 936) dL_law_837 rfl (by decide) (fun h => absurd rfl h) (fun _ => ?_)
  refine C.aload (q := 842) dL_law_840 rfl h11 ?_
  refine C.aload (q := 844) dL_law_842 rfl h11 ?_
  have c3 := c7_line A6 v3
  rw [z7] at c3
  refine C.cV (w1 := [(ax, HS)]) (S := [.ref (az + 1000)]) (av := []) (q := 847) prT_ok src_0 hv rfl rfl mkX7_line mw_L_208 (Ct.g (c3)) rfl fix0 (fix1 _) rfl (by decide) rfl (Nat.le_of_ble_eq_true rfl) (by omega) (by omega) dL_law_844 rfl ?_
  have q1 : (245, "16=0 4. 2=1 2. 4=2 4. 32.") ∈ lwS := by decide
  have cT := cch_lw _ q1
  rw [show cds (245, "16=0 4. 2=1 2. 4=2 4. 32.").2 = tx2 from by decide] at cT
  refine C.ldcs q1 dL_law_847 rfl (fun sa sd C1 => ?_)
  rw [show cds "16=0 4. 2=1 2. 4=2 4. 32." = tx2 from by decide] at C1
  refine C1.cS (w1 := [(ax, HS)]) (S := []) (av := [.int (nI tx2.length), .ref (sa + 1000)]) (q := 852) (Pr := PrS sa sd tx2) prS_ok (src_S (q := (sa, sd, tx2)) List.mem_cons_self) hv rfl rfl mkL_isLine mw_L_238 (L_isLine cT (by decide) l2 hc7) (fixIR _ _) (fix1 _) rfl (by decide) rfl (Nat.le_of_ble_eq_true rfl) (by omega) (by omega) dL_law_849 rfl ?_
  clear q1 cT C1
  refine C.if_eq (q := 855) (tgt := 936) dL_law_852 rfl (by decide) (fun h => absurd h (by decide)) (fun _ => ?_)
  refine C.aload (q := 857) dL_law_855 rfl h11 ?_
  refine C.iconst (q := 858) (v := 1) dL_law_857 rfl (by decide) ?_
  refine C.iconst (q := 859) (v := 1) dL_law_858 rfl (by decide) ?_
  have c4 := c7_resize (X := A7) ⟨m7, p7⟩ 1 1
  rw [rT_0 e4, v4, z8] at c4
  refine C.cV (w1 := [(ax, HS)]) (S := []) (av := [.int 1, .int 1]) (q := 862) prT_ok src_0 hv rfl rfl mkX7_resize mw_L_48 (Ct.g (c4)) rfl (fix2 _ _) (fix1 _) rfl (by decide) rfl (Nat.le_of_ble_eq_true rfl) (by omega) (by omega) dL_law_859 rfl ?_
  refine C.bipush (q := 864) (v := 20) dL_law_862 rfl (by decide) ?_
  refine C.icmp_ne (q := 867) (tgt := 936) dL_law_864 rfl (by decide) (fun h => absurd rfl h) (fun _ => ?_)
  refine C.aload (q := 869) dL_law_867 rfl h11 ?_
  refine C.aload (q := 871) dL_law_869 rfl h11 ?_
  have c5 := c7_line A8 v5
  rw [z9] at c5
  refine C.cV (w1 := [(ax, HS)]) (S := [.ref (az + 1000)]) (av := []) (q := 874) prT_ok src_0 hv rfl rfl mkX7_line mw_L_208 (Ct.g (c5)) rfl fix0 (fix1 _) rfl (by decide) rfl (Nat.le_of_ble_eq_true rfl) (by omega) (by omega) dL_law_871 rfl ?_
  have q1 : (247, "16=0 4. 1=1 1. 2. 4=2 4. 32.") ∈ lwS := by decide
  have cT := cch_lw _ q1
  rw [show cds (247, "16=0 4. 1=1 1. 2. 4=2 4. 32.").2 = tx3 from by decide] at cT
  refine C.ldcs q1 dL_law_874 rfl (fun sa sd C1 => ?_)
  rw [show cds "16=0 4. 1=1 1. 2. 4=2 4. 32." = tx3 from by decide] at C1
  refine C1.cS (w1 := [(ax, HS)]) (S := []) (av := [.int (nI tx3.length), .ref (sa + 1000)]) (q := 879) (Pr := PrS sa sd tx3) prS_ok (src_S (q := (sa, sd, tx3)) List.mem_cons_self) hv rfl rfl mkL_isLine mw_L_238 (L_isLine cT (by decide) l3 hc9) (fixIR _ _) (fix1 _) rfl (by decide) rfl (Nat.le_of_ble_eq_true rfl) (by omega) (by omega) dL_law_876 rfl ?_
  clear q1 cT C1
  refine C.if_eq (q := 882) (tgt := 936) dL_law_879 rfl (by decide) (fun h => absurd h (by decide)) (fun _ => ?_)
  refine C.aload (q := 884) dL_law_882 rfl h11 ?_
  refine C.iconst (q := 885) (v := 1) dL_law_884 rfl (by decide) ?_
  refine C.iconst (q := 886) (v := 4) dL_law_885 rfl (by decide) ?_
  have c6 := c7_resize (X := A9) ⟨m9, p9⟩ 1 4
  rw [rT_0 e6, v6, z10] at c6
  refine C.cV (w1 := [(ax, HS)]) (S := []) (av := [.int 1, .int 4]) (q := 889) prT_ok src_0 hv rfl rfl mkX7_resize mw_L_48 (Ct.g (c6)) rfl (fix2 _ _) (fix1 _) rfl (by decide) rfl (Nat.le_of_ble_eq_true rfl) (by omega) (by omega) dL_law_886 rfl ?_
  refine C.bipush (q := 891) (v := 28) dL_law_889 rfl (by decide) ?_
  refine C.icmp_ne (q := 894) (tgt := 936) dL_law_891 rfl (by decide) (fun h => absurd rfl h) (fun _ => ?_)
  refine C.aload (q := 896) dL_law_894 rfl h11 ?_
  refine C.aload (q := 898) dL_law_896 rfl h11 ?_
  have c7 := c7_line A10 v7
  rw [z11] at c7
  refine C.cV (w1 := [(ax, HS)]) (S := [.ref (az + 1000)]) (av := []) (q := 901) prT_ok src_0 hv rfl rfl mkX7_line mw_L_208 (Ct.g (c7)) rfl fix0 (fix1 _) rfl (by decide) rfl (Nat.le_of_ble_eq_true rfl) (by omega) (by omega) dL_law_898 rfl ?_
  have q1 : (249, "16=0 8. 4=2 4=1 32.") ∈ lwS := by decide
  have cT := cch_lw _ q1
  rw [show cds (249, "16=0 8. 4=2 4=1 32.").2 = tx4 from by decide] at cT
  refine C.ldcs q1 dL_law_901 rfl (fun sa sd C1 => ?_)
  rw [show cds "16=0 8. 4=2 4=1 32." = tx4 from by decide] at C1
  refine C1.cS (w1 := [(ax, HS)]) (S := []) (av := [.int (nI tx4.length), .ref (sa + 1000)]) (q := 906) (Pr := PrS sa sd tx4) prS_ok (src_S (q := (sa, sd, tx4)) List.mem_cons_self) hv rfl rfl mkL_isLine mw_L_238 (L_isLine cT (by decide) l4 hc11) (fixIR _ _) (fix1 _) rfl (by decide) rfl (Nat.le_of_ble_eq_true rfl) (by omega) (by omega) dL_law_903 rfl ?_
  clear q1 cT C1
  refine C.if_eq (q := 909) (tgt := 936) dL_law_906 rfl (by decide) (fun h => absurd h (by decide)) (fun _ => ?_)
  refine C.aload (q := 911) dL_law_909 rfl h11 ?_
  refine C.iconst (q := 912) (v := 1) dL_law_911 rfl (by decide) ?_
  refine C.iconst (q := 913) (v := 5) dL_law_912 rfl (by decide) ?_
  have c8 := c7_resize (X := A11) ⟨m11, p11⟩ 1 5
  rw [rT_0 e8, v8, z12] at c8
  refine C.cV (w1 := [(ax, HS)]) (S := []) (av := [.int 1, .int 5]) (q := 916) prT_ok src_0 hv rfl rfl mkX7_resize mw_L_48 (Ct.g (c8)) rfl (fix2 _ _) (fix1 _) rfl (by decide) rfl (Nat.le_of_ble_eq_true rfl) (by omega) (by omega) dL_law_913 rfl ?_
  refine C.bipush (q := 918) (v := 16) dL_law_916 rfl (by decide) ?_
  refine C.icmp_ne (q := 921) (tgt := 936) dL_law_918 rfl (by decide) (fun h => absurd rfl h) (fun _ => ?_)
  refine C.aload (q := 923) dL_law_921 rfl h11 ?_
  refine C.aload (q := 925) dL_law_923 rfl h11 ?_
  have c9 := c7_line A12 v9
  rw [z13] at c9
  refine C.cV (w1 := [(ax, HS)]) (S := [.ref (az + 1000)]) (av := []) (q := 928) prT_ok src_0 hv rfl rfl mkX7_line mw_L_208 (Ct.g (c9)) rfl fix0 (fix1 _) rfl (by decide) rfl (Nat.le_of_ble_eq_true rfl) (by omega) (by omega) dL_law_925 rfl ?_
  have q1 : (251, "16=0 8=1 4=2 4. 32.") ∈ lwS := by decide
  have cT := cch_lw _ q1
  rw [show cds (251, "16=0 8=1 4=2 4. 32.").2 = tx5 from by decide] at cT
  refine C.ldcs q1 dL_law_928 rfl (fun sa sd C1 => ?_)
  rw [show cds "16=0 8=1 4=2 4. 32." = tx5 from by decide] at C1
  refine C1.cS (w1 := [(ax, HS)]) (S := []) (av := [.int (nI tx5.length), .ref (sa + 1000)]) (q := 933) (Pr := PrS sa sd tx5) prS_ok (src_S (q := (sa, sd, tx5)) List.mem_cons_self) hv rfl rfl mkL_isLine mw_L_238 (L_isLine cT (by decide) l5 hc13) (fixIR _ _) (fix1 _) rfl (by decide) rfl (Nat.le_of_ble_eq_true rfl) (by omega) (by omega) dL_law_930 rfl ?_
  clear q1 cT C1
  refine C.if_ne (q := 936) (tgt := 938) dL_law_933 rfl (by decide) (fun _ => ?_) (fun h => absurd h (by decide))
  exact C.wd (by omega) (by omega) (kk hc13)
end

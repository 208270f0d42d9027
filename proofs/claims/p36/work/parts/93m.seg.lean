/-! ===== p36: the law, 13: z, the first orders ===== -/
/-- the text of the orders -/
def tZ (a b : Nat) : List Int32 := [] ++ cds "l1:" ++ dgs a ++ cds ";l2:" ++ dgs b ++ cds ";q1:2;l3:" ++ dgs b
theorem tZ_x : ∀ a, a < 17 → ∀ b, b < 5 → tZ a b = ztx (dgs a) (dgs b) := by decide +kernel
theorem rk_z : ∀ a, a < 17 → ∀ b, b < 5 → (9 ≤ a → 3 ≤ b → rdK (tZ a b) 0 (-1) (nI b) 4 [(108, 1), (108, 2), (113, 1), (108, 3)] = true) := by decide +kernel
theorem Z1_6 : Z1.2.1 6 = 0 := by decide +kernel
section
variable {F : FxT} {kc ks : Nat} {Wk : lW} {k n : Nat}
theorem seg_J2 (C : CoL [] F RL cL_law 12 20 kc ks Wk) {HS : aH} (hu : HS.1 = false) {ax az a b : Nat} (a1 : 9 ≤ a) (a2 : a ≤ 16) (b1 : 3 ≤ b) (b2 : b ≤ 4) {L : List (Option Value)} (h11 : L[11]? = some (some (.ref (az + 1000)))) (h9 : L[9]? = some (some (.int (nI a)))) (h10 : L[10]? = some (some (.int (nI b)))) (hB : zB (nI a) (nI b) (dgs a) (dgs b) = true) (hO : zO (dgs a) (dgs b) = true) (hc : ChA Z1) (hk : k + 2000 ≤ kc) (hn : n + 20000 ≤ ks)
    (kk : ChA (Z4 (dgs a) (dgs b)) → Wk (k + 2000) (n + 20000) 819 L [] [(ax, HS), (az, mkH (Z4 (dgs a) (dgs b)))]) : Wk k n 640 L [] [(ax, HS), (az, mkH Z1)] := by
  simp only [zB, Bool.and_eq_true, decide_eq_true_eq] at hB
  obtain ⟨r2, r3, r4, v1, l1x, v2, v3, v4, e4, v5, e5, v6, e6, s6, v7, e7, v8, e8, v9, e9, v10⟩ := hB
  simp only [zO, Bool.and_eq_true, decide_eq_true_eq] at hO
  have r1 : okI ((Z2 (dgs a) (dgs b)).2.1 0) := ⟨hO.1, hO.2.2.2.2.2.2.2.2.2.2.2.2.2.2.2.1⟩
  have hm4 : Z1.2.1 4 = nI 0 := hO.2.2.2.2.2.2.2.2.2.2.2.2.2.2.2.2.2.2.2.2.2.2.2.2.2.2.2.2.2.2
  have hrk := rk_z a (by omega) b (by omega) a1 b1
  have eZ : typ (tZ a b) Z1 = Z2 (dgs a) (dgs b) := by rw [tZ_x a (by omega) b (by omega)]; rfl
  have z3 : rnS (Z2 (dgs a) (dgs b)) = Z3 (dgs a) (dgs b) := rfl
  have z4 : sLine (Z3 (dgs a) (dgs b)) = Z4 (dgs a) (dgs b) := rfl
  have la : 1 ≤ dgn a ∧ dgn a ≤ 2 := by unfold dgn; split <;> omega
  have lb : dgn b = 1 := if_pos (by omega)
  have l1 : (cds "l1:").length = 3 := rfl
  have l2 : (cds ";l2:").length = 4 := rfl
  have l3 : (cds ";q1:2;l3:").length = 9 := rfl
  have lT0 : (tZ a b).length = 18 + dgn a := by unfold tZ; simp only [List.length_append, List.length_nil, dgs_len, l1, l2, l3, lb]; omega
  have hch : ChA (Z3 (dgs a) (dgs b)) := by rw [← z3, ← eZ]; exact ch_run hc hrk hm4 Z1_6 (by omega) rfl (by rw [eZ]; exact r2)
  have hc4 : ChA (Z4 (dgs a) (dgs b)) := by rw [← z4]; exact ch_line hch
  clear hrk
  generalize Z4 (dgs a) (dgs b) = A4 at *
  generalize Z3 (dgs a) (dgs b) = A3 at *
  generalize Z2 (dgs a) (dgs b) = A2 at *
  generalize Z1 = A1 at *
  have u2 : unF [(ax, HS), (az, mkH A1)] := fun q hq => by
    rcases List.mem_cons.mp hq with rfl | hq
    · exact hu
    · rw [List.mem_singleton.mp hq]; rfl
  have hv : unF ([(ax, HS)] ++ []) := fun q hq => by rw [List.mem_singleton.mp hq]; exact hu
  have q1 : (230, "l1:") ∈ lwS := by decide
  have q2 : (232, ";l2:") ∈ lwS := by decide
  have q3 : (234, ";q1:2;l3:") ∈ lwS := by decide
  have o1 := okT_lw _ q1
  have o2 := okT_lw _ q2
  have o3 := okT_lw _ q3
  have c1 := cch_lw _ q1
  have c2 := cch_lw _ q2
  have c3 := cch_lw _ q3
  have oa := okT_dg a (by omega)
  have ob := okT_dg b (by omega)
  have ca := cch_dg a (by omega)
  have cb := cch_dg b (by omega)
  refine C.aload (q := 642) dL_law_640 rfl h11 ?_
  refine C.sbNew u2 (by decide) (Nat.le_of_ble_eq_true rfl) (by omega) (by omega) dL_law_642 dL_law_645 dL_law_646 (fun B => ?_)
  refine C.sbStr q1 u2 (by decide) (Nat.le_of_ble_eq_true rfl) (by omega) (by omega) o1 (by decide) (by decide) (by simp only [List.length_append, List.length_nil, dgs_len, l1, l2, l3, lb]; omega) dL_law_649 dL_law_651 ?_
  refine C.iload (q := 656) dL_law_654 rfl h9 ?_
  refine C.sbInt (by omega) u2 (by decide) (Nat.le_of_ble_eq_true rfl) (by omega) (by omega) (by decide) (by decide) (by simp only [List.length_append, List.length_nil, dgs_len, l1, l2, l3, lb]; omega) dL_law_656 ?_
  refine C.sbStr q2 u2 (by decide) (Nat.le_of_ble_eq_true rfl) (by omega) (by omega) o2 (by decide) (by decide) (by simp only [List.length_append, List.length_nil, dgs_len, l1, l2, l3, lb]; omega) dL_law_659 dL_law_661 ?_
  refine C.iload (q := 666) dL_law_664 rfl h10 ?_
  refine C.sbInt (by omega) u2 (by decide) (Nat.le_of_ble_eq_true rfl) (by omega) (by omega) (by decide) (by decide) (by simp only [List.length_append, List.length_nil, dgs_len, l1, l2, l3, lb]; omega) dL_law_666 ?_
  have ot : okT ([] ++ cds "l1:" ++ dgs a ++ cds ";l2:" ++ dgs b) := okT_app (okT_app (okT_app (okT_app (fun _ h => absurd h List.not_mem_nil) o1) oa) o2) ob
  refine C.sbStr1 q3 u2 (by decide) (Nat.le_of_ble_eq_true rfl) (by omega) (by omega) o3 ot (by simp only [List.length_append, List.length_nil, dgs_len, l1, l2, l3, lb]; omega) (by simp only [List.length_append, List.length_nil, dgs_len, l1, l2, l3, lb]; omega) (by simp only [List.length_append, List.length_nil, dgs_len, l1, l2, l3, lb]; omega) dL_law_669 dL_law_671 ?_
  refine C.iload (q := 676) dL_law_674 rfl h10 ?_
  refine C.sbInt (by omega) u2 (by decide) (Nat.le_of_ble_eq_true rfl) (by omega) (by omega) (Nat.le_of_ble_eq_true rfl) (by decide) (by simp only [List.length_append, List.length_nil, dgs_len, l1, l2, l3, lb]; omega) dL_law_676 ?_
  have oT : okT (tZ a b) := okT_app (okT_app ot o3) ob
  have cT : ∀ c ∈ tZ a b, cch c = c := cch_app (cch_app (cch_app (cch_app (cch_app (cch_app (fun _ h => absurd h List.not_mem_nil) c1) ca) c2) cb) c3) cb
  have eT : [] ++ cds "l1:" ++ dgs a ++ cds ";l2:" ++ dgs b ++ cds ";q1:2;l3:" ++ dgs b = tZ a b := rfl
  rw [eT]
  generalize arB 16 (ft ([] ++ cds "l1:" ++ dgs a ++ cds ";l2:" ++ dgs b)) = P0
  clear eT ot
  generalize tZ a b = t at *
  refine C.sbEnd u2 (by decide) (Nat.le_of_ble_eq_true rfl) (by omega) (by omega) (Nat.le_of_ble_eq_true rfl) (by decide) (by omega) (by omega) oT dL_law_679 ?_
  refine goW (ws' := [(ax, HS)] ++ (az, mkH A1) :: ([] ++ [(B, (false, (bs [P0] 34 t).length + 2, (hp (bs [P0] 34 t ++ [stO 4, arB t.length (ft t)])).2.2))])) rfl ?_
  refine C.cSv (w1 := [(ax, HS)]) (S := []) (av := [.ref (B + 3 + 1000)]) (q := 685) (Pr := PrS (B + 3) (B + (3 + 1)) t) prS_ok (src_top (w1 := [(ax, HS)]) (i := 3) rfl rfl rfl rfl (Nat.le_of_ble_eq_true rfl) (by omega)) (fun q hq => by
    rcases List.mem_cons.mp hq with rfl | hq
    · exact hu
    · rw [List.mem_singleton.mp hq]) rfl rfl mkL_put mw_L_160 (L_put cT hm4 (by omega)) (fixR _) rfl (by decide) rfl (Nat.le_of_ble_eq_true rfl) (by omega) (by omega) dL_law_682 rfl ?_
  refine goW (ws' := [(ax, HS), (az, mkH (typ t A1))] ++ (B, (false, (bs [P0] 34 t).length + 2, (hp (bs [P0] 34 t ++ [stO 4, arB t.length (ft t)])).2.2)) :: []) rfl ?_
  refine C.rm ?_
  rw [eZ]
  refine goW (ws' := [(ax, HS)] ++ (az, mkH A2) :: []) rfl ?_
  have cr := c7_run r1 r2
  rw [rT_0 r3, r4, z3] at cr
  refine C.aload (q := 687) dL_law_685 rfl h11 ?_
  refine C.cV (w1 := [(ax, HS)]) (S := []) (av := []) (q := 690) prT_ok src_0 hv rfl rfl mkX7_run mw_L_164 (Ct.g (cr)) rfl fix0 (fix1 _) rfl (by decide) rfl (Nat.le_of_ble_eq_true rfl) (by omega) (by omega) dL_law_687 rfl ?_
  refine C.iconst (q := 691) (v := 4) dL_law_690 rfl (by decide) ?_
  refine C.icmp_ne (q := 694) (tgt := 817) dL_law_691 rfl (by decide) (fun h => absurd rfl h) (fun _ => ?_)
  refine C.aload (q := 696) dL_law_694 rfl h11 ?_
  refine C.aload (q := 698) dL_law_696 rfl h11 ?_
  have d1 := c7_line A3 v1
  rw [z4] at d1
  refine C.cV (w1 := [(ax, HS)]) (S := [.ref (az + 1000)]) (av := []) (q := 701) prT_ok src_0 hv rfl rfl mkX7_line mw_L_208 (Ct.g (d1)) rfl fix0 (fix1 _) rfl (by decide) rfl (Nat.le_of_ble_eq_true rfl) (by omega) (by omega) dL_law_698 rfl ?_
  have q1 : (236, "16=0 4=1 2=2 2. 4=3 4. 32.") ∈ lwS := by decide
  have cT := cch_lw _ q1
  rw [show cds (236, "16=0 4=1 2=2 2. 4=3 4. 32.").2 = tx1 from by decide] at cT
  refine C.ldcs q1 dL_law_701 rfl (fun sa sd C1 => ?_)
  rw [show cds "16=0 4=1 2=2 2. 4=3 4. 32." = tx1 from by decide] at C1
  refine C1.cS (w1 := [(ax, HS)]) (S := []) (av := [.int (nI tx1.length), .ref (sa + 1000)]) (q := 706) (Pr := PrS sa sd tx1) prS_ok (src_S (q := (sa, sd, tx1)) List.mem_cons_self) hv rfl rfl mkL_isLine mw_L_238 (L_isLine cT (by decide) l1x hc4) (fixIR _ _) (fix1 _) rfl (by decide) rfl (Nat.le_of_ble_eq_true rfl) (by omega) (by omega) dL_law_703 rfl ?_
  clear q1 cT C1
  refine C.if_eq (q := 709) (tgt := 817) dL_law_706 rfl (by decide) (fun h => absurd h (by decide)) (fun _ => ?_)
  refine C.aload (q := 711) dL_law_709 rfl h11 ?_
  refine C.bipush (q := 713) (v := 6) dL_law_711 rfl (by decide) ?_
  have d2 := c7_account A4 6 rfl
  rw [v2] at d2
  refine C.cV (w1 := [(ax, HS)]) (S := []) (av := [.int 6]) (q := 716) prT_ok src_0 hv rfl rfl mkX7_account mw_L_63 (Ct.g (d2)) rfl (fix1 _) (fix1 _) rfl (by decide) rfl (Nat.le_of_ble_eq_true rfl) (by omega) (by omega) dL_law_713 rfl ?_
  refine C.bipush (q := 718) (v := 6) dL_law_716 rfl (by decide) ?_
  refine C.icmp_ne (q := 721) (tgt := 817) dL_law_718 rfl (by decide) (fun h => absurd rfl h) (fun _ => ?_)
  refine C.aload (q := 723) dL_law_721 rfl h11 ?_
  refine C.bipush (q := 725) (v := 7) dL_law_723 rfl (by decide) ?_
  have d3 := c7_account A4 7 rfl
  rw [v3] at d3
  refine C.cV (w1 := [(ax, HS)]) (S := []) (av := [.int 7]) (q := 728) prT_ok src_0 hv rfl rfl mkX7_account mw_L_63 (Ct.g (d3)) rfl (fix1 _) (fix1 _) rfl (by decide) rfl (Nat.le_of_ble_eq_true rfl) (by omega) (by omega) dL_law_725 rfl ?_
  refine C.if_ne (q := 731) (tgt := 817) dL_law_728 rfl (by decide) (fun h => absurd rfl h) (fun _ => ?_)
  refine C.aload (q := 733) dL_law_731 rfl h11 ?_
  refine C.iconst (q := 734) (v := 1) dL_law_733 rfl (by decide) ?_
  refine C.cV (w1 := [(ax, HS)]) (S := []) (av := [.int 1]) (q := 737) prT_ok src_0 hv rfl rfl mkX7_would mw_L_242 (Ct.g (c7_would A4 v4 e4)) rfl (fix1 _) (fix1 _) rfl (by decide) rfl (Nat.le_of_ble_eq_true rfl) (by omega) (by omega) dL_law_734 rfl ?_
  refine C.bipush (q := 739) (v := 22) dL_law_737 rfl (by decide) ?_
  refine C.icmp_ne (q := 742) (tgt := 817) dL_law_739 rfl (by decide) (fun h => absurd rfl h) (fun _ => ?_)
  refine C.aload (q := 744) dL_law_742 rfl h11 ?_
  refine C.iconst (q := 745) (v := 4) dL_law_744 rfl (by decide) ?_
  refine C.cV (w1 := [(ax, HS)]) (S := []) (av := [.int 4]) (q := 748) prT_ok src_0 hv rfl rfl mkX7_would mw_L_242 (Ct.g (c7_would A4 v5 e5)) rfl (fix1 _) (fix1 _) rfl (by decide) rfl (Nat.le_of_ble_eq_true rfl) (by omega) (by omega) dL_law_745 rfl ?_
  refine C.bipush (q := 750) (v := 28) dL_law_748 rfl (by decide) ?_
  refine C.icmp_ne (q := 753) (tgt := 817) dL_law_750 rfl (by decide) (fun h => absurd rfl h) (fun _ => ?_)
  refine C.aload (q := 755) dL_law_753 rfl h11 ?_
  refine C.iconst (q := 756) (v := 5) dL_law_755 rfl (by decide) ?_
  refine C.cV (w1 := [(ax, HS)]) (S := []) (av := [.int 5]) (q := 759) prT_ok src_0 hv rfl rfl mkX7_cuts mw_L_217 (Ct.g (c7_cuts A4 v6 e6 s6)) rfl (fix1 _) (fix1 _) rfl (by decide) rfl (Nat.le_of_ble_eq_true rfl) (by omega) (by omega) dL_law_756 rfl ?_
  refine C.iconst (q := 760) (v := 2) dL_law_759 rfl (by decide) ?_
  refine C.icmp_ne (q := 763) (tgt := 817) dL_law_760 rfl (by decide) (fun h => absurd rfl h) (fun _ => ?_)
  refine C.aload (q := 765) dL_law_763 rfl h11 ?_
  refine C.iconst (q := 766) (v := 4) dL_law_765 rfl (by decide) ?_
  refine C.cV (w1 := [(ax, HS)]) (S := []) (av := [.int 4]) (q := 769) prT_ok src_0 hv rfl rfl mkX7_fits mw_L_220 (Ct.g (c7_fits A4 v7 e7)) rfl (fix1 _) (fix1 _) rfl (by decide) rfl (Nat.le_of_ble_eq_true rfl) (by omega) (by omega) dL_law_766 rfl ?_
  refine C.bipush (q := 771) (v := 9) dL_law_769 rfl (by decide) ?_
  refine C.icmp_ne (q := 774) (tgt := 817) dL_law_771 rfl (by decide) (fun h => absurd rfl h) (fun _ => ?_)
  refine C.aload (q := 776) dL_law_774 rfl h11 ?_
  refine C.bipush (q := 778) (v := 32) dL_law_776 rfl (by decide) ?_
  refine C.cV (w1 := [(ax, HS)]) (S := []) (av := [.int 32]) (q := 781) prT_ok src_0 hv rfl rfl mkX7_inTheWay mw_L_223 (Ct.g (c7_inTheWay A4 v8 e8)) rfl (fix1 _) (fix1 _) rfl (by decide) rfl (Nat.le_of_ble_eq_true rfl) (by omega) (by omega) dL_law_778 rfl ?_
  refine C.if_ne (q := 784) (tgt := 817) dL_law_781 rfl (by decide) (fun h => absurd rfl h) (fun _ => ?_)
  refine C.aload (q := 786) dL_law_784 rfl h11 ?_
  refine C.bipush (q := 788) (v := 64) dL_law_786 rfl (by decide) ?_
  refine C.cV (w1 := [(ax, HS)]) (S := []) (av := [.int 64]) (q := 791) prT_ok src_0 hv rfl rfl mkX7_inTheWay mw_L_223 (Ct.g (c7_inTheWay A4 v9 e9)) rfl (fix1 _) (fix1 _) rfl (by decide) rfl (Nat.le_of_ble_eq_true rfl) (by omega) (by omega) dL_law_788 rfl ?_
  refine C.iconst (q := 792) (v := 4) dL_law_791 rfl (by decide) ?_
  refine C.icmp_ne (q := 795) (tgt := 817) dL_law_792 rfl (by decide) (fun h => absurd rfl h) (fun _ => ?_)
  refine C.aload (q := 797) dL_law_795 rfl h11 ?_
  refine C.iconst (q := 798) (v := 5) dL_law_797 rfl (by decide) ?_
  have d10 := c7_account A4 5 rfl
  rw [v10] at d10
  refine C.cV (w1 := [(ax, HS)]) (S := []) (av := [.int 5]) (q := 801) prT_ok src_0 hv rfl rfl mkX7_account mw_L_63 (Ct.g (d10)) rfl (fix1 _) (fix1 _) rfl (by decide) rfl (Nat.le_of_ble_eq_true rfl) (by omega) (by omega) dL_law_798 rfl ?_
  refine C.bipush (q := 803) (v := 16) dL_law_801 rfl (by decide) ?_
  refine C.iload (q := 805) dL_law_803 rfl h9 ?_
  refine C.isub (q := 806) dL_law_805 rfl ?_
  refine C.bipush (q := 808) (v := 8) dL_law_806 rfl (by decide) ?_
  refine C.iadd (q := 809) dL_law_808 rfl ?_
  refine C.iconst (q := 810) (v := 2) dL_law_809 rfl (by decide) ?_
  refine C.iload (q := 812) dL_law_810 rfl h10 ?_
  refine C.imul (q := 813) dL_law_812 rfl ?_
  refine C.isub (q := 814) dL_law_813 rfl ?_
  refine C.icmp_eq (q := 817) (tgt := 819) dL_law_814 rfl (by decide) (fun _ => ?_) (fun h => absurd rfl h)
  exact C.wd (by omega) (by omega) (kk hc4)
end

/-! ===== p36: the law, 12: z, when it is new ===== -/
theorem zA_n : r_X3_allSizes (Z1.1 0) = 0 := by decide +kernel
theorem n32_0 : vf_n32 (FP.fdiv (FP.i2f 0) 1115684864) := by unfold vf_n32; decide +kernel
theorem ch_gsI : ChA gsI := fun i => by
  show narrow .char (.int 0) = .int 0
  rfl
section
variable {F : FxT} {kc ks : Nat} {Wk : lW} {k n : Nat}
theorem seg_J1 (C : CoL [] F RL cL_law 12 20 kc ks Wk) {HS : aH} (hu : HS.1 = false) {ax az : Nat} {L : List (Option Value)} (hz : L[11]? = some (some (.ref (az + 1000)))) (hk : k + 2000 ≤ kc) (hn : n + 20000 ≤ ks)
    (kk : Wk (k + 2000) (n + 20000) 640 L [] [(ax, HS), (az, mkH Z1)]) : Wk k n 554 L [] [(ax, HS), (az, mkH gsI)] := by
  have hA := zA_ok
  simp only [zA, Bool.and_eq_true, decide_eq_true_eq] at hA
  obtain ⟨v1, v2, e2, v3, e3, v4, e4, v5, e5, h5, v6, e6, v7, e7, v8⟩ := hA
  have c1 : Ct 7 0 0 yX7_line (.code yX7_line cX7_line 1 (some (.int))) [.ref 0] (mkH gsI) (.inl (some (.int 3))) (mkH Z1) := c7_line gsI v1
  have hc : ChA Z1 := ch_line ch_gsI
  have hn0 := zA_n
  generalize Z1 = Z at *
  generalize gsI = G at *
  have hnan : vf_n32 (FP.fdiv (FP.i2f (r_X3_allSizes (Z.1 0))) 1115684864) := by rw [hn0]; exact n32_0
  have hv : unF ([(ax, HS)] ++ []) := fun q hq => by rw [List.mem_singleton.mp hq]; exact hu
  refine goW (ws' := [(ax, HS)] ++ (az, mkH G) :: []) rfl ?_
  refine C.aload (q := 556) dL_law_554 rfl hz ?_
  refine C.cV (w1 := [(ax, HS)]) (S := []) (av := []) (q := 559) prT_ok src_0 hv rfl rfl mkX7_line mw_L_208 (Ct.g c1) rfl fix0 (fix1 _) rfl (by decide) rfl (Nat.le_of_ble_eq_true rfl) (by omega) (by omega) dL_law_556 rfl ?_
  refine C.iconst (q := 560) (v := 3) dL_law_559 rfl (by decide) ?_
  refine C.icmp_ne (q := 563) (tgt := 638) dL_law_560 rfl (by decide) (fun h => absurd rfl h) (fun _ => ?_)
  refine C.aload (q := 565) dL_law_563 rfl hz ?_
  refine C.iconst (q := 566) (v := 2) dL_law_565 rfl (by decide) ?_
  have c2 := c7_character Z 2 e2 hc
  rw [v2] at c2
  refine C.cV (w1 := [(ax, HS)]) (S := []) (av := [.int 2]) (q := 569) prT_ok src_0 hv rfl rfl mkX7_character mw_L_211 (Ct.g c2) rfl (fix1 _) (fix1 _) rfl (by decide) rfl (Nat.le_of_ble_eq_true rfl) (by omega) (by omega) dL_law_566 rfl ?_
  refine C.bipush (q := 571) (v := 46) dL_law_569 rfl (by decide) ?_
  refine C.icmp_ne (q := 574) (tgt := 638) dL_law_571 rfl (by decide) (fun h => absurd rfl h) (fun _ => ?_)
  refine C.aload (q := 576) dL_law_574 rfl hz ?_
  refine C.cV (w1 := [(ax, HS)]) (S := []) (av := []) (q := 579) prT_ok src_0 hv rfl rfl mkX7_greatest mw_L_214 (Ct.g (c7_greatest Z v3 e3)) rfl fix0 (fix1 _) rfl (by decide) rfl (Nat.le_of_ble_eq_true rfl) (by omega) (by omega) dL_law_576 rfl ?_
  refine C.bipush (q := 581) (v := 64) dL_law_579 rfl (by decide) ?_
  refine C.icmp_ne (q := 584) (tgt := 638) dL_law_581 rfl (by decide) (fun h => absurd rfl h) (fun _ => ?_)
  refine C.aload (q := 586) dL_law_584 rfl hz ?_
  refine C.bipush (q := 588) (v := 9) dL_law_586 rfl (by decide) ?_
  refine C.iconst (q := 589) (v := 3) dL_law_588 rfl (by decide) ?_
  have c4 := c7_pieceOf Z 9 3 e4
  rw [v4] at c4
  refine C.cV (w1 := [(ax, HS)]) (S := []) (av := [.int 9, .int 3]) (q := 592) prT_ok src_0 hv rfl rfl mkX7_pieceOf mw_L_72 (Ct.g c4) rfl (fix2 _ _) (fix1 _) rfl (by decide) rfl (Nat.le_of_ble_eq_true rfl) (by omega) (by omega) dL_law_589 rfl ?_
  refine C.iconst (q := 593) (v := -1) dL_law_592 rfl (by decide) ?_
  refine C.icmp_ne (q := 596) (tgt := 638) dL_law_593 rfl (by decide) (fun h => absurd rfl h) (fun _ => ?_)
  refine C.aload (q := 598) dL_law_596 rfl hz ?_
  refine C.iconst (q := 599) (v := 1) dL_law_598 rfl (by decide) ?_
  refine C.cV (w1 := [(ax, HS)]) (S := []) (av := [.int 1]) (q := 602) prT_ok src_0 hv rfl rfl mkX7_cuts mw_L_217 (Ct.g (c7_cuts Z v5 e5 h5)) rfl (fix1 _) (fix1 _) rfl (by decide) rfl (Nat.le_of_ble_eq_true rfl) (by omega) (by omega) dL_law_599 rfl ?_
  refine C.bipush (q := 604) (v := 6) dL_law_602 rfl (by decide) ?_
  refine C.icmp_ne (q := 607) (tgt := 638) dL_law_604 rfl (by decide) (fun h => absurd rfl h) (fun _ => ?_)
  refine C.aload (q := 609) dL_law_607 rfl hz ?_
  refine C.bipush (q := 611) (v := 33) dL_law_609 rfl (by decide) ?_
  refine C.cV (w1 := [(ax, HS)]) (S := []) (av := [.int 33]) (q := 614) prT_ok src_0 hv rfl rfl mkX7_fits mw_L_220 (Ct.g (c7_fits Z v6 e6)) rfl (fix1 _) (fix1 _) rfl (by decide) rfl (Nat.le_of_ble_eq_true rfl) (by omega) (by omega) dL_law_611 rfl ?_
  refine C.iconst (q := 615) (v := 1) dL_law_614 rfl (by decide) ?_
  refine C.icmp_ne (q := 618) (tgt := 638) dL_law_615 rfl (by decide) (fun h => absurd rfl h) (fun _ => ?_)
  refine C.aload (q := 620) dL_law_618 rfl hz ?_
  refine C.bipush (q := 622) (v := 64) dL_law_620 rfl (by decide) ?_
  refine C.cV (w1 := [(ax, HS)]) (S := []) (av := [.int 64]) (q := 625) prT_ok src_0 hv rfl rfl mkX7_inTheWay mw_L_223 (Ct.g (c7_inTheWay Z v7 e7)) rfl (fix1 _) (fix1 _) rfl (by decide) rfl (Nat.le_of_ble_eq_true rfl) (by omega) (by omega) dL_law_622 rfl ?_
  refine C.if_ne (q := 628) (tgt := 638) dL_law_625 rfl (by decide) (fun h => absurd rfl h) (fun _ => ?_)
  refine C.aload (q := 630) dL_law_628 rfl hz ?_
  have c8 := c7_lentShare Z hnan
  rw [v8] at c8
  refine C.cV (w1 := [(ax, HS)]) (S := []) (av := []) (q := 633) prT_ok src_0 hv rfl rfl mkX7_lentShare mw_L_226 (Ct.g c8) rfl fix0 (fun _ _ => rfl) rfl (by decide) rfl (Nat.le_of_ble_eq_true rfl) (by omega) (by omega) dL_law_630 rfl ?_
  refine C.fconst0 (q := 634) dL_law_633 rfl ?_
  refine C.fcmp (q := 635) dL_law_634 rfl ?_
  refine C.if_eq (q := 638) (tgt := 640) dL_law_635 rfl (by decide) (fun _ => ?_) (fun h => absurd (by decide) h)
  exact C.wd (by omega) (by omega) kk
end

/-! ===== p36: the law, 11: restore; the end ===== -/
section
variable {F : FxT} {kc ks : Nat} {Wk : lW} {k n : Nat}
theorem seg_K (C : CoL [] F RL cL_law 12 20 kc ks Wk) {B0 : BD} {S : GS} {Z : aH} {ax az nl nw : Nat} {jn : Int32} {L0 L2 L5 L6 L7 L8 L9 L10 L11 : Option Value} (hS : XS B0 0 S) (hZ : Z.1 = false)
    (v3 : B0.1 3 = nI nl) (h16 : nl ≤ 16) (v4 : B0.1 4 = nI nw) (h6 : nw ≤ 6) (vj : ∀ Z : GS, ag (Z.1 0) B0 → stH Z nl nw = jn) (hk : k + 2000 ≤ kc) (hn : n + 20000 ≤ ks)
    (kk : Wk (k + 2000) (n + 20000) 1203 [L0, some (.ref (ax + 1000)), L2, some (.int (nI nl)), some (.int jn), L5, L6, L7, L8, L9, L10, L11] [.int 1] [(ax, mkH (sRestore S)), (az, Z)]) :
    Wk k n 1172 [L0, some (.ref (ax + 1000)), L2, some (.int (nI nl)), some (.int jn), L5, L6, L7, L8, L9, L10, L11] [] [(ax, mkH S), (az, Z)] := by
  obtain ⟨r1, r2, r3, r4⟩ := x_rest hS
  generalize hR : sRestore S = R at *
  have ck := c7_restore S (r2.trans v3) r1
  rw [hR] at ck
  have hu : unF [(az, Z)] := fun q hq => by rw [List.mem_singleton.mp hq]; exact hZ
  refine goW (ws' := [] ++ (ax, mkH S) :: [(az, Z)]) rfl ?_
  refine C.aload_n (q := 1173) dL_law_1172 rfl rfl ?_
  refine C.cV (w1 := []) (S := []) (av := []) (q := 1176) prT_ok src_0 hu rfl rfl mkX7_restore mw_L_270 (Ct.g ck) rfl fix0 (fix1 _) rfl (by decide) rfl (Nat.le_of_ble_eq_true rfl) (by omega) (by omega) dL_law_1173 rfl ?_
  refine C.iload_n (q := 1177) dL_law_1176 rfl rfl ?_
  refine C.icmp_ne (q := 1180) (tgt := 1202) dL_law_1177 rfl (by decide) (fun h => absurd rfl h) (fun _ => ?_)
  refine C.aload_n (q := 1181) dL_law_1180 rfl rfl ?_
  refine C.bipush (q := 1183) (v := 10) dL_law_1181 rfl (by decide) ?_
  refine C.cV (w1 := []) (S := []) (av := [.int 10]) (q := 1186) prT_ok src_0 hu rfl rfl mkX7_account mw_L_63 (Ct.g (c7_account R 10 rfl)) rfl (fix1 _) (fix1 _) rfl (by decide) rfl (Nat.le_of_ble_eq_true rfl) (by omega) (by omega) dL_law_1183 rfl ?_
  have e10 : r_X7_account R (R.1 0) 10 = 0 := r3
  rw [e10]
  refine C.if_ne (q := 1189) (tgt := 1202) dL_law_1186 rfl (by decide) (fun h => absurd rfl h) (fun _ => ?_)
  refine C.aload_n (q := 1190) dL_law_1189 rfl rfl ?_
  refine C.cS (w1 := []) (S := []) (av := []) (q := 1193) prT_ok src_0 hu rfl rfl mkL_state mw_L_139 (Ct.g (L_state R (by rw [r4.1 3 (by decide)]; exact v3) h16 (by rw [r4.1 4 (by decide)]; exact v4) h6)) fix0 (fix1 _) rfl (by decide) rfl (Nat.le_of_ble_eq_true rfl) (by omega) (by omega) dL_law_1190 rfl ?_
  refine C.iload (q := 1195) dL_law_1193 rfl rfl ?_
  refine C.icmp_ne (q := 1198) (tgt := 1202) dL_law_1195 rfl (by decide) (fun h => absurd (vj R r4) h) (fun _ => ?_)
  refine C.iconst (q := 1199) (v := 1) dL_law_1198 rfl (by decide) ?_
  refine C.goto (tgt := 1203) dL_law_1199 (by decide) ?_
  exact C.wd (by omega) (by omega) kk
end

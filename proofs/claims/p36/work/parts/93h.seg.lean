/-! ===== p36: the law, 8: two numbers; z is made ===== -/
theorem a_of (x : Int32) : ∃ a, 9 ≤ a ∧ a ≤ 16 ∧ (9 : Int32) + (x &&& 7) = nI a := by
  have h1 : (x.toUInt32 &&& 7).toNat ≤ 7 := by rw [UInt32.toNat_and]; exact Nat.and_le_right
  have h2 : x &&& 7 = (x.toUInt32 &&& 7).toInt32 := rfl
  have h3 : (x.toUInt32 &&& 7) = UInt32.ofNat (x.toUInt32 &&& 7).toNat := (UInt32.ofNat_toNat).symm
  rw [h2, h3]
  generalize (x.toUInt32 &&& 7).toNat = n at h1
  refine ⟨9 + n, by omega, by omega, ?_⟩
  rcases (show n = 0 ∨ n = 1 ∨ n = 2 ∨ n = 3 ∨ n = 4 ∨ n = 5 ∨ n = 6 ∨ n = 7 by omega) with rfl | rfl | rfl | rfl | rfl | rfl | rfl | rfl <;> decide
theorem b_of (x : Int32) : ∃ b, 3 ≤ b ∧ b ≤ 4 ∧ (3 : Int32) + (x &&& 1) = nI b := by
  have h1 : (x.toUInt32 &&& 1).toNat ≤ 1 := by rw [UInt32.toNat_and]; exact Nat.and_le_right
  have h2 : x &&& 1 = (x.toUInt32 &&& 1).toInt32 := rfl
  have h3 : (x.toUInt32 &&& 1) = UInt32.ofNat (x.toUInt32 &&& 1).toNat := (UInt32.ofNat_toNat).symm
  rw [h2, h3]
  generalize (x.toUInt32 &&& 1).toNat = n at h1
  refine ⟨3 + n, by omega, by omega, ?_⟩
  rcases (show n = 0 ∨ n = 1 by omega) with rfl | rfl <;> decide
section
variable {F : FxT} {kc ks : Nat} {Wk : lW} {k n : Nat}
theorem seg_I (C : CoL [] F RL cL_law 12 20 kc ks Wk) (hL : F.1 ≤ 260) {S : GS} {ax : Nat} {L1 L2 L3 L4 L5 L6 : Option Value} {j7 : Int32} (hk : k + 1000 ≤ kc) (hn : n + 10000 ≤ ks)
    (kk : ∀ (az a b : Nat) (L8 : Option Value), 9 ≤ a → a ≤ 16 → 3 ≤ b → b ≤ 4 → Wk (k + 1000) (n + 10000) 554 [some (.ref (F.2.2.1 + 1000)), L1, L2, L3, L4, L5, L6, some (.int j7), L8, some (.int (nI a)), some (.int (nI b)), some (.ref (az + 1000))] [] [(ax, mkH S), (az, mkH gsI)]) :
    Wk k n 517 [some (.ref (F.2.2.1 + 1000)), L1, L2, L3, L4, L5, L6, some (.int j7), none, none, none, none] [] [(ax, mkH S)] := by
  refine C.aload_n (q := 518) dL_law_517 rfl rfl ?_
  refine C.bipush (q := 520) (v := nI 13) dL_law_518 rfl (by decide) ?_
  refine C.tA (S := []) (av := [.ref (F.2.2.1 + 1000), .int (nI 13)]) (q := 523) prX_ok (fun B => src_X) (unFc unF0) mkL_at mw_L_24 (L_at hL (hp []) (by decide)) (fixRI _ _) (fix1 _) rfl (by decide) rfl (Nat.le_of_ble_eq_true rfl) (by omega) (by omega) dL_law_520 rfl ?_
  generalize atX F.2.1 F.1 13 = c
  refine C.istore (i := 8) (q := 525) dL_law_523 rfl (by decide) rfl ?_
  refine C.bipush (q := 527) (v := 9) dL_law_525 rfl (by decide) ?_
  refine C.iload (q := 529) dL_law_527 rfl rfl ?_
  refine C.bipush (q := 531) (v := 7) dL_law_529 rfl (by decide) ?_
  refine C.iand (q := 532) dL_law_531 rfl ?_
  refine C.iadd (q := 533) dL_law_532 rfl ?_
  obtain ⟨a, a1, a2, a3⟩ := a_of c
  rw [a3]
  refine C.istore (i := 9) (q := 535) dL_law_533 rfl (by decide) rfl ?_
  refine C.iconst (q := 536) (v := 3) dL_law_535 rfl (by decide) ?_
  refine C.iload (q := 538) dL_law_536 rfl rfl ?_
  refine C.iconst (q := 539) (v := 3) dL_law_538 rfl (by decide) ?_
  refine C.ishr (q := 540) dL_law_539 rfl ?_
  refine C.iconst (q := 541) (v := 1) dL_law_540 rfl (by decide) ?_
  refine C.iand (q := 542) dL_law_541 rfl ?_
  refine C.iadd (q := 543) dL_law_542 rfl ?_
  obtain ⟨b, b1, b2, b3⟩ := b_of (c >>> (3 &&& 31))
  rw [b3]
  refine C.istore (i := 10) (q := 545) dL_law_543 rfl (by decide) rfl ?_
  refine C.new (q := 548) co_X7 (unFc unF0) kw_L_18 aw_X7 iw_X7 (by omega) (by omega) dL_law_545 rfl (fun az => ?_)
  refine C.dup (q := 549) dL_law_548 rfl rfl ?_
  have h7 := s7_at
  rw [List.nil_append, List.nil_append] at h7
  have hl7 : 0 < (hp (c7 0)).2.1 := by rw [hp_c7]; decide
  refine C.tI (q := 552) (Pr := fun _ _ => True) (av := []) (S := [.ref (az + 1000)]) (H' := hp (c7 0)) prT_ok src_0 (unFc unF0) hl7 mkX7_init mw_L_23 (Ct.g h7) fix0 rfl (by decide) rfl (Nat.le_of_ble_eq_true rfl) (by omega) (by omega) dL_law_549 rfl ?_
  rw [hp_c7]
  refine C.stl (N := 131) (f' := cell gsI) c7_at ?_
  refine C.astore (i := 11) (q := 554) dL_law_552 rfl (by decide) rfl ?_
  exact C.wd (by omega) (by omega) (kk az a b _ a1 a2 b1 b2)
end

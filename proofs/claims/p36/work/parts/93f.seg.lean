/-! ===== p36: the law, 6: nine texts with errors ===== -/
theorem rk_f0 : rdK (cds "l5:123") 77 5 12 1 [(108, 5)] = true := by decide +kernel
theorem rk_f1 : rdK (cds "w12") 12 2 1 1 [(119, 1)] = true := by decide +kernel
theorem rk_f2 : rdK (cds "g") 1 1 1 0 [] = true := by decide +kernel
theorem rk_f3 : rdK (cds "l5") 1 2 5 0 [] = true := by decide +kernel
theorem rk_f4 : rdK (cds "") 5 0 5 0 [] = true := by decide +kernel
theorem rk_f5 : rdK (cds "w1;") 5 3 1 1 [(119, 1)] = true := by decide +kernel
theorem rk_f6 : rdK (cds "n123") 1 3 12 1 [(110, 12)] = true := by decide +kernel
theorem rk_f7 : rdK (cds "r0;") 12 2 0 0 [] = true := by decide +kernel
theorem rk_f8 : rdK (cds "x") 0 0 0 0 [] = true := by decide +kernel
section
variable {F : FxT} {kc ks : Nat} {Wk : lW} {k n : Nat}
theorem seg_H (C : CoL [] F RL cL_law 12 20 kc ks Wk) {B0 : BD} {S : GS} {ax nl nw : Nat} {jn : Int32} {L0 L2 L3 L5 L6 L7 : Option Value} (hS : XS B0 77 S)
    (v3 : B0.1 3 = nI nl) (h16 : nl ≤ 16) (v4 : B0.1 4 = nI nw) (h6 : nw ≤ 6) (vj : ∀ Z : GS, ag (Z.1 0) B0 → stH Z nl nw = jn) (hk : k + 2000 ≤ kc) (hn : n + 20000 ≤ ks)
    (kk : ∀ S1 : GS, XS B0 0 S1 → Wk (k + 2000) (n + 20000) 517 [L0, some (.ref (ax + 1000)), L2, L3, some (.int jn), L5, L6, L7, none, none, none, none] [] [(ax, mkH S1)]) : Wk k n 416 [L0, some (.ref (ax + 1000)), L2, L3, some (.int jn), L5, L6, L7, none, none, none, none] [] [(ax, mkH S)] := by
  refine flt1 C (p := 416) (idx := 186) (tx := "l5:123") (by decide) hS rk_f0 (by decide) (by decide) rfl dL_law_416 dL_law_417 dL_law_419 (by decide) dL_law_420 dL_law_423 (by decide) (by omega) (by omega) (fun S1 hS => ?_)
  refine flt1 C (p := 426) (idx := 192) (tx := "w12") (by decide) hS rk_f1 (by decide) (by decide) rfl dL_law_426 dL_law_427 dL_law_429 (by decide) dL_law_430 dL_law_433 (by decide) (by omega) (by omega) (fun S1 hS => ?_)
  refine flt1 C (p := 436) (idx := 194) (tx := "g") (by decide) hS rk_f2 (by decide) (by decide) rfl dL_law_436 dL_law_437 dL_law_439 (by decide) dL_law_440 dL_law_443 (by decide) (by omega) (by omega) (fun S1 hS => ?_)
  refine flt1 C (p := 446) (idx := 196) (tx := "l5") (by decide) hS rk_f3 (by decide) (by decide) rfl dL_law_446 dL_law_447 dL_law_449 (by decide) dL_law_450 dL_law_453 (by decide) (by omega) (by omega) (fun S1 hS => ?_)
  refine flt1 C (p := 456) (idx := 198) (tx := "") (by decide) hS rk_f4 (by decide) (by decide) rfl dL_law_456 dL_law_457 dL_law_459 (by decide) dL_law_460 dL_law_463 (by decide) (by omega) (by omega) (fun S1 hS => ?_)
  refine flt1 C (p := 466) (idx := 200) (tx := "w1;") (by decide) hS rk_f5 (by decide) (by decide) rfl dL_law_466 dL_law_467 dL_law_469 (by decide) dL_law_470 dL_law_473 (by decide) (by omega) (by omega) (fun S1 hS => ?_)
  refine flt1 C (p := 476) (idx := 202) (tx := "n123") (by decide) hS rk_f6 (by decide) (by decide) rfl dL_law_476 dL_law_477 dL_law_479 (by decide) dL_law_480 dL_law_483 (by decide) (by omega) (by omega) (fun S1 hS => ?_)
  refine flt1 C (p := 486) (idx := 204) (tx := "r0;") (by decide) hS rk_f7 (by decide) (by decide) rfl dL_law_486 dL_law_487 dL_law_489 (by decide) dL_law_490 dL_law_493 (by decide) (by omega) (by omega) (fun S1 hS => ?_)
  refine flt1 C (p := 496) (idx := 206) (tx := "x") (by decide) hS rk_f8 (by decide) (by decide) rfl dL_law_496 dL_law_497 dL_law_499 (by decide) dL_law_500 dL_law_503 (by decide) (by omega) (by omega) (fun S1 hS => ?_)
  refine goW (ws' := [] ++ (ax, mkH S1) :: []) rfl ?_
  refine C.aload_n (q := 507) dL_law_506 rfl rfl ?_
  refine C.cS (w1 := []) (S := []) (av := []) (q := 510) prT_ok src_0 unF0 rfl rfl mkL_state mw_L_139 (Ct.g (L_state S1 (by rw [hS.1.1 3 (by decide)]; exact v3) h16 (by rw [hS.1.1 4 (by decide)]; exact v4) h6)) fix0 (fix1 _) rfl (by decide) rfl (Nat.le_of_ble_eq_true rfl) (by omega) (by omega) dL_law_507 rfl ?_
  refine C.iload (q := 512) dL_law_510 rfl rfl ?_
  refine C.icmp_eq (q := 515) (tgt := 517) dL_law_512 rfl (by decide) (fun _ => ?_) (fun h => absurd (vj S1 hS.1) h)
  exact C.wd (by omega) (by omega) (kk S1 hS)
end

/-! ===== p36: the law, 17: z as one; all as one ===== -/
theorem z_all (a b : Nat) (a1 : 9 ≤ a) (a2 : a ≤ 16) (b1 : 3 ≤ b) (b2 : b ≤ 4) : zB (nI a) (nI b) (dgs a) (dgs b) = true ∧ zC (dgs a) (dgs b) = true ∧ zD (dgs a) (dgs b) = true ∧ zE (dgs a) (dgs b) = true ∧ zO (dgs a) (dgs b) = true := by
  rcases (show b = 3 ∨ b = 4 by omega) with rfl | rfl
  · have eb : nI 3 = 3 := by decide
    have db : dgs 3 = [51] := by decide
    rw [eb, db]
    rcases (show a = 9 ∨ a = 10 ∨ a = 11 ∨ a = 12 ∨ a = 13 ∨ a = 14 ∨ a = 15 ∨ a = 16 by omega) with rfl | rfl | rfl | rfl | rfl | rfl | rfl | rfl
    · rw [show nI 9 = 9 from by decide, show dgs 9 = [57] from by decide]
      exact ⟨zB_9_3, zC_9_3, zD_9_3, zE_9_3, zO_9_3⟩
    · rw [show nI 10 = 10 from by decide, show dgs 10 = [49, 48] from by decide]
      exact ⟨zB_10_3, zC_10_3, zD_10_3, zE_10_3, zO_10_3⟩
    · rw [show nI 11 = 11 from by decide, show dgs 11 = [49, 49] from by decide]
      exact ⟨zB_11_3, zC_11_3, zD_11_3, zE_11_3, zO_11_3⟩
    · rw [show nI 12 = 12 from by decide, show dgs 12 = [49, 50] from by decide]
      exact ⟨zB_12_3, zC_12_3, zD_12_3, zE_12_3, zO_12_3⟩
    · rw [show nI 13 = 13 from by decide, show dgs 13 = [49, 51] from by decide]
      exact ⟨zB_13_3, zC_13_3, zD_13_3, zE_13_3, zO_13_3⟩
    · rw [show nI 14 = 14 from by decide, show dgs 14 = [49, 52] from by decide]
      exact ⟨zB_14_3, zC_14_3, zD_14_3, zE_14_3, zO_14_3⟩
    · rw [show nI 15 = 15 from by decide, show dgs 15 = [49, 53] from by decide]
      exact ⟨zB_15_3, zC_15_3, zD_15_3, zE_15_3, zO_15_3⟩
    · rw [show nI 16 = 16 from by decide, show dgs 16 = [49, 54] from by decide]
      exact ⟨zB_16_3, zC_16_3, zD_16_3, zE_16_3, zO_16_3⟩
  · have eb : nI 4 = 4 := by decide
    have db : dgs 4 = [52] := by decide
    rw [eb, db]
    rcases (show a = 9 ∨ a = 10 ∨ a = 11 ∨ a = 12 ∨ a = 13 ∨ a = 14 ∨ a = 15 ∨ a = 16 by omega) with rfl | rfl | rfl | rfl | rfl | rfl | rfl | rfl
    · rw [show nI 9 = 9 from by decide, show dgs 9 = [57] from by decide]
      exact ⟨zB_9_4, zC_9_4, zD_9_4, zE_9_4, zO_9_4⟩
    · rw [show nI 10 = 10 from by decide, show dgs 10 = [49, 48] from by decide]
      exact ⟨zB_10_4, zC_10_4, zD_10_4, zE_10_4, zO_10_4⟩
    · rw [show nI 11 = 11 from by decide, show dgs 11 = [49, 49] from by decide]
      exact ⟨zB_11_4, zC_11_4, zD_11_4, zE_11_4, zO_11_4⟩
    · rw [show nI 12 = 12 from by decide, show dgs 12 = [49, 50] from by decide]
      exact ⟨zB_12_4, zC_12_4, zD_12_4, zE_12_4, zO_12_4⟩
    · rw [show nI 13 = 13 from by decide, show dgs 13 = [49, 51] from by decide]
      exact ⟨zB_13_4, zC_13_4, zD_13_4, zE_13_4, zO_13_4⟩
    · rw [show nI 14 = 14 from by decide, show dgs 14 = [49, 52] from by decide]
      exact ⟨zB_14_4, zC_14_4, zD_14_4, zE_14_4, zO_14_4⟩
    · rw [show nI 15 = 15 from by decide, show dgs 15 = [49, 53] from by decide]
      exact ⟨zB_15_4, zC_15_4, zD_15_4, zE_15_4, zO_15_4⟩
    · rw [show nI 16 = 16 from by decide, show dgs 16 = [49, 54] from by decide]
      exact ⟨zB_16_4, zC_16_4, zD_16_4, zE_16_4, zO_16_4⟩
section
variable {F : FxT} {kc ks : Nat} {Wk : lW} {k n : Nat}
theorem five_of {x c M K : Nat} (h5 : c + c + c + c + c ≤ M) (h : x + M ≤ K) : x + c ≤ K ∧ x + c + c ≤ K ∧ x + c + c + c ≤ K ∧ x + c + c + c + c ≤ K ∧ x + c + c + c + c + c ≤ K ∧ x + c + c + c + c + c ≤ x + M := by omega
theorem ch_Z1 : ChA Z1 := ch_line ch_gsI
theorem seg_Z (C : CoL [] F RL cL_law 12 20 kc ks Wk) {HS : aH} (hu : HS.1 = false) {ax az a b : Nat} (a1 : 9 ≤ a) (a2 : a ≤ 16) (b1 : 3 ≤ b) (b2 : b ≤ 4) {L : List (Option Value)} (h11 : L[11]? = some (some (.ref (az + 1000)))) (h9 : L[9]? = some (some (.int (nI a)))) (h10 : L[10]? = some (some (.int (nI b)))) (hk : k + 10000 ≤ kc) (hn : n + 100000 ≤ ks)
    (kk : ∀ Z : GS, Wk (k + 10000) (n + 100000) 1172 L [] [(ax, HS), (az, mkH Z)]) : Wk k n 554 L [] [(ax, HS), (az, mkH gsI)] := by
  obtain ⟨zb, zc, zd, ze, zo⟩ := z_all a b a1 a2 b1 b2
  obtain ⟨p1, p2, p3, p4, p5, w1⟩ := five_of (show 2000 + 2000 + 2000 + 2000 + 2000 ≤ 10000 by decide) hk
  obtain ⟨q1, q2, q3, q4, q5, w2⟩ := five_of (show 20000 + 20000 + 20000 + 20000 + 20000 ≤ 100000 by decide) hn
  exact seg_J1 C hu h11 p1 q1 (seg_J2 C hu a1 a2 b1 b2 h11 h9 h10 zb zo ch_Z1 p2 q2 (fun hc => seg_J3 C hu h11 zc zo hc p3 q3 (fun hc => seg_J4 C hu h11 zd zo hc p4 q4 (fun hc => seg_J5 C hu h11 ze zo hc p5 q5 (fun _ => C.wd w1 w2 (kk _))))))
/-- the whole body -/
theorem seg_all (C : CoL [] F RL cL_law 12 20 kc ks Wk) (hL : F.1 ≤ 260) (hk : k + 30000 ≤ kc) (hn : n + 300000 ≤ ks)
    (kk : ∀ (L : List (Option Value)) (ws : WL), Wk (k + 30000) (n + 300000) 1203 L [.int 1] ws) :
    Wk k n 0 [some (.ref (F.2.2.1 + 1000)), none, none, none, none, none, none, none, none, none, none, none] [] [] := by
  refine seg_X C hL (by omega) (by omega) (fun ax S B0 nl nw jn L2 L5 L6 j7 hS v3 h16 v4 h6 vj => ?_)
  refine seg_I C hL (by omega) (by omega) (fun az a b L8 a1 a2 b1 b2 => ?_)
  refine seg_Z C (HS := mkH S) rfl a1 a2 b1 b2 rfl rfl rfl (by omega) (by omega) (fun Z => ?_)
  refine seg_K C hS rfl v3 h16 v4 h6 vj (by omega) (by omega) ?_
  exact C.wd (by omega) (by omega) (kk _ _)
end

/-! ===== p36: a fresh object; at, build ===== -/
theorem rW_same {g : Nat × Nat} {ca : Nat → ClassId} {N : Nat} {f f' : Nat → mC} (h : ∀ i, i < N → f i = f' i) : rW g ca N f = rW g ca N f' := by
  unfold rW
  exact List.map_congr_left (fun i hi => by rw [h i (List.mem_range.mp hi)])
theorem Core.settle {own : String} {cc : ByteArray} {nL d kc ks : Nat} {Wk : tW} {k n pc N : Nat} {L : List (Option Value)} {S : List Value} {f f' : Nat → mC} (C : Core own cc nL d kc ks Wk) (h : ∀ i, i < N → f i = f' i) (kk : Wk k n pc L S (false, N, f')) : Wk k n pc L S (true, N, f) := by
  obtain ⟨p, l, e, R, s, m, args, below, meth, c, Q, g, ca, D, sL, X, rfl⟩ := C
  intro Hr locs ls hN hS hl
  refine kk Hr locs ls ⟨hN.1, ?_, fun h => by cases h⟩ hS hl
  show va_P D vwCl (rW g ca N f') Hr
  rw [← rW_same h]
  exact hN.2.1
theorem ring_eq (f : Nat → Option Nat) (hf : ∀ k, f k = if k = 7 then some 113 else if k = 6 then some 102 else if k = 5 then some 91 else if k = 4 then some 80 else if k = 3 then some 69 else if k = 2 then some 58 else if k = 1 then some 47 else if k = 0 then some 36 else none) : f = ring0 := by
  funext k
  rw [hf]
  unfold ring0
  by_cases h : k < 8
  · rw [if_pos h]
    rcases (show k = 0 ∨ k = 1 ∨ k = 2 ∨ k = 3 ∨ k = 4 ∨ k = 5 ∨ k = 6 ∨ k = 7 by omega) with rfl | rfl | rfl | rfl | rfl | rfl | rfl | rfl <;> rfl
  · rw [if_neg h, if_neg (by omega), if_neg (by omega), if_neg (by omega), if_neg (by omega), if_neg (by omega), if_neg (by omega), if_neg (by omega), if_neg (by omega)]
def c7r (a : Nat) (r : Nat → Option Nat) : List mC := [.inr (9, [.ref (a + 1), .ref (a + 12), .ref (a + 23), .ref (a + 34), .ref (a + 124), .ref (a + 126), .int (-1), .int 0, .int 0, .int 0]), .inr (2, [.ref (a + 2), .ref (a + 4), .ref (a + 9)]), .inr (7, [.ref (a + 3), .int 0, .int 0, .int 0]), .inl (0, 64, .inl (up (fun _ => 0) 0 64)), .inr (5, [.ref (a + 5), .ref (a + 6), .ref (a + 7), .ref (a + 8), .int 0]), .inl (0, 16, .inl (fun _ => 0)), .inl (0, 16, .inl (fun _ => 0)), .inl (0, 16, .inl (fun _ => 0)), .inl (0, 16, .inl (fun _ => 0)), .inr (8, [.ref (a + 10), .ref (a + 11), .int 0]), .inl (0, 6, .inl (fun _ => 0)), .inl (0, 6, .inl (fun _ => 0)), .inr (2, [.ref (a + 13), .ref (a + 15), .ref (a + 20)]), .inr (7, [.ref (a + 14), .int 0, .int 0, .int 0]), .inl (0, 64, .inl (up (fun _ => 0) 0 64)), .inr (5, [.ref (a + 16), .ref (a + 17), .ref (a + 18), .ref (a + 19), .int 0]), .inl (0, 16, .inl (fun _ => 0)), .inl (0, 16, .inl (fun _ => 0)), .inl (0, 16, .inl (fun _ => 0)), .inl (0, 16, .inl (fun _ => 0)), .inr (8, [.ref (a + 21), .ref (a + 22), .int 0]), .inl (0, 6, .inl (fun _ => 0)), .inl (0, 6, .inl (fun _ => 0)), .inr (2, [.ref (a + 24), .ref (a + 26), .ref (a + 31)]), .inr (7, [.ref (a + 25), .int 0, .int 0, .int 0]), .inl (0, 64, .inl (up (fun _ => 0) 0 64)), .inr (5, [.ref (a + 27), .ref (a + 28), .ref (a + 29), .ref (a + 30), .int 0]), .inl (0, 16, .inl (fun _ => 0)), .inl (0, 16, .inl (fun _ => 0)), .inl (0, 16, .inl (fun _ => 0)), .inl (0, 16, .inl (fun _ => 0)), .inr (8, [.ref (a + 32), .ref (a + 33), .int 0]), .inl (0, 6, .inl (fun _ => 0)), .inl (0, 6, .inl (fun _ => 0)), .inr (3, [.ref (a + 35), .int 0, .int 0]), .inl (4, 8, .inr (.inr (.inr (.inr r)))), .inr (2, [.ref (a + 37), .ref (a + 39), .ref (a + 44)]), .inr (7, [.ref (a + 38), .int 0, .int 0, .int 0]), .inl (0, 64, .inl (up (fun _ => 0) 0 64)), .inr (5, [.ref (a + 40), .ref (a + 41), .ref (a + 42), .ref (a + 43), .int 0]), .inl (0, 16, .inl (fun _ => 0)), .inl (0, 16, .inl (fun _ => 0)), .inl (0, 16, .inl (fun _ => 0)), .inl (0, 16, .inl (fun _ => 0)), .inr (8, [.ref (a + 45), .ref (a + 46), .int 0]), .inl (0, 6, .inl (fun _ => 0)), .inl (0, 6, .inl (fun _ => 0)), .inr (2, [.ref (a + 48), .ref (a + 50), .ref (a + 55)]), .inr (7, [.ref (a + 49), .int 0, .int 0, .int 0]), .inl (0, 64, .inl (up (fun _ => 0) 0 64)), .inr (5, [.ref (a + 51), .ref (a + 52), .ref (a + 53), .ref (a + 54), .int 0]), .inl (0, 16, .inl (fun _ => 0)), .inl (0, 16, .inl (fun _ => 0)), .inl (0, 16, .inl (fun _ => 0)), .inl (0, 16, .inl (fun _ => 0)), .inr (8, [.ref (a + 56), .ref (a + 57), .int 0]), .inl (0, 6, .inl (fun _ => 0)), .inl (0, 6, .inl (fun _ => 0)), .inr (2, [.ref (a + 59), .ref (a + 61), .ref (a + 66)]), .inr (7, [.ref (a + 60), .int 0, .int 0, .int 0]), .inl (0, 64, .inl (up (fun _ => 0) 0 64)), .inr (5, [.ref (a + 62), .ref (a + 63), .ref (a + 64), .ref (a + 65), .int 0]), .inl (0, 16, .inl (fun _ => 0)), .inl (0, 16, .inl (fun _ => 0)), .inl (0, 16, .inl (fun _ => 0)), .inl (0, 16, .inl (fun _ => 0)), .inr (8, [.ref (a + 67), .ref (a + 68), .int 0]), .inl (0, 6, .inl (fun _ => 0)), .inl (0, 6, .inl (fun _ => 0)), .inr (2, [.ref (a + 70), .ref (a + 72), .ref (a + 77)]), .inr (7, [.ref (a + 71), .int 0, .int 0, .int 0]), .inl (0, 64, .inl (up (fun _ => 0) 0 64)), .inr (5, [.ref (a + 73), .ref (a + 74), .ref (a + 75), .ref (a + 76), .int 0]), .inl (0, 16, .inl (fun _ => 0)), .inl (0, 16, .inl (fun _ => 0)), .inl (0, 16, .inl (fun _ => 0)), .inl (0, 16, .inl (fun _ => 0)), .inr (8, [.ref (a + 78), .ref (a + 79), .int 0]), .inl (0, 6, .inl (fun _ => 0)), .inl (0, 6, .inl (fun _ => 0)), .inr (2, [.ref (a + 81), .ref (a + 83), .ref (a + 88)]), .inr (7, [.ref (a + 82), .int 0, .int 0, .int 0]), .inl (0, 64, .inl (up (fun _ => 0) 0 64)), .inr (5, [.ref (a + 84), .ref (a + 85), .ref (a + 86), .ref (a + 87), .int 0]), .inl (0, 16, .inl (fun _ => 0)), .inl (0, 16, .inl (fun _ => 0)), .inl (0, 16, .inl (fun _ => 0)), .inl (0, 16, .inl (fun _ => 0)), .inr (8, [.ref (a + 89), .ref (a + 90), .int 0]), .inl (0, 6, .inl (fun _ => 0)), .inl (0, 6, .inl (fun _ => 0)), .inr (2, [.ref (a + 92), .ref (a + 94), .ref (a + 99)]), .inr (7, [.ref (a + 93), .int 0, .int 0, .int 0]), .inl (0, 64, .inl (up (fun _ => 0) 0 64)), .inr (5, [.ref (a + 95), .ref (a + 96), .ref (a + 97), .ref (a + 98), .int 0]), .inl (0, 16, .inl (fun _ => 0)), .inl (0, 16, .inl (fun _ => 0)), .inl (0, 16, .inl (fun _ => 0)), .inl (0, 16, .inl (fun _ => 0)), .inr (8, [.ref (a + 100), .ref (a + 101), .int 0]), .inl (0, 6, .inl (fun _ => 0)), .inl (0, 6, .inl (fun _ => 0)), .inr (2, [.ref (a + 103), .ref (a + 105), .ref (a + 110)]), .inr (7, [.ref (a + 104), .int 0, .int 0, .int 0]), .inl (0, 64, .inl (up (fun _ => 0) 0 64)), .inr (5, [.ref (a + 106), .ref (a + 107), .ref (a + 108), .ref (a + 109), .int 0]), .inl (0, 16, .inl (fun _ => 0)), .inl (0, 16, .inl (fun _ => 0)), .inl (0, 16, .inl (fun _ => 0)), .inl (0, 16, .inl (fun _ => 0)), .inr (8, [.ref (a + 111), .ref (a + 112), .int 0]), .inl (0, 6, .inl (fun _ => 0)), .inl (0, 6, .inl (fun _ => 0)), .inr (2, [.ref (a + 114), .ref (a + 116), .ref (a + 121)]), .inr (7, [.ref (a + 115), .int 0, .int 0, .int 0]), .inl (0, 64, .inl (up (fun _ => 0) 0 64)), .inr (5, [.ref (a + 117), .ref (a + 118), .ref (a + 119), .ref (a + 120), .int 0]), .inl (0, 16, .inl (fun _ => 0)), .inl (0, 16, .inl (fun _ => 0)), .inl (0, 16, .inl (fun _ => 0)), .inl (0, 16, .inl (fun _ => 0)), .inr (8, [.ref (a + 122), .ref (a + 123), .int 0]), .inl (0, 6, .inl (fun _ => 0)), .inl (0, 6, .inl (fun _ => 0)), .inr (4, [.ref (a + 125), .int 0]), .inl (1, 384, .inl (fun _ => 0)), .inr (6, [.ref (a + 127), .ref (a + 128), .ref (a + 129), .int 0, .ref (a + 130), .int 0, .int 0, .int 0]), .inl (0, 20, .inl (fun _ => 0)), .inl (0, 20, .inl (fun _ => 0)), .inl (0, 20, .inl (fun _ => 0)), .inl (1, 60, .inl (fun _ => 0))]
def c7 (a : Nat) : List mC := c7r a (va_up (va_up (va_up (va_up (va_up (va_up (va_up (va_up (fun _ => none) 0 (some (a + 36))) 1 (some (a + 47))) 2 (some (a + 58))) 3 (some (a + 69))) 4 (some (a + 80))) 5 (some (a + 91))) 6 (some (a + 102))) 7 (some (a + 113)))
set_option maxRecDepth 100000 in
theorem len7 : (c7 0).length = 131 := rfl
theorem c7_eq : c7 0 = c7r 0 ring0 := by
  unfold c7
  congr 1
  exact ring_eq _ (fun k => rfl)
set_option maxRecDepth 100000 in
set_option maxHeartbeats 4000000 in
theorem c7_cells : c7r 0 ring0 = (List.range 131).map (cell gsI) := rfl
theorem c7_at : ∀ i, i < 131 → ((c7 0)[i]?).getD dfl = cell gsI i := by
  intro i hi
  rw [c7_eq, c7_cells, List.getElem?_map, List.getElem?_range hi]
  rfl
theorem s7_at : Ct 4 130 2230 yX7_init (.code yX7_init cX7_init 1 none) [.ref 0] (hp ([] ++ [.inr (9, [.null, .null, .null, .null, .null, .null, .int 0, .int 0, .int 0, .int 0])])) (.inl none) (hp ([] ++ c7 0)) := s_X7_init (cs := []) (a := 0) rfl (by decide)
def atX (xs : Nat → Int32) (Ln k : Nat) : Int32 := if k < Ln then xs k else 0
theorem L_at {Ln b : Nat} {xs : Nat → Int32} (hL : Ln ≤ 260) (H : aH) {j : Nat} (hj : j < 2147483648) : CtG (PrX Ln xs b) 1 0 0 yL_at (.code yL_at cL_at 2 (some (.int))) [.ref (b + 1000), .int (nI j)] H (.inl (some (.int (atX xs Ln j)))) H := by
  refine CtG.of (LL := [some (.ref (b + 1000)), some (.int (nI j))]) mkL_at.1 owL_at rfl (Nat.le_of_ble_eq_true rfl) rfl (fun Wk C => ?_)
  have G := C.cog
  have K := G.core
  refine K.iload_n (q := 1) dL_at_0 rfl rfl ?_
  refine K.aload_n (q := 2) dL_at_1 rfl rfl ?_
  refine G.slen (q := 3) dL_at_2 rfl ?_
  refine K.icmp_ge (q := 6) (tgt := 12) dL_at_3 rfl (by decide) (fun h => ?_) (fun h => ?_)
  · have hge : ¬ j < Ln := fun h9 => nleN h9 (by omega) h
    refine K.iconst (q := 13) (v := 0) dL_at_12 rfl (by decide) ?_
    exact C.okm.iret rfl rfl (by rw [atX, if_neg hge]) rfl (Nat.le_of_ble_eq_true rfl) (Nat.le_of_ble_eq_true rfl) dL_at_13
  · have hlt : j < Ln := Nat.not_le.mp (fun h9 => h (nI_le h9 (by omega)))
    refine K.aload_n (q := 7) dL_at_6 rfl rfl ?_
    refine K.iload_n (q := 8) dL_at_7 rfl rfl ?_
    refine G.sld (q := 9) hlt (by omega) dL_at_8 rfl ?_
    refine K.goto (tgt := 13) dL_at_9 (by decide) ?_
    exact C.okm.iret rfl rfl (by rw [atX, if_pos hlt]) rfl (Nat.le_of_ble_eq_true rfl) (Nat.le_of_ble_eq_true rfl) dL_at_13
theorem hp_c7 : hp (c7 0) = (true, 131, fun j => ((c7 0)[j]?).getD dfl) := by
  have h := len7
  show (true, (c7 0).length, _) = _
  rw [h]
theorem hgo {Wk : tW} {k n pc : Nat} {L : List (Option Value)} {S : List Value} {X X' : GS} (h : X = X') (kk : Wk k n pc L S (mkH X')) : Wk k n pc L S (mkH X) := by
  subst h
  exact kk
theorem okI_keep0 (X : GS) (b : BD) (h : okI (X.2.1 0)) : okI ((x_X1_keep0 X b).2.1 0) := by
  have e0 : ∀ (Y : GS) (v w : Int32), (uS (uS Y 0 v) 1 w).2.1 0 = v := by
    intro Y v w
    show up (up Y.2.1 0 v) 1 w 0 = v
    rw [up_ne (by decide), up_self]
  unfold x_X1_keep0
  split
  · rw [e0]
    exact ⟨by decide, by decide⟩
  · rename_i h8
    rw [e0]
    have h9 := okI_next h
    have e : (uB X (3 + nx X) (cpB b (X.1 (3 + nx X)))).2.1 0 = X.2.1 0 := rfl
    rw [e] at h8 ⊢
    rw [if_pos (Int32.not_le.mp h8)] at h9
    exact h9
theorem okI_act {X : GS} (h : okI (X.2.1 0)) (w a b : Int32) : okI ((pAct X w a b).2.2.1 0) := by
  have k : ∀ {Y Z : GS} {bb c : BD} {v : Int32} (_ : Y.2.1 0 = X.2.1 0) (_ : Z.2.1 0 = X.2.1 0), okI ((uB (if e_X7_insist v = "" then x_X1_keep0 Y bb else Z) 0 c).2.1 0) := by
    intro Y Z bb c v h1 h2
    show okI ((if e_X7_insist v = "" then x_X1_keep0 Y bb else Z).2.1 0)
    split
    · exact okI_keep0 _ _ (by rw [h1]; exact h)
    · rw [h2]; exact h
  unfold pAct
  split
  · exact k (n0_X7_judgeLend _ _ _ _) (n0_X7_judgeLend _ _ _ _)
  · split
    · exact k (n0_X7_judgeAsk _ _ _ _) (n0_X7_judgeAsk _ _ _ _)
    · split
      · exact k rfl rfl
      · split
        · exact k (n0_X7_judgeGiveAll _ _ _) (n0_X7_judgeGiveAll _ _ _)
        · split
          · exact k (n0_X7_judgeResize _ _ _ _) (n0_X7_judgeResize _ _ _ _)
          · split
            · exact k (n0_X7_judgeWay _ _ _) (n0_X7_judgeWay _ _ _)
            · show okI ((if r_X6_has (X.1 0) a = 0 then X else x_X1_keep0 X (X.1 0)).2.1 0)
              split
              · exact h
              · exact okI_keep0 _ _ h
set_option maxHeartbeats 4000000 in
theorem L_build {Ln b : Nat} {xs : Nat → Int32} (hL : Ln ≤ 260) : CtG (PrX Ln xs b) 9 240 3000 yL_build (.code yL_build cL_build 4 (some (.object "CheeseTwins"))) [.ref (b + 1000)] (hp []) (.inl (some (.ref 0))) (mkH (bld (atX xs Ln))) := by
  refine CtG.of (LL := [some (.ref (b + 1000)), none, none, none]) mkL_build.1 owL_build rfl (Nat.le_of_ble_eq_true rfl) rfl (fun Wk C => ?_)
  have G := C.cog
  have K := G.core
  have hA : ∀ {X : GS} (_ : okI (X.2.1 0)) (w a d : Int32) (_ : w = 0 ∨ w = 1 ∨ w = 2 ∨ w = 3 ∨ w = 4 ∨ w = 5 ∨ w = 6), Ct 8 1 6 yL_act (.codeWith yL_act cL_act 5 (some (.int)) tabA) [.ref 0, .int w, .int a, .int d] (mkH X) (.inl (some (.int (pAct X w a d).1))) (mkH (pAct X w a d).2) := fun h w a d hw => L_act h w a d hw
  have TL : ∀ (X : GS) (c : Int32) (i k n : Nat), okI (X.2.1 0) → i < 13 → k + 5 ≤ 240 → n + 30 ≤ 3000 → (∀ (k1 n1 : Nat) (X1 : GS), okI (X1.2.1 0) → k1 ≤ k + 5 → n1 ≤ n + 30 → X1 = bl7 (bl6 (bl5 (bl4 (bl3 X c) c) c) c) c → Wk k1 n1 230 [some (.ref (b + 1000)), some (.ref 0), some (.int (nI i)), some (.int c)] [] (mkH X1)) → Wk k n 103 [some (.ref (b + 1000)), some (.ref 0), some (.int (nI i)), some (.int c)] [] (mkH X) := by
    intro X c i k n hok hi hk hn kk
    have Q4 : ∀ (k1 n1 : Nat) (X1 : GS), okI (X1.2.1 0) → k1 ≤ k + 4 → n1 ≤ n + 24 → X1 = bl6 (bl5 (bl4 (bl3 X c) c) c) c → Wk k1 n1 206 [some (.ref (b + 1000)), some (.ref 0), some (.int (nI i)), some (.int c)] [] (mkH X1) := by
      intro k1 n1 X1 h1 h2 h3 h4
      refine K.iload_n (q := 207) dL_build_206 rfl rfl ?_
      refine K.bipush (q := 209) (v := 25) dL_build_207 rfl (by decide) ?_
      refine K.ishr (q := 210) dL_build_209 rfl ?_
      refine K.bipush (q := 212) (v := 15) dL_build_210 rfl (by decide) ?_
      refine K.iand (q := 213) dL_build_212 rfl ?_
      refine K.iconst (q := 214) (v := 2) dL_build_213 rfl (by decide) ?_
      refine K.icmp_ne (q := 217) (tgt := 230) dL_build_214 rfl (by decide) (fun h => ?_) (fun h => ?_)
      · exact kk _ _ _ h1 (by omega) (by omega) (by rw [← h4, bl7, if_neg]; exact h)
      · refine K.aload_n (q := 218) dL_build_217 rfl rfl ?_
        refine K.bipush (q := 220) (v := 6) dL_build_218 rfl (by decide) ?_
        refine K.iload_n (q := 221) dL_build_220 rfl rfl ?_
        refine K.iconst (q := 222) (v := 2) dL_build_221 rfl (by decide) ?_
        refine K.ishr (q := 223) dL_build_222 rfl ?_
        refine K.iconst (q := 224) (v := 3) dL_build_223 rfl (by decide) ?_
        refine K.iand (q := 225) dL_build_224 rfl ?_
        refine K.iconst (q := 226) (v := 0) dL_build_225 rfl (by decide) ?_
        refine K.callSH (S := []) (q := 229) mkL_act owL_act swL_act (by decide) mw_L_30 (hA h1 _ _ _ (Or.inr (Or.inr (Or.inr (Or.inr (Or.inr (Or.inr rfl))))))) rfl (by decide) rfl (Nat.le_of_ble_eq_true rfl) (by omega) (by omega) dL_build_226 rfl ?_
        refine K.pop (q := 230) dL_build_229 rfl rfl ?_
        exact kk _ _ _ (okI_act h1 _ _ _) (by omega) (by omega) (by rw [← h4, bl7, if_pos]; rfl; exact h)
    have Q3 : ∀ (k1 n1 : Nat) (X1 : GS), okI (X1.2.1 0) → k1 ≤ k + 3 → n1 ≤ n + 18 → X1 = bl5 (bl4 (bl3 X c) c) c → Wk k1 n1 181 [some (.ref (b + 1000)), some (.ref 0), some (.int (nI i)), some (.int c)] [] (mkH X1) := by
      intro k1 n1 X1 h1 h2 h3 h4
      refine K.iload_n (q := 182) dL_build_181 rfl rfl ?_
      refine K.bipush (q := 184) (v := 25) dL_build_182 rfl (by decide) ?_
      refine K.ishr (q := 185) dL_build_184 rfl ?_
      refine K.bipush (q := 187) (v := 15) dL_build_185 rfl (by decide) ?_
      refine K.iand (q := 188) dL_build_187 rfl ?_
      refine K.iconst (q := 189) (v := 1) dL_build_188 rfl (by decide) ?_
      refine K.icmp_ne (q := 192) (tgt := 206) dL_build_189 rfl (by decide) (fun h => ?_) (fun h => ?_)
      · exact Q4 _ _ _ h1 (by omega) (by omega) (by rw [← h4, bl6, if_neg]; exact h)
      · refine K.aload_n (q := 193) dL_build_192 rfl rfl ?_
        refine K.iconst (q := 194) (v := 5) dL_build_193 rfl (by decide) ?_
        refine K.iload_n (q := 195) dL_build_194 rfl rfl ?_
        refine K.iconst (q := 196) (v := 2) dL_build_195 rfl (by decide) ?_
        refine K.ishr (q := 197) dL_build_196 rfl ?_
        refine K.iconst (q := 198) (v := 3) dL_build_197 rfl (by decide) ?_
        refine K.iand (q := 199) dL_build_198 rfl ?_
        refine K.iconst (q := 200) (v := 3) dL_build_199 rfl (by decide) ?_
        refine K.irem (q := 201) dL_build_200 rfl (by decide) ?_
        refine K.iconst (q := 202) (v := 0) dL_build_201 rfl (by decide) ?_
        refine K.callSH (S := []) (q := 205) mkL_act owL_act swL_act (by decide) mw_L_30 (hA h1 _ _ _ (Or.inr (Or.inr (Or.inr (Or.inr (Or.inr (Or.inl rfl))))))) rfl (by decide) rfl (Nat.le_of_ble_eq_true rfl) (by omega) (by omega) dL_build_202 rfl ?_
        refine K.pop (q := 206) dL_build_205 rfl rfl ?_
        exact Q4 _ _ _ (okI_act h1 _ _ _) (by omega) (by omega) (by rw [← h4, bl6, if_pos]; rfl; exact h)
    have Q2 : ∀ (k1 n1 : Nat) (X1 : GS), okI (X1.2.1 0) → k1 ≤ k + 2 → n1 ≤ n + 12 → X1 = bl4 (bl3 X c) c → Wk k1 n1 157 [some (.ref (b + 1000)), some (.ref 0), some (.int (nI i)), some (.int c)] [] (mkH X1) := by
      intro k1 n1 X1 h1 h2 h3 h4
      refine K.iload_n (q := 158) dL_build_157 rfl rfl ?_
      refine K.bipush (q := 160) (v := 19) dL_build_158 rfl (by decide) ?_
      refine K.ishr (q := 161) dL_build_160 rfl ?_
      refine K.bipush (q := 163) (v := 15) dL_build_161 rfl (by decide) ?_
      refine K.iand (q := 164) dL_build_163 rfl ?_
      refine K.iconst (q := 165) (v := 1) dL_build_164 rfl (by decide) ?_
      refine K.icmp_ne (q := 168) (tgt := 181) dL_build_165 rfl (by decide) (fun h => ?_) (fun h => ?_)
      · exact Q3 _ _ _ h1 (by omega) (by omega) (by rw [← h4, bl5, if_neg]; exact h)
      · refine K.aload_n (q := 169) dL_build_168 rfl rfl ?_
        refine K.iconst (q := 170) (v := 3) dL_build_169 rfl (by decide) ?_
        refine K.iload_n (q := 171) dL_build_170 rfl rfl ?_
        refine K.bipush (q := 173) (v := 23) dL_build_171 rfl (by decide) ?_
        refine K.ishr (q := 174) dL_build_173 rfl ?_
        refine K.iconst (q := 175) (v := 3) dL_build_174 rfl (by decide) ?_
        refine K.iand (q := 176) dL_build_175 rfl ?_
        refine K.iconst (q := 177) (v := 0) dL_build_176 rfl (by decide) ?_
        refine K.callSH (S := []) (q := 180) mkL_act owL_act swL_act (by decide) mw_L_30 (hA h1 _ _ _ (Or.inr (Or.inr (Or.inr (Or.inl rfl))))) rfl (by decide) rfl (Nat.le_of_ble_eq_true rfl) (by omega) (by omega) dL_build_177 rfl ?_
        refine K.pop (q := 181) dL_build_180 rfl rfl ?_
        exact Q3 _ _ _ (okI_act h1 _ _ _) (by omega) (by omega) (by rw [← h4, bl5, if_pos]; rfl; exact h)
    have Q1 : ∀ (k1 n1 : Nat) (X1 : GS), okI (X1.2.1 0) → k1 ≤ k + 1 → n1 ≤ n + 6 → X1 = bl3 X c → Wk k1 n1 126 [some (.ref (b + 1000)), some (.ref 0), some (.int (nI i)), some (.int c)] [] (mkH X1) := by
      intro k1 n1 X1 h1 h2 h3 h4
      refine K.iload_n (q := 127) dL_build_126 rfl rfl ?_
      refine K.bipush (q := 129) (v := 19) dL_build_127 rfl (by decide) ?_
      refine K.ishr (q := 130) dL_build_129 rfl ?_
      refine K.iconst (q := 131) (v := 3) dL_build_130 rfl (by decide) ?_
      refine K.iand (q := 132) dL_build_131 rfl ?_
      refine K.if_ne (q := 135) (tgt := 157) dL_build_132 rfl (by decide) (fun h => ?_) (fun h => ?_)
      · exact Q2 _ _ _ h1 (by omega) (by omega) (by rw [← h4, bl4, if_neg]; exact h)
      · refine K.aload_n (q := 136) dL_build_135 rfl rfl ?_
        refine K.iconst (q := 137) (v := 4) dL_build_136 rfl (by decide) ?_
        refine K.iload_n (q := 138) dL_build_137 rfl rfl ?_
        refine K.bipush (q := 140) (v := 21) dL_build_138 rfl (by decide) ?_
        refine K.ishr (q := 141) dL_build_140 rfl ?_
        refine K.bipush (q := 143) (v := 7) dL_build_141 rfl (by decide) ?_
        refine K.iand (q := 144) dL_build_143 rfl ?_
        refine K.iconst (q := 145) (v := 1) dL_build_144 rfl (by decide) ?_
        refine K.iload_n (q := 146) dL_build_145 rfl rfl ?_
        refine K.bipush (q := 148) (v := 24) dL_build_146 rfl (by decide) ?_
        refine K.ishr (q := 149) dL_build_148 rfl ?_
        refine K.bipush (q := 151) (v := 31) dL_build_149 rfl (by decide) ?_
        refine K.iand (q := 152) dL_build_151 rfl ?_
        refine K.iadd (q := 153) dL_build_152 rfl ?_
        refine K.callSH (S := []) (q := 156) mkL_act owL_act swL_act (by decide) mw_L_30 (hA h1 _ _ _ (Or.inr (Or.inr (Or.inr (Or.inr (Or.inl rfl)))))) rfl (by decide) rfl (Nat.le_of_ble_eq_true rfl) (by omega) (by omega) dL_build_153 rfl ?_
        refine K.pop (q := 157) dL_build_156 rfl rfl ?_
        exact Q2 _ _ _ (okI_act h1 _ _ _) (by omega) (by omega) (by rw [← h4, bl4, if_pos]; rfl; exact h)
    have Q0 : ∀ (k1 n1 : Nat) (X1 : GS), okI (X1.2.1 0) → k1 ≤ k + 0 → n1 ≤ n + 0 → X1 = X → Wk k1 n1 103 [some (.ref (b + 1000)), some (.ref 0), some (.int (nI i)), some (.int c)] [] (mkH X1) := by
      intro k1 n1 X1 h1 h2 h3 h4
      refine K.iload_n (q := 104) dL_build_103 rfl rfl ?_
      refine K.bipush (q := 106) (v := 14) dL_build_104 rfl (by decide) ?_
      refine K.ishr (q := 107) dL_build_106 rfl ?_
      refine K.iconst (q := 108) (v := 3) dL_build_107 rfl (by decide) ?_
      refine K.iand (q := 109) dL_build_108 rfl ?_
      refine K.if_ne (q := 112) (tgt := 126) dL_build_109 rfl (by decide) (fun h => ?_) (fun h => ?_)
      · exact Q1 _ _ _ h1 (by omega) (by omega) (by rw [← h4, bl3, if_neg]; exact h)
      · refine K.aload_n (q := 113) dL_build_112 rfl rfl ?_
        refine K.iconst (q := 114) (v := 2) dL_build_113 rfl (by decide) ?_
        refine K.iload_n (q := 115) dL_build_114 rfl rfl ?_
        refine K.bipush (q := 117) (v := 16) dL_build_115 rfl (by decide) ?_
        refine K.ishr (q := 118) dL_build_117 rfl ?_
        refine K.bipush (q := 120) (v := 7) dL_build_118 rfl (by decide) ?_
        refine K.iand (q := 121) dL_build_120 rfl ?_
        refine K.iconst (q := 122) (v := 0) dL_build_121 rfl (by decide) ?_
        refine K.callSH (S := []) (q := 125) mkL_act owL_act swL_act (by decide) mw_L_30 (hA h1 _ _ _ (Or.inr (Or.inr (Or.inl rfl)))) rfl (by decide) rfl (Nat.le_of_ble_eq_true rfl) (by omega) (by omega) dL_build_122 rfl ?_
        refine K.pop (q := 126) dL_build_125 rfl rfl ?_
        exact Q1 _ _ _ (okI_act h1 _ _ _) (by omega) (by omega) (by rw [← h4, bl3, if_pos]; rfl; exact h)
    exact Q0 k n X hok (by omega) (by omega) rfl
  have LB : ∀ (j i : Nat) (X : GS) (k n : Nat) (x3 : Option Value), i + j = 13 → okI (X.2.1 0) → k + 7 * j ≤ 240 → n + 42 * j ≤ 3000 → (bld (atX xs Ln) = blF (atX xs Ln) j i X) → Wk k n 26 [some (.ref (b + 1000)), some (.ref 0), some (.int (nI i)), x3] [] (mkH X) := by
    intro j
    induction j with
    | zero =>
      intro i X k n x3 hi hok hk hn he
      have hii : i = 13 := by omega
      subst hii
      refine K.iload_n (q := 27) dL_build_26 rfl rfl ?_
      refine K.bipush (q := 29) (v := 13) dL_build_27 rfl (by decide) ?_
      refine K.icmp_ge (q := 32) (tgt := 236) dL_build_29 rfl (by decide) (fun _ => ?_) (fun h => absurd (nI_le (Nat.le_refl _) (by decide)) h)
      refine K.aload_n (q := 237) dL_build_236 rfl rfl ?_
      exact C.okm.aret rfl (Or.inr ⟨_, rfl⟩) rfl (by rw [he]; rfl) (by omega) (by omega) dL_build_237
    | succ j ih =>
      intro i X k n x3 hi hok hk hn he
      refine K.iload_n (q := 27) dL_build_26 rfl rfl ?_
      refine K.bipush (q := 29) (v := 13) dL_build_27 rfl (by decide) ?_
      refine K.icmp_ge (q := 32) (tgt := 236) dL_build_29 rfl (by decide) (fun h => absurd h (nleN (show i < 13 by omega) (by decide))) (fun _ => ?_)
      refine K.aload_n (q := 33) dL_build_32 rfl rfl ?_
      refine K.iload_n (q := 34) dL_build_33 rfl rfl ?_
      refine G.callS (S := []) (q := 37) prX_ok mkL_at mw_L_24 (L_at hL _ (by omega)) rfl (by decide) rfl (Nat.le_of_ble_eq_true rfl) (by omega) (by omega) dL_build_34 rfl ?_
      refine K.istore_n (q := 38) (i := 3) dL_build_37 rfl rfl (by decide) rfl ?_
      have he2 : bld (atX xs Ln) = blF (atX xs Ln) j (i + 1) (blS X (atX xs Ln i)) := he
      generalize atX xs Ln i = c at he2 ⊢
      refine K.aload_n (q := 39) dL_build_38 rfl rfl ?_
      refine K.iconst (q := 40) (v := 0) dL_build_39 rfl (by decide) ?_
      refine K.iload_n (q := 41) dL_build_40 rfl rfl ?_
      refine K.iconst (q := 42) (v := 3) dL_build_41 rfl (by decide) ?_
      refine K.iand (q := 43) dL_build_42 rfl ?_
      refine K.iconst (q := 44) (v := 1) dL_build_43 rfl (by decide) ?_
      refine K.iload_n (q := 45) dL_build_44 rfl rfl ?_
      refine K.iconst (q := 46) (v := 2) dL_build_45 rfl (by decide) ?_
      refine K.ishr (q := 47) dL_build_46 rfl ?_
      refine K.bipush (q := 49) (v := 15) dL_build_47 rfl (by decide) ?_
      refine K.iand (q := 50) dL_build_49 rfl ?_
      refine K.iadd (q := 51) dL_build_50 rfl ?_
      refine K.callSH (S := []) (q := 54) mkL_act owL_act swL_act (by decide) mw_L_30 (hA hok _ _ _ (Or.inl rfl)) rfl (by decide) rfl (Nat.le_of_ble_eq_true rfl) (by omega) (by omega) dL_build_51 rfl ?_
      refine K.pop (q := 55) dL_build_54 rfl rfl ?_
      have hok1 : okI ((bl1 X c).2.1 0) := okI_act hok _ _ _
      refine hgo (X' := bl1 X c) rfl ?_
      refine K.aload_n (q := 56) dL_build_55 rfl rfl ?_
      refine K.iload_n (q := 57) dL_build_56 rfl rfl ?_
      refine K.bipush (q := 59) (v := 6) dL_build_57 rfl (by decide) ?_
      refine K.ishr (q := 60) dL_build_59 rfl ?_
      refine K.iconst (q := 61) (v := 1) dL_build_60 rfl (by decide) ?_
      refine K.iand (q := 62) dL_build_61 rfl ?_
      have J1 : ∀ w a : Int32, w = 0 ∨ w = 1 ∨ w = 2 ∨ w = 3 ∨ w = 4 ∨ w = 5 ∨ w = 6 → w = (if sh c 6 &&& 1 = 0 then 1 else 0) → Wk (k + 1) (n + 6) 70 [some (.ref (b + 1000)), some (.ref 0), some (.int (nI i)), some (.int c)] [.int w, .ref 0] (mkH (bl1 X c)) := by
        intro w _ hw hwe
        refine K.iload_n (q := 71) dL_build_70 rfl rfl ?_
        refine K.bipush (q := 73) (v := 7) dL_build_71 rfl (by decide) ?_
        refine K.ishr (q := 74) dL_build_73 rfl ?_
        refine K.iconst (q := 75) (v := 3) dL_build_74 rfl (by decide) ?_
        refine K.iand (q := 76) dL_build_75 rfl ?_
        refine K.iconst (q := 77) (v := 1) dL_build_76 rfl (by decide) ?_
        refine K.iload_n (q := 78) dL_build_77 rfl rfl ?_
        refine K.bipush (q := 80) (v := 9) dL_build_78 rfl (by decide) ?_
        refine K.ishr (q := 81) dL_build_80 rfl ?_
        refine K.iload_n (q := 82) dL_build_81 rfl rfl ?_
        refine K.bipush (q := 84) (v := 13) dL_build_82 rfl (by decide) ?_
        refine K.ishr (q := 85) dL_build_84 rfl ?_
        refine K.iconst (q := 86) (v := 1) dL_build_85 rfl (by decide) ?_
        refine K.iand (q := 87) dL_build_86 rfl ?_
        have J2 : ∀ z : Int32, z = (if sh c 13 &&& 1 = 0 then 7 else 31) → Wk (k + 1) (n + 6) 97 [some (.ref (b + 1000)), some (.ref 0), some (.int (nI i)), some (.int c)] [.int z, .int (sh c 9), .int 1, .int (sh c 7 &&& 3), .int w, .ref 0] (mkH (bl1 X c)) := by
          intro z hz
          refine K.iand (q := 98) dL_build_97 rfl ?_
          refine K.iadd (q := 99) dL_build_98 rfl ?_
          refine K.callSH (S := []) (q := 102) mkL_act owL_act swL_act (by decide) mw_L_30 (hA hok1 _ _ _ (hw)) rfl (by decide) rfl (Nat.le_of_ble_eq_true rfl) (by omega) (by omega) dL_build_99 rfl ?_
          refine K.pop (q := 103) dL_build_102 rfl rfl ?_
          have hok2 : okI ((bl2 (bl1 X c) c).2.1 0) := okI_act hok1 _ _ _
          refine hgo (X' := bl2 (bl1 X c) c) (by rw [hwe, hz]; rfl) ?_
          exact TL (bl2 (bl1 X c) c) c i _ _ hok2 (by omega) (by omega) (by omega) (fun k1 n1 X1 h1 h2 h3 h4 => by
            rw [h4]
            refine K.iinc (q := 233) (v := nI (i + 1)) dL_build_230 rfl rfl (nI_inc _) (by decide) rfl ?_
            refine K.goto (tgt := 26) dL_build_233 (by decide) ?_
            exact ih (i + 1) _ _ _ _ (by omega) (by rw [← h4]; exact h1) (by omega) (by omega) he2)
        refine K.if_ne (q := 90) (tgt := 95) dL_build_87 rfl (by decide) (fun h => ?_) (fun h => ?_)
        · refine K.bipush (q := 97) (v := 31) dL_build_95 rfl (by decide) ?_
          exact J2 31 (by rw [if_neg]; exact h)
        · refine K.bipush (q := 92) (v := 7) dL_build_90 rfl (by decide) ?_
          refine K.goto (tgt := 97) dL_build_92 (by decide) ?_
          exact J2 7 (by rw [if_pos]; exact h)
      refine K.if_ne (q := 65) (tgt := 69) dL_build_62 rfl (by decide) (fun h => ?_) (fun h => ?_)
      · refine K.iconst (q := 70) (v := 0) dL_build_69 rfl (by decide) ?_
        exact J1 0 0 (Or.inl rfl) (by rw [if_neg]; exact h)
      · refine K.iconst (q := 66) (v := 1) dL_build_65 rfl (by decide) ?_
        refine K.goto (tgt := 70) dL_build_66 (by decide) ?_
        exact J1 1 0 (Or.inr (Or.inl rfl)) (by rw [if_pos]; exact h)
  have h7 := s7_at
  rw [List.nil_append, List.nil_append] at h7
  have h : ([] : List mC).length = 0 := rfl
  refine K.newL (k := 0) (n := 0) (cs := []) (ds := []) (a := 0) (b := 0) (ds' := [.inr (9, [.null, .null, .null, .null, .null, .null, .int 0, .int 0, .int 0, .int 0])]) (q := 3) h rfl co_X7 kw_L_18 aw_X7 iw_X7 (by decide) (by omega) (by omega) dL_build_0 rfl rfl ?_
  refine K.dup (q := 4) dL_build_3 rfl rfl ?_
  refine K.callIv (k := 1) (n := 10) (q := 7) (H' := hp (c7 0)) mkX7_init mw_L_23 h7 rfl (Nat.le_of_ble_eq_true rfl) rfl (Nat.le_of_ble_eq_true rfl) (by omega) (by omega) dL_build_4 rfl ?_
  rw [hp_c7]
  refine K.settle (N := 131) (f' := cell gsI) c7_at ?_
  show Wk _ _ _ _ _ (mkH gsI)
  refine K.astore_n (q := 8) (i := 1) dL_build_7 rfl rfl (by decide) rfl ?_
  refine K.aload_n (q := 9) dL_build_8 rfl rfl ?_
  refine K.iconst (q := 10) (v := 5) dL_build_9 rfl (by decide) ?_
  refine K.aload_n (q := 11) dL_build_10 rfl rfl ?_
  refine K.iconst (q := 12) (v := 0) dL_build_11 rfl (by decide) ?_
  refine G.callS (S := [.int 5, .ref 0]) (q := 15) prX_ok mkL_at mw_L_24 (L_at (j := 0) hL _ (by decide)) rfl (by decide) rfl (Nat.le_of_ble_eq_true rfl) (by omega) (by omega) dL_build_12 rfl ?_
  refine K.iconst (q := 16) (v := 3) dL_build_15 rfl (by decide) ?_
  refine K.iand (q := 17) dL_build_16 rfl ?_
  refine K.iconst (q := 18) (v := 3) dL_build_17 rfl (by decide) ?_
  refine K.irem (q := 19) dL_build_18 rfl (by decide) ?_
  refine K.iconst (q := 20) (v := 0) dL_build_19 rfl (by decide) ?_
  have hok0 : okI (gsI.2.1 0) := ⟨by decide, by decide⟩
  refine K.callSH (S := []) (q := 23) mkL_act owL_act swL_act (by decide) mw_L_30 (hA hok0 _ _ _ (Or.inr (Or.inr (Or.inr (Or.inr (Or.inr (Or.inl rfl))))))) rfl (by decide) rfl (Nat.le_of_ble_eq_true rfl) (by omega) (by omega) dL_build_20 rfl ?_
  refine K.pop (q := 24) dL_build_23 rfl rfl ?_
  refine K.iconst (q := 25) (v := 1) dL_build_24 rfl (by decide) ?_
  refine K.istore_n (q := 26) (i := 2) dL_build_25 rfl rfl (by decide) rfl ?_
  exact LB 12 1 _ _ _ _ (by omega) (okI_act hok0 _ _ _) (by omega) (by omega) rfl

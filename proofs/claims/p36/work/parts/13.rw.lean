/-! ===== the cells by name: rb, pb: the main board of uB X 0 b; rx, px: the others ===== -/
theorem rb1 {X : GS} {b : BD} : (mkH (uB X 0 b)).2.2 1 = .inr (2, [.ref 2, .ref 4, .ref 9]) := rfl
theorem rb2 {X : GS} {b : BD} : (mkH (uB X 0 b)).2.2 2 = .inr (7, [.ref 3, .int (b.1 0), .int (b.1 1), .int (b.1 2)]) := rfl
theorem rb4 {X : GS} {b : BD} : (mkH (uB X 0 b)).2.2 4 = .inr (5, [.ref 5, .ref 6, .ref 7, .ref 8, .int (b.1 3)]) := rfl
theorem rb9 {X : GS} {b : BD} : (mkH (uB X 0 b)).2.2 9 = .inr (8, [.ref 10, .ref 11, .int (b.1 4)]) := rfl
theorem rb3 {X : GS} {b : BD} : (mkH (uB X 0 b)).2.2 3 = .inl (0, 64, .inl (b.2 0)) := rfl
theorem pba0 {X : GS} {b : BD} {v : Nat → Int32} : sH (mkH (uB X 0 b)) 3 (.inl (0, 64, .inl v)) = mkH (uB X 0 (bA b 0 v)) := wba0 (j := 0) (by decide)
theorem rb5 {X : GS} {b : BD} : (mkH (uB X 0 b)).2.2 5 = .inl (0, 16, .inl (b.2 1)) := rfl
theorem pba1 {X : GS} {b : BD} {v : Nat → Int32} : sH (mkH (uB X 0 b)) 5 (.inl (0, 16, .inl v)) = mkH (uB X 0 (bA b 1 v)) := wba1 (j := 0) (by decide)
theorem rb6 {X : GS} {b : BD} : (mkH (uB X 0 b)).2.2 6 = .inl (0, 16, .inl (b.2 2)) := rfl
theorem pba2 {X : GS} {b : BD} {v : Nat → Int32} : sH (mkH (uB X 0 b)) 6 (.inl (0, 16, .inl v)) = mkH (uB X 0 (bA b 2 v)) := wba2 (j := 0) (by decide)
theorem rb7 {X : GS} {b : BD} : (mkH (uB X 0 b)).2.2 7 = .inl (0, 16, .inl (b.2 3)) := rfl
theorem pba3 {X : GS} {b : BD} {v : Nat → Int32} : sH (mkH (uB X 0 b)) 7 (.inl (0, 16, .inl v)) = mkH (uB X 0 (bA b 3 v)) := wba3 (j := 0) (by decide)
theorem rb8 {X : GS} {b : BD} : (mkH (uB X 0 b)).2.2 8 = .inl (0, 16, .inl (b.2 4)) := rfl
theorem pba4 {X : GS} {b : BD} {v : Nat → Int32} : sH (mkH (uB X 0 b)) 8 (.inl (0, 16, .inl v)) = mkH (uB X 0 (bA b 4 v)) := wba4 (j := 0) (by decide)
theorem rb10 {X : GS} {b : BD} : (mkH (uB X 0 b)).2.2 10 = .inl (0, 6, .inl (b.2 5)) := rfl
theorem pba5 {X : GS} {b : BD} {v : Nat → Int32} : sH (mkH (uB X 0 b)) 10 (.inl (0, 6, .inl v)) = mkH (uB X 0 (bA b 5 v)) := wba5 (j := 0) (by decide)
theorem rb11 {X : GS} {b : BD} : (mkH (uB X 0 b)).2.2 11 = .inl (0, 6, .inl (b.2 6)) := rfl
theorem pba6 {X : GS} {b : BD} {v : Nat → Int32} : sH (mkH (uB X 0 b)) 11 (.inl (0, 6, .inl v)) = mkH (uB X 0 (bA b 6 v)) := wba6 (j := 0) (by decide)
theorem pbs0 {X : GS} {b : BD} {v : Int32} : sH (mkH (uB X 0 b)) 2 (.inr (7, [.ref 3, .int v, .int (b.1 1), .int (b.1 2)])) = mkH (uB X 0 (bS b 0 v)) := wbs0 (j := 0) (by decide)
theorem pbs1 {X : GS} {b : BD} {v : Int32} : sH (mkH (uB X 0 b)) 2 (.inr (7, [.ref 3, .int (b.1 0), .int v, .int (b.1 2)])) = mkH (uB X 0 (bS b 1 v)) := wbs1 (j := 0) (by decide)
theorem pbs2 {X : GS} {b : BD} {v : Int32} : sH (mkH (uB X 0 b)) 2 (.inr (7, [.ref 3, .int (b.1 0), .int (b.1 1), .int v])) = mkH (uB X 0 (bS b 2 v)) := wbs2 (j := 0) (by decide)
theorem pbs3 {X : GS} {b : BD} {v : Int32} : sH (mkH (uB X 0 b)) 4 (.inr (5, [.ref 5, .ref 6, .ref 7, .ref 8, .int v])) = mkH (uB X 0 (bS b 3 v)) := wbs3 (j := 0) (by decide)
theorem pbs4 {X : GS} {b : BD} {v : Int32} : sH (mkH (uB X 0 b)) 9 (.inr (8, [.ref 10, .ref 11, .int v])) = mkH (uB X 0 (bS b 4 v)) := wbs4 (j := 0) (by decide)
theorem rx0 {X : GS} : (mkH X).2.2 0 = .inr (9, [.ref 1, .ref 12, .ref 23, .ref 34, .ref 124, .ref 126, .int (X.2.1 7), .int (X.2.1 8), .int (X.2.1 9), .int (X.2.1 10)]) := rfl
theorem rx0b {X : GS} {b : BD} : (mkH (uB X 0 b)).2.2 0 = .inr (9, [.ref 1, .ref 12, .ref 23, .ref 34, .ref 124, .ref 126, .int (X.2.1 7), .int (X.2.1 8), .int (X.2.1 9), .int (X.2.1 10)]) := rfl
theorem pxs7 {X : GS} {v : Int32} : sH (mkH X) 0 (.inr (9, [.ref 1, .ref 12, .ref 23, .ref 34, .ref 124, .ref 126, .int v, .int (X.2.1 8), .int (X.2.1 9), .int (X.2.1 10)])) = mkH (uS X 7 v) := ws7
theorem pxs7b {X : GS} {b : BD} {v : Int32} : sH (mkH (uB X 0 b)) 0 (.inr (9, [.ref 1, .ref 12, .ref 23, .ref 34, .ref 124, .ref 126, .int v, .int (X.2.1 8), .int (X.2.1 9), .int (X.2.1 10)])) = mkH (uB (uS X 7 v) 0 b) := ws7 (X := uB X 0 b)
theorem pxs8 {X : GS} {v : Int32} : sH (mkH X) 0 (.inr (9, [.ref 1, .ref 12, .ref 23, .ref 34, .ref 124, .ref 126, .int (X.2.1 7), .int v, .int (X.2.1 9), .int (X.2.1 10)])) = mkH (uS X 8 v) := ws8
theorem pxs8b {X : GS} {b : BD} {v : Int32} : sH (mkH (uB X 0 b)) 0 (.inr (9, [.ref 1, .ref 12, .ref 23, .ref 34, .ref 124, .ref 126, .int (X.2.1 7), .int v, .int (X.2.1 9), .int (X.2.1 10)])) = mkH (uB (uS X 8 v) 0 b) := ws8 (X := uB X 0 b)
theorem pxs9 {X : GS} {v : Int32} : sH (mkH X) 0 (.inr (9, [.ref 1, .ref 12, .ref 23, .ref 34, .ref 124, .ref 126, .int (X.2.1 7), .int (X.2.1 8), .int v, .int (X.2.1 10)])) = mkH (uS X 9 v) := ws9
theorem pxs9b {X : GS} {b : BD} {v : Int32} : sH (mkH (uB X 0 b)) 0 (.inr (9, [.ref 1, .ref 12, .ref 23, .ref 34, .ref 124, .ref 126, .int (X.2.1 7), .int (X.2.1 8), .int v, .int (X.2.1 10)])) = mkH (uB (uS X 9 v) 0 b) := ws9 (X := uB X 0 b)
theorem pxs10 {X : GS} {v : Int32} : sH (mkH X) 0 (.inr (9, [.ref 1, .ref 12, .ref 23, .ref 34, .ref 124, .ref 126, .int (X.2.1 7), .int (X.2.1 8), .int (X.2.1 9), .int v])) = mkH (uS X 10 v) := ws10
theorem pxs10b {X : GS} {b : BD} {v : Int32} : sH (mkH (uB X 0 b)) 0 (.inr (9, [.ref 1, .ref 12, .ref 23, .ref 34, .ref 124, .ref 126, .int (X.2.1 7), .int (X.2.1 8), .int (X.2.1 9), .int v])) = mkH (uB (uS X 10 v) 0 b) := ws10 (X := uB X 0 b)
theorem rx34 {X : GS} : (mkH X).2.2 34 = .inr (3, [.ref 35, .int (X.2.1 0), .int (X.2.1 1)]) := rfl
theorem rx34b {X : GS} {b : BD} : (mkH (uB X 0 b)).2.2 34 = .inr (3, [.ref 35, .int (X.2.1 0), .int (X.2.1 1)]) := rfl
theorem pxs0 {X : GS} {v : Int32} : sH (mkH X) 34 (.inr (3, [.ref 35, .int v, .int (X.2.1 1)])) = mkH (uS X 0 v) := ws0
theorem pxs0b {X : GS} {b : BD} {v : Int32} : sH (mkH (uB X 0 b)) 34 (.inr (3, [.ref 35, .int v, .int (X.2.1 1)])) = mkH (uB (uS X 0 v) 0 b) := ws0 (X := uB X 0 b)
theorem pxs1 {X : GS} {v : Int32} : sH (mkH X) 34 (.inr (3, [.ref 35, .int (X.2.1 0), .int v])) = mkH (uS X 1 v) := ws1
theorem pxs1b {X : GS} {b : BD} {v : Int32} : sH (mkH (uB X 0 b)) 34 (.inr (3, [.ref 35, .int (X.2.1 0), .int v])) = mkH (uB (uS X 1 v) 0 b) := ws1 (X := uB X 0 b)
theorem rx124 {X : GS} : (mkH X).2.2 124 = .inr (4, [.ref 125, .int (X.2.1 2)]) := rfl
theorem rx124b {X : GS} {b : BD} : (mkH (uB X 0 b)).2.2 124 = .inr (4, [.ref 125, .int (X.2.1 2)]) := rfl
theorem pxs2 {X : GS} {v : Int32} : sH (mkH X) 124 (.inr (4, [.ref 125, .int v])) = mkH (uS X 2 v) := ws2
theorem pxs2b {X : GS} {b : BD} {v : Int32} : sH (mkH (uB X 0 b)) 124 (.inr (4, [.ref 125, .int v])) = mkH (uB (uS X 2 v) 0 b) := ws2 (X := uB X 0 b)
theorem rx126 {X : GS} : (mkH X).2.2 126 = .inr (6, [.ref 127, .ref 128, .ref 129, .int (X.2.1 3), .ref 130, .int (X.2.1 4), .int (X.2.1 5), .int (X.2.1 6)]) := rfl
theorem rx126b {X : GS} {b : BD} : (mkH (uB X 0 b)).2.2 126 = .inr (6, [.ref 127, .ref 128, .ref 129, .int (X.2.1 3), .ref 130, .int (X.2.1 4), .int (X.2.1 5), .int (X.2.1 6)]) := rfl
theorem pxs3 {X : GS} {v : Int32} : sH (mkH X) 126 (.inr (6, [.ref 127, .ref 128, .ref 129, .int v, .ref 130, .int (X.2.1 4), .int (X.2.1 5), .int (X.2.1 6)])) = mkH (uS X 3 v) := ws3
theorem pxs3b {X : GS} {b : BD} {v : Int32} : sH (mkH (uB X 0 b)) 126 (.inr (6, [.ref 127, .ref 128, .ref 129, .int v, .ref 130, .int (X.2.1 4), .int (X.2.1 5), .int (X.2.1 6)])) = mkH (uB (uS X 3 v) 0 b) := ws3 (X := uB X 0 b)
theorem pxs4 {X : GS} {v : Int32} : sH (mkH X) 126 (.inr (6, [.ref 127, .ref 128, .ref 129, .int (X.2.1 3), .ref 130, .int v, .int (X.2.1 5), .int (X.2.1 6)])) = mkH (uS X 4 v) := ws4
theorem pxs4b {X : GS} {b : BD} {v : Int32} : sH (mkH (uB X 0 b)) 126 (.inr (6, [.ref 127, .ref 128, .ref 129, .int (X.2.1 3), .ref 130, .int v, .int (X.2.1 5), .int (X.2.1 6)])) = mkH (uB (uS X 4 v) 0 b) := ws4 (X := uB X 0 b)
theorem pxs5 {X : GS} {v : Int32} : sH (mkH X) 126 (.inr (6, [.ref 127, .ref 128, .ref 129, .int (X.2.1 3), .ref 130, .int (X.2.1 4), .int v, .int (X.2.1 6)])) = mkH (uS X 5 v) := ws5
theorem pxs5b {X : GS} {b : BD} {v : Int32} : sH (mkH (uB X 0 b)) 126 (.inr (6, [.ref 127, .ref 128, .ref 129, .int (X.2.1 3), .ref 130, .int (X.2.1 4), .int v, .int (X.2.1 6)])) = mkH (uB (uS X 5 v) 0 b) := ws5 (X := uB X 0 b)
theorem pxs6 {X : GS} {v : Int32} : sH (mkH X) 126 (.inr (6, [.ref 127, .ref 128, .ref 129, .int (X.2.1 3), .ref 130, .int (X.2.1 4), .int (X.2.1 5), .int v])) = mkH (uS X 6 v) := ws6
theorem pxs6b {X : GS} {b : BD} {v : Int32} : sH (mkH (uB X 0 b)) 126 (.inr (6, [.ref 127, .ref 128, .ref 129, .int (X.2.1 3), .ref 130, .int (X.2.1 4), .int (X.2.1 5), .int v])) = mkH (uB (uS X 6 v) 0 b) := ws6 (X := uB X 0 b)
theorem rx131 {X : GS} : (mkH X).2.2 131 = .inr (10, [.ref 132, .ref 133, .ref 134, .int (X.2.1 11), .ref 135, .int (X.2.1 12), .ref 136, .int (X.2.1 13), .int (X.2.1 14), .int (X.2.1 15), .int (X.2.1 16), .int (X.2.1 17), .ref 137, .int (X.2.1 18), .int (X.2.1 19), .int (X.2.1 20), .int (X.2.1 21), .ref 138]) := rfl
theorem rx131b {X : GS} {b : BD} : (mkH (uB X 0 b)).2.2 131 = .inr (10, [.ref 132, .ref 133, .ref 134, .int (X.2.1 11), .ref 135, .int (X.2.1 12), .ref 136, .int (X.2.1 13), .int (X.2.1 14), .int (X.2.1 15), .int (X.2.1 16), .int (X.2.1 17), .ref 137, .int (X.2.1 18), .int (X.2.1 19), .int (X.2.1 20), .int (X.2.1 21), .ref 138]) := rfl
theorem pxs11 {X : GS} {v : Int32} : sH (mkH X) 131 (.inr (10, [.ref 132, .ref 133, .ref 134, .int v, .ref 135, .int (X.2.1 12), .ref 136, .int (X.2.1 13), .int (X.2.1 14), .int (X.2.1 15), .int (X.2.1 16), .int (X.2.1 17), .ref 137, .int (X.2.1 18), .int (X.2.1 19), .int (X.2.1 20), .int (X.2.1 21), .ref 138])) = mkH (uS X 11 v) := ws11
theorem pxs11b {X : GS} {b : BD} {v : Int32} : sH (mkH (uB X 0 b)) 131 (.inr (10, [.ref 132, .ref 133, .ref 134, .int v, .ref 135, .int (X.2.1 12), .ref 136, .int (X.2.1 13), .int (X.2.1 14), .int (X.2.1 15), .int (X.2.1 16), .int (X.2.1 17), .ref 137, .int (X.2.1 18), .int (X.2.1 19), .int (X.2.1 20), .int (X.2.1 21), .ref 138])) = mkH (uB (uS X 11 v) 0 b) := ws11 (X := uB X 0 b)
theorem pxs12 {X : GS} {v : Int32} : sH (mkH X) 131 (.inr (10, [.ref 132, .ref 133, .ref 134, .int (X.2.1 11), .ref 135, .int v, .ref 136, .int (X.2.1 13), .int (X.2.1 14), .int (X.2.1 15), .int (X.2.1 16), .int (X.2.1 17), .ref 137, .int (X.2.1 18), .int (X.2.1 19), .int (X.2.1 20), .int (X.2.1 21), .ref 138])) = mkH (uS X 12 v) := ws12
theorem pxs12b {X : GS} {b : BD} {v : Int32} : sH (mkH (uB X 0 b)) 131 (.inr (10, [.ref 132, .ref 133, .ref 134, .int (X.2.1 11), .ref 135, .int v, .ref 136, .int (X.2.1 13), .int (X.2.1 14), .int (X.2.1 15), .int (X.2.1 16), .int (X.2.1 17), .ref 137, .int (X.2.1 18), .int (X.2.1 19), .int (X.2.1 20), .int (X.2.1 21), .ref 138])) = mkH (uB (uS X 12 v) 0 b) := ws12 (X := uB X 0 b)
theorem pxs13 {X : GS} {v : Int32} : sH (mkH X) 131 (.inr (10, [.ref 132, .ref 133, .ref 134, .int (X.2.1 11), .ref 135, .int (X.2.1 12), .ref 136, .int v, .int (X.2.1 14), .int (X.2.1 15), .int (X.2.1 16), .int (X.2.1 17), .ref 137, .int (X.2.1 18), .int (X.2.1 19), .int (X.2.1 20), .int (X.2.1 21), .ref 138])) = mkH (uS X 13 v) := ws13
theorem pxs13b {X : GS} {b : BD} {v : Int32} : sH (mkH (uB X 0 b)) 131 (.inr (10, [.ref 132, .ref 133, .ref 134, .int (X.2.1 11), .ref 135, .int (X.2.1 12), .ref 136, .int v, .int (X.2.1 14), .int (X.2.1 15), .int (X.2.1 16), .int (X.2.1 17), .ref 137, .int (X.2.1 18), .int (X.2.1 19), .int (X.2.1 20), .int (X.2.1 21), .ref 138])) = mkH (uB (uS X 13 v) 0 b) := ws13 (X := uB X 0 b)
theorem pxs14 {X : GS} {v : Int32} : sH (mkH X) 131 (.inr (10, [.ref 132, .ref 133, .ref 134, .int (X.2.1 11), .ref 135, .int (X.2.1 12), .ref 136, .int (X.2.1 13), .int v, .int (X.2.1 15), .int (X.2.1 16), .int (X.2.1 17), .ref 137, .int (X.2.1 18), .int (X.2.1 19), .int (X.2.1 20), .int (X.2.1 21), .ref 138])) = mkH (uS X 14 v) := ws14
theorem pxs14b {X : GS} {b : BD} {v : Int32} : sH (mkH (uB X 0 b)) 131 (.inr (10, [.ref 132, .ref 133, .ref 134, .int (X.2.1 11), .ref 135, .int (X.2.1 12), .ref 136, .int (X.2.1 13), .int v, .int (X.2.1 15), .int (X.2.1 16), .int (X.2.1 17), .ref 137, .int (X.2.1 18), .int (X.2.1 19), .int (X.2.1 20), .int (X.2.1 21), .ref 138])) = mkH (uB (uS X 14 v) 0 b) := ws14 (X := uB X 0 b)
theorem pxs15 {X : GS} {v : Int32} : sH (mkH X) 131 (.inr (10, [.ref 132, .ref 133, .ref 134, .int (X.2.1 11), .ref 135, .int (X.2.1 12), .ref 136, .int (X.2.1 13), .int (X.2.1 14), .int v, .int (X.2.1 16), .int (X.2.1 17), .ref 137, .int (X.2.1 18), .int (X.2.1 19), .int (X.2.1 20), .int (X.2.1 21), .ref 138])) = mkH (uS X 15 v) := ws15
theorem pxs15b {X : GS} {b : BD} {v : Int32} : sH (mkH (uB X 0 b)) 131 (.inr (10, [.ref 132, .ref 133, .ref 134, .int (X.2.1 11), .ref 135, .int (X.2.1 12), .ref 136, .int (X.2.1 13), .int (X.2.1 14), .int v, .int (X.2.1 16), .int (X.2.1 17), .ref 137, .int (X.2.1 18), .int (X.2.1 19), .int (X.2.1 20), .int (X.2.1 21), .ref 138])) = mkH (uB (uS X 15 v) 0 b) := ws15 (X := uB X 0 b)
theorem pxs16 {X : GS} {v : Int32} : sH (mkH X) 131 (.inr (10, [.ref 132, .ref 133, .ref 134, .int (X.2.1 11), .ref 135, .int (X.2.1 12), .ref 136, .int (X.2.1 13), .int (X.2.1 14), .int (X.2.1 15), .int v, .int (X.2.1 17), .ref 137, .int (X.2.1 18), .int (X.2.1 19), .int (X.2.1 20), .int (X.2.1 21), .ref 138])) = mkH (uS X 16 v) := ws16
theorem pxs16b {X : GS} {b : BD} {v : Int32} : sH (mkH (uB X 0 b)) 131 (.inr (10, [.ref 132, .ref 133, .ref 134, .int (X.2.1 11), .ref 135, .int (X.2.1 12), .ref 136, .int (X.2.1 13), .int (X.2.1 14), .int (X.2.1 15), .int v, .int (X.2.1 17), .ref 137, .int (X.2.1 18), .int (X.2.1 19), .int (X.2.1 20), .int (X.2.1 21), .ref 138])) = mkH (uB (uS X 16 v) 0 b) := ws16 (X := uB X 0 b)
theorem pxs17 {X : GS} {v : Int32} : sH (mkH X) 131 (.inr (10, [.ref 132, .ref 133, .ref 134, .int (X.2.1 11), .ref 135, .int (X.2.1 12), .ref 136, .int (X.2.1 13), .int (X.2.1 14), .int (X.2.1 15), .int (X.2.1 16), .int v, .ref 137, .int (X.2.1 18), .int (X.2.1 19), .int (X.2.1 20), .int (X.2.1 21), .ref 138])) = mkH (uS X 17 v) := ws17
theorem pxs17b {X : GS} {b : BD} {v : Int32} : sH (mkH (uB X 0 b)) 131 (.inr (10, [.ref 132, .ref 133, .ref 134, .int (X.2.1 11), .ref 135, .int (X.2.1 12), .ref 136, .int (X.2.1 13), .int (X.2.1 14), .int (X.2.1 15), .int (X.2.1 16), .int v, .ref 137, .int (X.2.1 18), .int (X.2.1 19), .int (X.2.1 20), .int (X.2.1 21), .ref 138])) = mkH (uB (uS X 17 v) 0 b) := ws17 (X := uB X 0 b)
theorem pxs18 {X : GS} {v : Int32} : sH (mkH X) 131 (.inr (10, [.ref 132, .ref 133, .ref 134, .int (X.2.1 11), .ref 135, .int (X.2.1 12), .ref 136, .int (X.2.1 13), .int (X.2.1 14), .int (X.2.1 15), .int (X.2.1 16), .int (X.2.1 17), .ref 137, .int v, .int (X.2.1 19), .int (X.2.1 20), .int (X.2.1 21), .ref 138])) = mkH (uS X 18 v) := ws18
theorem pxs18b {X : GS} {b : BD} {v : Int32} : sH (mkH (uB X 0 b)) 131 (.inr (10, [.ref 132, .ref 133, .ref 134, .int (X.2.1 11), .ref 135, .int (X.2.1 12), .ref 136, .int (X.2.1 13), .int (X.2.1 14), .int (X.2.1 15), .int (X.2.1 16), .int (X.2.1 17), .ref 137, .int v, .int (X.2.1 19), .int (X.2.1 20), .int (X.2.1 21), .ref 138])) = mkH (uB (uS X 18 v) 0 b) := ws18 (X := uB X 0 b)
theorem pxs19 {X : GS} {v : Int32} : sH (mkH X) 131 (.inr (10, [.ref 132, .ref 133, .ref 134, .int (X.2.1 11), .ref 135, .int (X.2.1 12), .ref 136, .int (X.2.1 13), .int (X.2.1 14), .int (X.2.1 15), .int (X.2.1 16), .int (X.2.1 17), .ref 137, .int (X.2.1 18), .int v, .int (X.2.1 20), .int (X.2.1 21), .ref 138])) = mkH (uS X 19 v) := ws19
theorem pxs19b {X : GS} {b : BD} {v : Int32} : sH (mkH (uB X 0 b)) 131 (.inr (10, [.ref 132, .ref 133, .ref 134, .int (X.2.1 11), .ref 135, .int (X.2.1 12), .ref 136, .int (X.2.1 13), .int (X.2.1 14), .int (X.2.1 15), .int (X.2.1 16), .int (X.2.1 17), .ref 137, .int (X.2.1 18), .int v, .int (X.2.1 20), .int (X.2.1 21), .ref 138])) = mkH (uB (uS X 19 v) 0 b) := ws19 (X := uB X 0 b)
theorem pxs20 {X : GS} {v : Int32} : sH (mkH X) 131 (.inr (10, [.ref 132, .ref 133, .ref 134, .int (X.2.1 11), .ref 135, .int (X.2.1 12), .ref 136, .int (X.2.1 13), .int (X.2.1 14), .int (X.2.1 15), .int (X.2.1 16), .int (X.2.1 17), .ref 137, .int (X.2.1 18), .int (X.2.1 19), .int v, .int (X.2.1 21), .ref 138])) = mkH (uS X 20 v) := ws20
theorem pxs20b {X : GS} {b : BD} {v : Int32} : sH (mkH (uB X 0 b)) 131 (.inr (10, [.ref 132, .ref 133, .ref 134, .int (X.2.1 11), .ref 135, .int (X.2.1 12), .ref 136, .int (X.2.1 13), .int (X.2.1 14), .int (X.2.1 15), .int (X.2.1 16), .int (X.2.1 17), .ref 137, .int (X.2.1 18), .int (X.2.1 19), .int v, .int (X.2.1 21), .ref 138])) = mkH (uB (uS X 20 v) 0 b) := ws20 (X := uB X 0 b)
theorem pxs21 {X : GS} {v : Int32} : sH (mkH X) 131 (.inr (10, [.ref 132, .ref 133, .ref 134, .int (X.2.1 11), .ref 135, .int (X.2.1 12), .ref 136, .int (X.2.1 13), .int (X.2.1 14), .int (X.2.1 15), .int (X.2.1 16), .int (X.2.1 17), .ref 137, .int (X.2.1 18), .int (X.2.1 19), .int (X.2.1 20), .int v, .ref 138])) = mkH (uS X 21 v) := ws21
theorem pxs21b {X : GS} {b : BD} {v : Int32} : sH (mkH (uB X 0 b)) 131 (.inr (10, [.ref 132, .ref 133, .ref 134, .int (X.2.1 11), .ref 135, .int (X.2.1 12), .ref 136, .int (X.2.1 13), .int (X.2.1 14), .int (X.2.1 15), .int (X.2.1 16), .int (X.2.1 17), .ref 137, .int (X.2.1 18), .int (X.2.1 19), .int (X.2.1 20), .int v, .ref 138])) = mkH (uB (uS X 21 v) 0 b) := ws21 (X := uB X 0 b)
theorem rx125 {X : GS} : (mkH X).2.2 125 = .inl (1, 384, .inl (X.2.2.1 0)) := rfl
theorem rx125b {X : GS} {b : BD} : (mkH (uB X 0 b)).2.2 125 = .inl (1, 384, .inl (X.2.2.1 0)) := rfl
theorem pxa0 {X : GS} {v : Nat → Int32} : sH (mkH X) 125 (.inl (1, 384, .inl v)) = mkH (uA X 0 v) := wa0
theorem pxa0b {X : GS} {b : BD} {v : Nat → Int32} : sH (mkH (uB X 0 b)) 125 (.inl (1, 384, .inl v)) = mkH (uB (uA X 0 v) 0 b) := wa0 (X := uB X 0 b)
theorem rx127 {X : GS} : (mkH X).2.2 127 = .inl (0, 20, .inl (X.2.2.1 1)) := rfl
theorem rx127b {X : GS} {b : BD} : (mkH (uB X 0 b)).2.2 127 = .inl (0, 20, .inl (X.2.2.1 1)) := rfl
theorem pxa1 {X : GS} {v : Nat → Int32} : sH (mkH X) 127 (.inl (0, 20, .inl v)) = mkH (uA X 1 v) := wa1
theorem pxa1b {X : GS} {b : BD} {v : Nat → Int32} : sH (mkH (uB X 0 b)) 127 (.inl (0, 20, .inl v)) = mkH (uB (uA X 1 v) 0 b) := wa1 (X := uB X 0 b)
theorem rx128 {X : GS} : (mkH X).2.2 128 = .inl (0, 20, .inl (X.2.2.1 2)) := rfl
theorem rx128b {X : GS} {b : BD} : (mkH (uB X 0 b)).2.2 128 = .inl (0, 20, .inl (X.2.2.1 2)) := rfl
theorem pxa2 {X : GS} {v : Nat → Int32} : sH (mkH X) 128 (.inl (0, 20, .inl v)) = mkH (uA X 2 v) := wa2
theorem pxa2b {X : GS} {b : BD} {v : Nat → Int32} : sH (mkH (uB X 0 b)) 128 (.inl (0, 20, .inl v)) = mkH (uB (uA X 2 v) 0 b) := wa2 (X := uB X 0 b)
theorem rx129 {X : GS} : (mkH X).2.2 129 = .inl (0, 20, .inl (X.2.2.1 3)) := rfl
theorem rx129b {X : GS} {b : BD} : (mkH (uB X 0 b)).2.2 129 = .inl (0, 20, .inl (X.2.2.1 3)) := rfl
theorem pxa3 {X : GS} {v : Nat → Int32} : sH (mkH X) 129 (.inl (0, 20, .inl v)) = mkH (uA X 3 v) := wa3
theorem pxa3b {X : GS} {b : BD} {v : Nat → Int32} : sH (mkH (uB X 0 b)) 129 (.inl (0, 20, .inl v)) = mkH (uB (uA X 3 v) 0 b) := wa3 (X := uB X 0 b)
theorem rx130 {X : GS} : (mkH X).2.2 130 = .inl (1, 60, .inl (X.2.2.1 4)) := rfl
theorem rx130b {X : GS} {b : BD} : (mkH (uB X 0 b)).2.2 130 = .inl (1, 60, .inl (X.2.2.1 4)) := rfl
theorem pxa4 {X : GS} {v : Nat → Int32} : sH (mkH X) 130 (.inl (1, 60, .inl v)) = mkH (uA X 4 v) := wa4
theorem pxa4b {X : GS} {b : BD} {v : Nat → Int32} : sH (mkH (uB X 0 b)) 130 (.inl (1, 60, .inl v)) = mkH (uB (uA X 4 v) 0 b) := wa4 (X := uB X 0 b)
theorem rx132 {X : GS} : (mkH X).2.2 132 = .inl (0, 129, .inl (X.2.2.1 5)) := rfl
theorem rx132b {X : GS} {b : BD} : (mkH (uB X 0 b)).2.2 132 = .inl (0, 129, .inl (X.2.2.1 5)) := rfl
theorem pxa5 {X : GS} {v : Nat → Int32} : sH (mkH X) 132 (.inl (0, 129, .inl v)) = mkH (uA X 5 v) := wa5
theorem pxa5b {X : GS} {b : BD} {v : Nat → Int32} : sH (mkH (uB X 0 b)) 132 (.inl (0, 129, .inl v)) = mkH (uB (uA X 5 v) 0 b) := wa5 (X := uB X 0 b)
theorem rx133 {X : GS} : (mkH X).2.2 133 = .inl (0, 129, .inl (X.2.2.1 6)) := rfl
theorem rx133b {X : GS} {b : BD} : (mkH (uB X 0 b)).2.2 133 = .inl (0, 129, .inl (X.2.2.1 6)) := rfl
theorem pxa6 {X : GS} {v : Nat → Int32} : sH (mkH X) 133 (.inl (0, 129, .inl v)) = mkH (uA X 6 v) := wa6
theorem pxa6b {X : GS} {b : BD} {v : Nat → Int32} : sH (mkH (uB X 0 b)) 133 (.inl (0, 129, .inl v)) = mkH (uB (uA X 6 v) 0 b) := wa6 (X := uB X 0 b)
theorem rx134 {X : GS} : (mkH X).2.2 134 = .inl (0, 1032, .inl (X.2.2.1 7)) := rfl
theorem rx134b {X : GS} {b : BD} : (mkH (uB X 0 b)).2.2 134 = .inl (0, 1032, .inl (X.2.2.1 7)) := rfl
theorem pxa7 {X : GS} {v : Nat → Int32} : sH (mkH X) 134 (.inl (0, 1032, .inl v)) = mkH (uA X 7 v) := wa7
theorem pxa7b {X : GS} {b : BD} {v : Nat → Int32} : sH (mkH (uB X 0 b)) 134 (.inl (0, 1032, .inl v)) = mkH (uB (uA X 7 v) 0 b) := wa7 (X := uB X 0 b)
theorem rx135 {X : GS} : (mkH X).2.2 135 = .inl (0, 129, .inl (X.2.2.1 8)) := rfl
theorem rx135b {X : GS} {b : BD} : (mkH (uB X 0 b)).2.2 135 = .inl (0, 129, .inl (X.2.2.1 8)) := rfl
theorem pxa8 {X : GS} {v : Nat → Int32} : sH (mkH X) 135 (.inl (0, 129, .inl v)) = mkH (uA X 8 v) := wa8
theorem pxa8b {X : GS} {b : BD} {v : Nat → Int32} : sH (mkH (uB X 0 b)) 135 (.inl (0, 129, .inl v)) = mkH (uB (uA X 8 v) 0 b) := wa8 (X := uB X 0 b)
theorem rx136 {X : GS} : (mkH X).2.2 136 = .inl (1, 60, .inl (X.2.2.1 9)) := rfl
theorem rx136b {X : GS} {b : BD} : (mkH (uB X 0 b)).2.2 136 = .inl (1, 60, .inl (X.2.2.1 9)) := rfl
theorem pxa9 {X : GS} {v : Nat → Int32} : sH (mkH X) 136 (.inl (1, 60, .inl v)) = mkH (uA X 9 v) := wa9
theorem pxa9b {X : GS} {b : BD} {v : Nat → Int32} : sH (mkH (uB X 0 b)) 136 (.inl (1, 60, .inl v)) = mkH (uB (uA X 9 v) 0 b) := wa9 (X := uB X 0 b)
theorem rx137 {X : GS} : (mkH X).2.2 137 = .inl (1, 400, .inl (X.2.2.1 10)) := rfl
theorem rx137b {X : GS} {b : BD} : (mkH (uB X 0 b)).2.2 137 = .inl (1, 400, .inl (X.2.2.1 10)) := rfl
theorem pxa10 {X : GS} {v : Nat → Int32} : sH (mkH X) 137 (.inl (1, 400, .inl v)) = mkH (uA X 10 v) := wa10
theorem pxa10b {X : GS} {b : BD} {v : Nat → Int32} : sH (mkH (uB X 0 b)) 137 (.inl (1, 400, .inl v)) = mkH (uB (uA X 10 v) 0 b) := wa10 (X := uB X 0 b)
theorem rx138 {X : GS} : (mkH X).2.2 138 = .inl (0, 180, .inl (X.2.2.1 11)) := rfl
theorem rx138b {X : GS} {b : BD} : (mkH (uB X 0 b)).2.2 138 = .inl (0, 180, .inl (X.2.2.1 11)) := rfl
theorem pxa11 {X : GS} {v : Nat → Int32} : sH (mkH X) 138 (.inl (0, 180, .inl v)) = mkH (uA X 11 v) := wa11
theorem pxa11b {X : GS} {b : BD} {v : Nat → Int32} : sH (mkH (uB X 0 b)) 138 (.inl (0, 180, .inl v)) = mkH (uB (uA X 11 v) 0 b) := wa11 (X := uB X 0 b)
theorem rx35 {X : GS} : (mkH X).2.2 35 = .inl (4, 8, .inr (.inr (.inr (.inr ring0)))) := rfl
theorem rx139 {X : GS} : (mkH X).2.2 139 = .inl (2, 1, .inr (.inl X.2.2.2.1)) := rfl
theorem rx140 {X : GS} : (mkH X).2.2 140 = .inl (3, 1, .inr (.inr (.inr (.inl X.2.2.2.2)))) := rfl

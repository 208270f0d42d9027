/-! ===== p36: the law's methods as functions of the state ===== -/
theorem nleN {a b : Nat} (h : a < b) (hb : b < 2147483648) : ¬ nI b ≤ nI a := fun h1 => absurd ((nI_leI hb (by omega)).mp h1) (by omega)
theorem nI_inc (n : Nat) : nI n + Int32.ofInt 1 = nI (n + 1) := (nI_succ n).symm
def bdI : BD := (fun _ => 0, up (fun _ _ => 0) 0 (up (fun _ => 0) 0 64))
def gsI : GS := (fun _ => bdI, up (fun _ => 0) 7 (-1), fun _ _ => 0, fun _ => 0, fun _ => 0)
def sLend (X : GS) (x y : Int32) : GS := uB (x_X7_lend X (X.1 0) x y) 0 (u_X7_lend (X.1 0) x y)
def sAsk (X : GS) (x y : Int32) : GS := uB (x_X7_ask X (X.1 0) x y) 0 (u_X7_ask (X.1 0) x y)
def sGive (X : GS) (x : Int32) : GS := uB (x_X7_give X (X.1 0) x) 0 (u_X7_give (X.1 0) x)
def sGiveAll (X : GS) (x : Int32) : GS := uB (x_X7_giveAll X (X.1 0) x) 0 (u_X7_giveAll (X.1 0) x)
def sResize (X : GS) (x y : Int32) : GS := uB (x_X7_resize X (X.1 0) x y) 0 (u_X7_resize (X.1 0) x y)
def sWay (X : GS) (x : Int32) : GS := uB (x_X7_way X (X.1 0) x) 0 (u_X7_way (X.1 0) x)
def sForget (X : GS) (x : Int32) : GS := uB (x_X7_forget X (X.1 0) x) 0 (u_X7_forget (X.1 0) x)
def sLine (X : GS) : GS := uB (x_X7_line X (X.1 0)) 0 (X.1 0)
def sApp (X : GS) (c : Int32) : GS := uB (x_X7_append X c) 0 (X.1 0)
def sUndo (X : GS) : GS := uB (x_X7_undo X) 0 (u_X7_undo X (X.1 0))
def sSave (X : GS) : GS := uB (x_X7_save X (X.1 0)) 0 (X.1 0)
def sRestore (X : GS) : GS := uB (x_X7_restore X) 0 (u_X7_restore X (X.1 0))
def typ : List Int32 → GS → GS
  | [], X => X
  | c :: t, X => typ t (sApp X c)
def rnQ (X : GS) : String × Int32 × BD × GS := (m_X7_run X (X.1 0)).getD ("?", 0, bd0, gs0)
def rnS (X : GS) : GS := uB (rnQ X).2.2.2 0 (rnQ X).2.2.1
def isL (X : GS) : Nat → List Int32 → Bool
  | _, [] => true
  | k, c :: t => decide (e_X7_character X (nI k) = "") && (decide (r_X7_character X (nI k) = c) && isL X (k + 1) t)
/-- what act answers: refused -2, another exception -3 -/
def aR (e : String) (r : Int32) : Int32 := if e = "" then r else if e = "java/lang/UnsupportedOperationException" then -2 else -3
def pAct (X : GS) (w a b : Int32) : Int32 × GS :=
  if w = 0 then (aR (e_X7_lend (X.1 0) a b) (r_X7_lend (X.1 0) a b), sLend X a b)
  else if w = 1 then (aR (e_X7_ask (X.1 0) a b) (r_X7_ask (X.1 0) a b), sAsk X a b)
  else if w = 2 then (aR (e_X7_give (X.1 0) a) (r_X7_give (X.1 0) a), sGive X a)
  else if w = 3 then (aR (e_X7_giveAll (X.1 0) a) (r_X7_giveAll (X.1 0) a), sGiveAll X a)
  else if w = 4 then (aR (e_X7_resize (X.1 0) a b) (r_X7_resize (X.1 0) a b), sResize X a b)
  else if w = 5 then (aR (e_X7_way (X.1 0) a) (r_X7_way (X.1 0) a), sWay X a)
  else (aR (e_X7_forget (X.1 0) a) (r_X7_forget (X.1 0) a), sForget X a)
def rem3 (x : Int32) : Int32 := x - x / 3 * 3
def sh (c k : Int32) : Int32 := c >>> (k &&& 31)
def bl1 (X : GS) (c : Int32) : GS := (pAct X 0 (c &&& 3) (1 + (sh c 2 &&& 15))).2
def bl2 (X : GS) (c : Int32) : GS := (pAct X (if sh c 6 &&& 1 = 0 then 1 else 0) (sh c 7 &&& 3) (1 + (sh c 9 &&& (if sh c 13 &&& 1 = 0 then 7 else 31)))).2
def bl3 (X : GS) (c : Int32) : GS := if sh c 14 &&& 3 = 0 then (pAct X 2 (sh c 16 &&& 7) 0).2 else X
def bl4 (X : GS) (c : Int32) : GS := if sh c 19 &&& 3 = 0 then (pAct X 4 (sh c 21 &&& 7) (1 + (sh c 24 &&& 31))).2 else X
def bl5 (X : GS) (c : Int32) : GS := if sh c 19 &&& 15 = 1 then (pAct X 3 (sh c 23 &&& 3) 0).2 else X
def bl6 (X : GS) (c : Int32) : GS := if sh c 25 &&& 15 = 1 then (pAct X 5 (rem3 (sh c 2 &&& 3)) 0).2 else X
def bl7 (X : GS) (c : Int32) : GS := if sh c 25 &&& 15 = 2 then (pAct X 6 (sh c 2 &&& 3) 0).2 else X
def blS (X : GS) (c : Int32) : GS := bl7 (bl6 (bl5 (bl4 (bl3 (bl2 (bl1 X c) c) c) c) c) c) c
def blF (at' : Nat → Int32) : Nat → Nat → GS → GS
  | 0, _, X => X
  | j + 1, k, X => blF at' j (k + 1) (blS X (at' k))
/-- what build makes of a script -/
def bld (at' : Nat → Int32) : GS := blF at' 12 1 (pAct gsI 5 (rem3 (at' 0 &&& 3)) 0).2
/-- the state's sum -/
def st1 (X : GS) : Nat → Nat → Int32 → Int32
  | 0, _, v => v
  | j + 1, k, v => st1 X j (k + 1) (31 * v + r_X7_account X (X.1 0) (nI k))
def st2i (b : BD) (l : Nat) : Nat → Nat → Int32 → Int32
  | 0, _, v => v
  | j + 1, k, v => st2i b l j (k + 1) (31 * v + r_X7_loanOf b (nI l) (nI k))
def st2 (b : BD) : Nat → Nat → Int32 → Int32
  | 0, _, v => v
  | j + 1, l, v => st2 b j (l + 1) (st2i b l 4 0 v)
def st3i (b : BD) (l : Nat) : Nat → Nat → Int32 → Int32
  | 0, _, v => v
  | j + 1, k, v => st3i b l j (k + 1) (31 * v + r_X7_waitingOf b (nI l) (nI k))
def st3 (b : BD) : Nat → Nat → Int32 → Int32
  | 0, _, v => v
  | j + 1, l, v => st3 b j (l + 1) (st3i b l 2 0 v)
def st4 (b : BD) : Nat → Nat → Int32 → Int32
  | 0, _, v => v
  | j + 1, u, v => st4 b j (u + 1) (31 * v + r_X7_pieceOf b (nI u) 1)
def stH (X : GS) (nl nw : Nat) : Int32 := st4 (X.1 0) 64 0 (st3 (X.1 0) nw 0 (st2 (X.1 0) nl 0 (st1 X 9 0 0)))

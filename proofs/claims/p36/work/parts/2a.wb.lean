theorem lp_isCounted_step (b : BD) (a : Int32) (j : Nat) (h : (lp_X0_isCountedAlike_2 b j (a * 2)) ≠ none) : lp_X0_isCountedAlike_2 b (j + 1) a ≠ none := by
  rw [lp_X0_isCountedAlike_2]
  split
  · exact fun h => by cases h
  · split
    · first | exact h | exact fun h => by cases h
    · first | exact h | exact fun h => by cases h
theorem lp_isCounted_end (b : BD) (a : Int32) (j : Nat) (h : 64 < a) : lp_X0_isCountedAlike_2 b (j + 1) a ≠ none := by
  rw [lp_X0_isCountedAlike_2, if_pos h]
  exact fun h => by cases h
theorem isCounted_ne (b : BD) : lp_X0_isCountedAlike_2 b 64 1 ≠ none :=
  lp_isCounted_step _ _ _ (lp_isCounted_step _ _ _ (lp_isCounted_step _ _ _ (lp_isCounted_step _ _ _ (lp_isCounted_step _ _ _ (lp_isCounted_step _ _ _ (lp_isCounted_step _ _ _ (lp_isCounted_end _ _ _ (by decide))))))))

theorem uS_eta {X : GS} {k : Nat} : uS X k (X.2.1 k) = X := by
  unfold uS
  rw [up_eta]
/-- but for reason and detail -/
def jj (X Y : GS) : Prop := ∃ a c : Int32, Y = uS (uS X 9 a) 10 c
theorem jj_refl (X : GS) : jj X X := ⟨X.2.1 9, X.2.1 10, by rw [show uS X 9 (X.2.1 9) = X from uS_eta]; exact uS_eta.symm⟩
theorem jj_set (X : GS) (a c : Int32) : jj X (uS (uS X 9 a) 10 c) := ⟨a, c, rfl⟩
theorem jj_ite {p : Prop} [Decidable p] {X Y Z : GS} (h1 : jj X Y) (h2 : jj X Z) : jj X (if p then Y else Z) := by
  split
  · exact h1
  · exact h2
theorem jj.n0 {X Y : GS} (h : jj X Y) : Y.2.1 0 = X.2.1 0 := by
  obtain ⟨a, c, rfl⟩ := h
  rfl
theorem jj.n3 {X Y : GS} (h : jj X Y) : Y.2.1 3 = X.2.1 3 := by
  obtain ⟨a, c, rfl⟩ := h
  rfl
theorem jj.trans {X Y Z : GS} (h : jj X Y) (h2 : jj Y Z) : jj X Z := by
  obtain ⟨a, c, rfl⟩ := h
  obtain ⟨a', c', rfl⟩ := h2
  refine ⟨a', c', ?_⟩
  unfold uS
  congr 1
  congr 1
  funext i
  show up (up (up (up X.2.1 9 a) 10 c) 9 a') 10 c' i = up (up X.2.1 9 a') 10 c' i
  by_cases h1 : i = 10
  · subst h1; rw [up_self, up_self]
  · by_cases h2 : i = 9
    · subst h2; rw [up_ne h1, up_self, up_ne h1, up_self]
    · rw [up_ne h1, up_ne h2, up_ne h1, up_ne h2, up_ne h1, up_ne h2]

theorem jj_X7_refuse (X : GS) (newReason : Int32) (newDetail : Int32) : jj X (x_X7_refuse X newReason newDetail) := by
  exact jj_set _ _ _
theorem n0_X7_refuse (X : GS) (newReason : Int32) (newDetail : Int32) : (x_X7_refuse X newReason newDetail).2.1 0 = X.2.1 0 := (jj_X7_refuse X newReason newDetail).n0
theorem jj_X7_judgeLend (X : GS) (b : BD) (name : Int32) (amount : Int32) : jj X (x_X7_judgeLend X b name amount) := by
  unfold x_X7_judgeLend
  (repeat' apply jj_ite) <;> first | exact jj_refl _ | exact jj_set _ _ _ | exact jj_X7_refuse _ _ _
theorem n0_X7_judgeLend (X : GS) (b : BD) (name : Int32) (amount : Int32) : (x_X7_judgeLend X b name amount).2.1 0 = X.2.1 0 := (jj_X7_judgeLend X b name amount).n0
theorem jj_X7_judgeAsk (X : GS) (b : BD) (name : Int32) (amount : Int32) : jj X (x_X7_judgeAsk X b name amount) := by
  unfold x_X7_judgeAsk
  (repeat' apply jj_ite) <;> first | exact jj_refl _ | exact jj_set _ _ _ | exact jj_X7_refuse _ _ _ | exact jj_X7_judgeLend _ _ _ _
theorem n0_X7_judgeAsk (X : GS) (b : BD) (name : Int32) (amount : Int32) : (x_X7_judgeAsk X b name amount).2.1 0 = X.2.1 0 := (jj_X7_judgeAsk X b name amount).n0
theorem jj_X7_judgeGiveAll (X : GS) (b : BD) (name : Int32) : jj X (x_X7_judgeGiveAll X b name) := by
  unfold x_X7_judgeGiveAll
  (repeat' apply jj_ite) <;> first | exact jj_refl _ | exact jj_set _ _ _ | exact jj_X7_refuse _ _ _ | exact jj_X7_judgeLend _ _ _ _ | exact jj_X7_judgeAsk _ _ _ _
theorem n0_X7_judgeGiveAll (X : GS) (b : BD) (name : Int32) : (x_X7_judgeGiveAll X b name).2.1 0 = X.2.1 0 := (jj_X7_judgeGiveAll X b name).n0
theorem jj_X7_judgeResize (X : GS) (b : BD) (loan : Int32) (amount : Int32) : jj X (x_X7_judgeResize X b loan amount) := by
  unfold x_X7_judgeResize
  (repeat' apply jj_ite) <;> first | exact jj_refl _ | exact jj_set _ _ _ | exact jj_X7_refuse _ _ _ | exact jj_X7_judgeLend _ _ _ _ | exact jj_X7_judgeAsk _ _ _ _ | exact jj_X7_judgeGiveAll _ _ _
theorem n0_X7_judgeResize (X : GS) (b : BD) (loan : Int32) (amount : Int32) : (x_X7_judgeResize X b loan amount).2.1 0 = X.2.1 0 := (jj_X7_judgeResize X b loan amount).n0
theorem jj_X7_judgeWay (X : GS) (b : BD) (way : Int32) : jj X (x_X7_judgeWay X b way) := by
  unfold x_X7_judgeWay
  (repeat' apply jj_ite) <;> first | exact jj_refl _ | exact jj_set _ _ _ | exact jj_X7_refuse _ _ _ | exact jj_X7_judgeLend _ _ _ _ | exact jj_X7_judgeAsk _ _ _ _ | exact jj_X7_judgeGiveAll _ _ _ | exact jj_X7_judgeResize _ _ _ _
theorem n0_X7_judgeWay (X : GS) (b : BD) (way : Int32) : (x_X7_judgeWay X b way).2.1 0 = X.2.1 0 := (jj_X7_judgeWay X b way).n0
theorem jj_X7_judgeOrder (X : GS) (b : BD) (kind : Int32) (first : Int32) (second : Int32) : jj X (x_X7_judgeOrder X b kind first second) := by
  unfold x_X7_judgeOrder
  (repeat' apply jj_ite) <;> first | exact jj_refl _ | exact jj_set _ _ _ | exact jj_X7_refuse _ _ _ | exact jj_X7_judgeLend _ _ _ _ | exact jj_X7_judgeAsk _ _ _ _ | exact jj_X7_judgeGiveAll _ _ _ | exact jj_X7_judgeResize _ _ _ _ | exact jj_X7_judgeWay _ _ _
theorem n0_X7_judgeOrder (X : GS) (b : BD) (kind : Int32) (first : Int32) (second : Int32) : (x_X7_judgeOrder X b kind first second).2.1 0 = X.2.1 0 := (jj_X7_judgeOrder X b kind first second).n0
theorem ch_narrow {X : GS} {x : Int32} (hch : ∀ i : Nat, narrow .char (.int (X.2.2.1 0 i)) = .int (X.2.2.1 0 i)) : narrow .char (.int (r_X2_signAt X x)) = .int (r_X2_signAt X x) := by
  unfold r_X2_signAt
  split
  · rfl
  · exact hch _
theorem rd12 {X : GS} {b : BD} : (mkH (uB X 0 b)).2.2 12 = .inr (2, [.ref 13, .ref 15, .ref 20]) := rdi0 (X := X) (j := 0) (b := b) (i := 1) (by decide) (by decide)
theorem rd23 {X : GS} {b : BD} : (mkH (uB X 0 b)).2.2 23 = .inr (2, [.ref 24, .ref 26, .ref 31]) := rdi0 (X := X) (j := 0) (b := b) (i := 2) (by decide) (by decide)

def r_X7_lend (b : BD) (name : Int32) (amount : Int32) : Int32 := (if (e_X7_insist (r_X7_judgeLend b name amount)) = "" then (r_X0_lendTo b name amount) else 0)

def u_X7_lend (b : BD) (name : Int32) (amount : Int32) : BD := (if (e_X7_insist (r_X7_judgeLend b name amount)) = "" then (u_X0_lendTo b name amount) else b)

def x_X7_lend (X : GS) (b : BD) (name : Int32) (amount : Int32) : GS := (if (e_X7_insist (r_X7_judgeLend b name amount)) = "" then (x_X1_keep0 (x_X7_judgeLend X b name amount) b) else (x_X7_judgeLend X b name amount))

def e_X7_lend (b : BD) (name : Int32) (amount : Int32) : String := (if (e_X7_insist (r_X7_judgeLend b name amount)) = "" then "" else (e_X7_insist (r_X7_judgeLend b name amount)))
set_option maxRecDepth 20000 in
theorem s_X7_lend (X : GS) (b : BD) (name : Int32) (amount : Int32) (hN : okI (X.2.1 0)) : Ct 7 1 6 yX7_lend (.code yX7_lend cX7_lend 3 (some (.int))) [.ref 0, .int name, .int amount] (mkH (uB X 0 b)) (rT (e_X7_lend b name amount) (some (.int (r_X7_lend b name amount)))) (mkH (uB (x_X7_lend X b name amount) 0 (u_X7_lend b name amount))) := by
  refine Ct.of (LL := [some (.ref 0), some (.int name), some (.int amount)]) mkX7_lend.1 owX7_lend rfl (Nat.le_of_ble_eq_true rfl) rfl (fun Wk C => ?_)
  have K := C.core
  refine K.aload_n (q := 1) dX7_lend_0 rfl rfl ?_
  refine K.iload_n (q := 2) dX7_lend_1 rfl rfl ?_
  refine K.iload_n (q := 3) dX7_lend_2 rfl rfl ?_
  refine K.callV0 (q := 6) mkX7_judgeLend mw_X7_57 (s_X7_judgeLend _ _ _ _) rfl (by decide) rfl (lt141 (by decide)) rx0b (Nat.le_of_ble_eq_true rfl) (Nat.le_of_ble_eq_true rfl) (Nat.le_of_ble_eq_true rfl) dX7_lend_3 rfl ?_
  by_cases t_6_1 : (e_X7_insist (r_X7_judgeLend b name amount)) = ""
  · refine K.callSv (q := 9) mkX7_insist mw_X7_61 (ct_ok (s_X7_insist _ _ _) t_6_1) rfl (by decide) rfl (Nat.le_of_ble_eq_true rfl) (Nat.le_of_ble_eq_true rfl) (Nat.le_of_ble_eq_true rfl) dX7_lend_6 rfl ?_
    refine K.aload_n (q := 10) dX7_lend_9 rfl rfl ?_
    refine K.getf (q := 13) (v := .ref 34) fo_X7_25.r rx0b (lt141 (by decide)) rfl dX7_lend_10 rfl ?_
    refine K.aload_n (q := 14) dX7_lend_13 rfl rfl ?_
    refine K.getf (q := 17) (v := .ref 1) fo_X7_12.r rx0b (lt141 (by decide)) rfl dX7_lend_14 rfl ?_
    refine K.callVv0 (q := 20) mkX1_keep mw_X7_65 (s_X1_keep0 _ _ (by first | exact hN | (simp only [n0_X7_refuse, n0_X7_judgeLend, n0_X7_judgeAsk, n0_X7_judgeGiveAll, n0_X7_judgeResize, n0_X7_judgeWay, n0_X7_judgeOrder]; exact hN))) rfl (by decide) rfl (lt141 (by decide)) rx34b (Nat.le_of_ble_eq_true rfl) (Nat.le_of_ble_eq_true rfl) (Nat.le_of_ble_eq_true rfl) dX7_lend_17 rfl ?_
    refine K.aload_n (q := 21) dX7_lend_20 rfl rfl ?_
    refine K.getf (q := 24) (v := .ref 1) fo_X7_12.r rx0b (lt141 (by decide)) rfl dX7_lend_21 rfl ?_
    refine K.iload_n (q := 25) dX7_lend_24 rfl rfl ?_
    refine K.iload_n (q := 26) dX7_lend_25 rfl rfl ?_
    refine K.callV0 (q := 29) mkX0_lendTo mw_X7_69 (s_X0_lendTo _ _ _ _) rfl (by decide) rfl (lt141 (by decide)) rb1 (Nat.le_of_ble_eq_true rfl) (Nat.le_of_ble_eq_true rfl) (Nat.le_of_ble_eq_true rfl) dX7_lend_26 rfl ?_
    exact C.iret rfl rfl (by rw [rT, if_pos (by rw [e_X7_lend, if_pos t_6_1]), r_X7_lend, if_pos t_6_1]) (by rw [u_X7_lend, if_pos t_6_1, x_X7_lend, if_pos t_6_1]) (Nat.le_of_ble_eq_true rfl) (Nat.le_of_ble_eq_true rfl) dX7_lend_29
  · exact (C.cast (by rw [rT, if_neg (by rw [e_X7_lend, if_neg t_6_1]; exact t_6_1), e_X7_lend, if_neg t_6_1]) (by rw [u_X7_lend, if_neg t_6_1, x_X7_lend, if_neg t_6_1])).outS mkX7_insist mw_X7_61 (ct_ex (s_X7_insist _ _ _) t_6_1) rfl (by decide) rfl (Nat.le_of_ble_eq_true rfl) (Nat.le_of_ble_eq_true rfl) (Nat.le_of_ble_eq_true rfl) dX7_lend_6

def r_X7_ask (b : BD) (name : Int32) (amount : Int32) : Int32 := (if (e_X7_insist (r_X7_judgeAsk b name amount)) = "" then (r_X0_lendOrQueue b name amount) else 0)

def u_X7_ask (b : BD) (name : Int32) (amount : Int32) : BD := (if (e_X7_insist (r_X7_judgeAsk b name amount)) = "" then (u_X0_lendOrQueue b name amount) else b)

def x_X7_ask (X : GS) (b : BD) (name : Int32) (amount : Int32) : GS := (if (e_X7_insist (r_X7_judgeAsk b name amount)) = "" then (x_X1_keep0 (x_X7_judgeAsk X b name amount) b) else (x_X7_judgeAsk X b name amount))

def e_X7_ask (b : BD) (name : Int32) (amount : Int32) : String := (if (e_X7_insist (r_X7_judgeAsk b name amount)) = "" then "" else (e_X7_insist (r_X7_judgeAsk b name amount)))
set_option maxRecDepth 20000 in
theorem s_X7_ask (X : GS) (b : BD) (name : Int32) (amount : Int32) (hN : okI (X.2.1 0)) : Ct 7 1 6 yX7_ask (.code yX7_ask cX7_ask 3 (some (.int))) [.ref 0, .int name, .int amount] (mkH (uB X 0 b)) (rT (e_X7_ask b name amount) (some (.int (r_X7_ask b name amount)))) (mkH (uB (x_X7_ask X b name amount) 0 (u_X7_ask b name amount))) := by
  refine Ct.of (LL := [some (.ref 0), some (.int name), some (.int amount)]) mkX7_ask.1 owX7_ask rfl (Nat.le_of_ble_eq_true rfl) rfl (fun Wk C => ?_)
  have K := C.core
  refine K.aload_n (q := 1) dX7_ask_0 rfl rfl ?_
  refine K.iload_n (q := 2) dX7_ask_1 rfl rfl ?_
  refine K.iload_n (q := 3) dX7_ask_2 rfl rfl ?_
  refine K.callV0 (q := 6) mkX7_judgeAsk mw_X7_72 (s_X7_judgeAsk _ _ _ _) rfl (by decide) rfl (lt141 (by decide)) rx0b (Nat.le_of_ble_eq_true rfl) (Nat.le_of_ble_eq_true rfl) (Nat.le_of_ble_eq_true rfl) dX7_ask_3 rfl ?_
  by_cases t_6_1 : (e_X7_insist (r_X7_judgeAsk b name amount)) = ""
  · refine K.callSv (q := 9) mkX7_insist mw_X7_61 (ct_ok (s_X7_insist _ _ _) t_6_1) rfl (by decide) rfl (Nat.le_of_ble_eq_true rfl) (Nat.le_of_ble_eq_true rfl) (Nat.le_of_ble_eq_true rfl) dX7_ask_6 rfl ?_
    refine K.aload_n (q := 10) dX7_ask_9 rfl rfl ?_
    refine K.getf (q := 13) (v := .ref 34) fo_X7_25.r rx0b (lt141 (by decide)) rfl dX7_ask_10 rfl ?_
    refine K.aload_n (q := 14) dX7_ask_13 rfl rfl ?_
    refine K.getf (q := 17) (v := .ref 1) fo_X7_12.r rx0b (lt141 (by decide)) rfl dX7_ask_14 rfl ?_
    refine K.callVv0 (q := 20) mkX1_keep mw_X7_65 (s_X1_keep0 _ _ (by first | exact hN | (simp only [n0_X7_refuse, n0_X7_judgeLend, n0_X7_judgeAsk, n0_X7_judgeGiveAll, n0_X7_judgeResize, n0_X7_judgeWay, n0_X7_judgeOrder]; exact hN))) rfl (by decide) rfl (lt141 (by decide)) rx34b (Nat.le_of_ble_eq_true rfl) (Nat.le_of_ble_eq_true rfl) (Nat.le_of_ble_eq_true rfl) dX7_ask_17 rfl ?_
    refine K.aload_n (q := 21) dX7_ask_20 rfl rfl ?_
    refine K.getf (q := 24) (v := .ref 1) fo_X7_12.r rx0b (lt141 (by decide)) rfl dX7_ask_21 rfl ?_
    refine K.iload_n (q := 25) dX7_ask_24 rfl rfl ?_
    refine K.iload_n (q := 26) dX7_ask_25 rfl rfl ?_
    refine K.callV0 (q := 29) mkX0_lendOrQueue mw_X7_75 (s_X0_lendOrQueue _ _ _ _) rfl (by decide) rfl (lt141 (by decide)) rb1 (Nat.le_of_ble_eq_true rfl) (Nat.le_of_ble_eq_true rfl) (Nat.le_of_ble_eq_true rfl) dX7_ask_26 rfl ?_
    exact C.iret rfl rfl (by rw [rT, if_pos (by rw [e_X7_ask, if_pos t_6_1]), r_X7_ask, if_pos t_6_1]) (by rw [u_X7_ask, if_pos t_6_1, x_X7_ask, if_pos t_6_1]) (Nat.le_of_ble_eq_true rfl) (Nat.le_of_ble_eq_true rfl) dX7_ask_29
  · exact (C.cast (by rw [rT, if_neg (by rw [e_X7_ask, if_neg t_6_1]; exact t_6_1), e_X7_ask, if_neg t_6_1]) (by rw [u_X7_ask, if_neg t_6_1, x_X7_ask, if_neg t_6_1])).outS mkX7_insist mw_X7_61 (ct_ex (s_X7_insist _ _ _) t_6_1) rfl (by decide) rfl (Nat.le_of_ble_eq_true rfl) (Nat.le_of_ble_eq_true rfl) (Nat.le_of_ble_eq_true rfl) dX7_ask_6

def r_X7_give (b : BD) (loan : Int32) : Int32 := (if (e_X7_insist (r_X7_judgeGive b loan)) = "" then (r_X0_giveBack b loan) else 0)

def u_X7_give (b : BD) (loan : Int32) : BD := (if (e_X7_insist (r_X7_judgeGive b loan)) = "" then (u_X0_giveBack b loan) else b)

def x_X7_give (X : GS) (b : BD) (loan : Int32) : GS := (if (e_X7_insist (r_X7_judgeGive b loan)) = "" then (x_X1_keep0 X b) else X)

def e_X7_give (b : BD) (loan : Int32) : String := (if (e_X7_insist (r_X7_judgeGive b loan)) = "" then "" else (e_X7_insist (r_X7_judgeGive b loan)))
set_option maxRecDepth 20000 in
theorem s_X7_give (X : GS) (b : BD) (loan : Int32) (hN : okI (X.2.1 0)) : Ct 7 1 6 yX7_give (.code yX7_give cX7_give 2 (some (.int))) [.ref 0, .int loan] (mkH (uB X 0 b)) (rT (e_X7_give b loan) (some (.int (r_X7_give b loan)))) (mkH (uB (x_X7_give X b loan) 0 (u_X7_give b loan))) := by
  refine Ct.of (LL := [some (.ref 0), some (.int loan)]) mkX7_give.1 owX7_give rfl (Nat.le_of_ble_eq_true rfl) rfl (fun Wk C => ?_)
  have K := C.core
  refine K.aload_n (q := 1) dX7_give_0 rfl rfl ?_
  refine K.iload_n (q := 2) dX7_give_1 rfl rfl ?_
  refine K.callV0 (q := 5) mkX7_judgeGive mw_X7_78 (s_X7_judgeGive _ _ _) rfl (by decide) rfl (lt141 (by decide)) rx0b (Nat.le_of_ble_eq_true rfl) (Nat.le_of_ble_eq_true rfl) (Nat.le_of_ble_eq_true rfl) dX7_give_2 rfl ?_
  by_cases t_5_1 : (e_X7_insist (r_X7_judgeGive b loan)) = ""
  · refine K.callSv (q := 8) mkX7_insist mw_X7_61 (ct_ok (s_X7_insist _ _ _) t_5_1) rfl (by decide) rfl (Nat.le_of_ble_eq_true rfl) (Nat.le_of_ble_eq_true rfl) (Nat.le_of_ble_eq_true rfl) dX7_give_5 rfl ?_
    refine K.aload_n (q := 9) dX7_give_8 rfl rfl ?_
    refine K.getf (q := 12) (v := .ref 34) fo_X7_25.r rx0b (lt141 (by decide)) rfl dX7_give_9 rfl ?_
    refine K.aload_n (q := 13) dX7_give_12 rfl rfl ?_
    refine K.getf (q := 16) (v := .ref 1) fo_X7_12.r rx0b (lt141 (by decide)) rfl dX7_give_13 rfl ?_
    refine K.callVv0 (q := 19) mkX1_keep mw_X7_65 (s_X1_keep0 _ _ (by first | exact hN | (simp only [n0_X7_refuse, n0_X7_judgeLend, n0_X7_judgeAsk, n0_X7_judgeGiveAll, n0_X7_judgeResize, n0_X7_judgeWay, n0_X7_judgeOrder]; exact hN))) rfl (by decide) rfl (lt141 (by decide)) rx34b (Nat.le_of_ble_eq_true rfl) (Nat.le_of_ble_eq_true rfl) (Nat.le_of_ble_eq_true rfl) dX7_give_16 rfl ?_
    refine K.aload_n (q := 20) dX7_give_19 rfl rfl ?_
    refine K.getf (q := 23) (v := .ref 1) fo_X7_12.r rx0b (lt141 (by decide)) rfl dX7_give_20 rfl ?_
    refine K.iload_n (q := 24) dX7_give_23 rfl rfl ?_
    refine K.callV0 (q := 27) mkX0_giveBack mw_X7_82 (s_X0_giveBack _ _ _) rfl (by decide) rfl (lt141 (by decide)) rb1 (Nat.le_of_ble_eq_true rfl) (Nat.le_of_ble_eq_true rfl) (Nat.le_of_ble_eq_true rfl) dX7_give_24 rfl ?_
    exact C.iret rfl rfl (by rw [rT, if_pos (by rw [e_X7_give, if_pos t_5_1]), r_X7_give, if_pos t_5_1]) (by rw [u_X7_give, if_pos t_5_1, x_X7_give, if_pos t_5_1]) (Nat.le_of_ble_eq_true rfl) (Nat.le_of_ble_eq_true rfl) dX7_give_27
  · exact (C.cast (by rw [rT, if_neg (by rw [e_X7_give, if_neg t_5_1]; exact t_5_1), e_X7_give, if_neg t_5_1]) (by rw [u_X7_give, if_neg t_5_1, x_X7_give, if_neg t_5_1])).outS mkX7_insist mw_X7_61 (ct_ex (s_X7_insist _ _ _) t_5_1) rfl (by decide) rfl (Nat.le_of_ble_eq_true rfl) (Nat.le_of_ble_eq_true rfl) (Nat.le_of_ble_eq_true rfl) dX7_give_5

def r_X7_giveAll (b : BD) (name : Int32) : Int32 := (if (e_X7_insist (r_X7_judgeGiveAll b name)) = "" then (r_X0_giveBackAll b name) else 0)

def u_X7_giveAll (b : BD) (name : Int32) : BD := (if (e_X7_insist (r_X7_judgeGiveAll b name)) = "" then (u_X0_giveBackAll b name) else b)

def x_X7_giveAll (X : GS) (b : BD) (name : Int32) : GS := (if (e_X7_insist (r_X7_judgeGiveAll b name)) = "" then (x_X1_keep0 (x_X7_judgeGiveAll X b name) b) else (x_X7_judgeGiveAll X b name))

def e_X7_giveAll (b : BD) (name : Int32) : String := (if (e_X7_insist (r_X7_judgeGiveAll b name)) = "" then "" else (e_X7_insist (r_X7_judgeGiveAll b name)))
set_option maxRecDepth 20000 in
theorem s_X7_giveAll (X : GS) (b : BD) (name : Int32) (hN : okI (X.2.1 0)) : Ct 7 1 6 yX7_giveAll (.code yX7_giveAll cX7_giveAll 2 (some (.int))) [.ref 0, .int name] (mkH (uB X 0 b)) (rT (e_X7_giveAll b name) (some (.int (r_X7_giveAll b name)))) (mkH (uB (x_X7_giveAll X b name) 0 (u_X7_giveAll b name))) := by
  refine Ct.of (LL := [some (.ref 0), some (.int name)]) mkX7_giveAll.1 owX7_giveAll rfl (Nat.le_of_ble_eq_true rfl) rfl (fun Wk C => ?_)
  have K := C.core
  refine K.aload_n (q := 1) dX7_giveAll_0 rfl rfl ?_
  refine K.iload_n (q := 2) dX7_giveAll_1 rfl rfl ?_
  refine K.callV0 (q := 5) mkX7_judgeGiveAll mw_X7_85 (s_X7_judgeGiveAll _ _ _) rfl (by decide) rfl (lt141 (by decide)) rx0b (Nat.le_of_ble_eq_true rfl) (Nat.le_of_ble_eq_true rfl) (Nat.le_of_ble_eq_true rfl) dX7_giveAll_2 rfl ?_
  by_cases t_5_1 : (e_X7_insist (r_X7_judgeGiveAll b name)) = ""
  · refine K.callSv (q := 8) mkX7_insist mw_X7_61 (ct_ok (s_X7_insist _ _ _) t_5_1) rfl (by decide) rfl (Nat.le_of_ble_eq_true rfl) (Nat.le_of_ble_eq_true rfl) (Nat.le_of_ble_eq_true rfl) dX7_giveAll_5 rfl ?_
    refine K.aload_n (q := 9) dX7_giveAll_8 rfl rfl ?_
    refine K.getf (q := 12) (v := .ref 34) fo_X7_25.r rx0b (lt141 (by decide)) rfl dX7_giveAll_9 rfl ?_
    refine K.aload_n (q := 13) dX7_giveAll_12 rfl rfl ?_
    refine K.getf (q := 16) (v := .ref 1) fo_X7_12.r rx0b (lt141 (by decide)) rfl dX7_giveAll_13 rfl ?_
    refine K.callVv0 (q := 19) mkX1_keep mw_X7_65 (s_X1_keep0 _ _ (by first | exact hN | (simp only [n0_X7_refuse, n0_X7_judgeLend, n0_X7_judgeAsk, n0_X7_judgeGiveAll, n0_X7_judgeResize, n0_X7_judgeWay, n0_X7_judgeOrder]; exact hN))) rfl (by decide) rfl (lt141 (by decide)) rx34b (Nat.le_of_ble_eq_true rfl) (Nat.le_of_ble_eq_true rfl) (Nat.le_of_ble_eq_true rfl) dX7_giveAll_16 rfl ?_
    refine K.aload_n (q := 20) dX7_giveAll_19 rfl rfl ?_
    refine K.getf (q := 23) (v := .ref 1) fo_X7_12.r rx0b (lt141 (by decide)) rfl dX7_giveAll_20 rfl ?_
    refine K.iload_n (q := 24) dX7_giveAll_23 rfl rfl ?_
    refine K.callV0 (q := 27) mkX0_giveBackAll mw_X7_88 (s_X0_giveBackAll _ _ _ (giveBackAll_ne _ _ _ _)) rfl (by decide) rfl (lt141 (by decide)) rb1 (Nat.le_of_ble_eq_true rfl) (Nat.le_of_ble_eq_true rfl) (Nat.le_of_ble_eq_true rfl) dX7_giveAll_24 rfl ?_
    exact C.iret rfl rfl (by rw [rT, if_pos (by rw [e_X7_giveAll, if_pos t_5_1]), r_X7_giveAll, if_pos t_5_1]) (by rw [u_X7_giveAll, if_pos t_5_1, x_X7_giveAll, if_pos t_5_1]) (Nat.le_of_ble_eq_true rfl) (Nat.le_of_ble_eq_true rfl) dX7_giveAll_27
  · exact (C.cast (by rw [rT, if_neg (by rw [e_X7_giveAll, if_neg t_5_1]; exact t_5_1), e_X7_giveAll, if_neg t_5_1]) (by rw [u_X7_giveAll, if_neg t_5_1, x_X7_giveAll, if_neg t_5_1])).outS mkX7_insist mw_X7_61 (ct_ex (s_X7_insist _ _ _) t_5_1) rfl (by decide) rfl (Nat.le_of_ble_eq_true rfl) (Nat.le_of_ble_eq_true rfl) (Nat.le_of_ble_eq_true rfl) dX7_giveAll_5

def r_X7_resize (b : BD) (loan : Int32) (amount : Int32) : Int32 := (if (e_X7_insist (r_X7_judgeResize b loan amount)) = "" then (r_X0_changeAmount b loan amount) else 0)

def u_X7_resize (b : BD) (loan : Int32) (amount : Int32) : BD := (if (e_X7_insist (r_X7_judgeResize b loan amount)) = "" then (u_X0_changeAmount b loan amount) else b)

def x_X7_resize (X : GS) (b : BD) (loan : Int32) (amount : Int32) : GS := (if (e_X7_insist (r_X7_judgeResize b loan amount)) = "" then (x_X1_keep0 (x_X7_judgeResize X b loan amount) b) else (x_X7_judgeResize X b loan amount))

def e_X7_resize (b : BD) (loan : Int32) (amount : Int32) : String := (if (e_X7_insist (r_X7_judgeResize b loan amount)) = "" then "" else (e_X7_insist (r_X7_judgeResize b loan amount)))
set_option maxRecDepth 20000 in
theorem s_X7_resize (X : GS) (b : BD) (loan : Int32) (amount : Int32) (hN : okI (X.2.1 0)) : Ct 7 1 6 yX7_resize (.code yX7_resize cX7_resize 3 (some (.int))) [.ref 0, .int loan, .int amount] (mkH (uB X 0 b)) (rT (e_X7_resize b loan amount) (some (.int (r_X7_resize b loan amount)))) (mkH (uB (x_X7_resize X b loan amount) 0 (u_X7_resize b loan amount))) := by
  refine Ct.of (LL := [some (.ref 0), some (.int loan), some (.int amount)]) mkX7_resize.1 owX7_resize rfl (Nat.le_of_ble_eq_true rfl) rfl (fun Wk C => ?_)
  have K := C.core
  refine K.aload_n (q := 1) dX7_resize_0 rfl rfl ?_
  refine K.iload_n (q := 2) dX7_resize_1 rfl rfl ?_
  refine K.iload_n (q := 3) dX7_resize_2 rfl rfl ?_
  refine K.callV0 (q := 6) mkX7_judgeResize mw_X7_91 (s_X7_judgeResize _ _ _ _) rfl (by decide) rfl (lt141 (by decide)) rx0b (Nat.le_of_ble_eq_true rfl) (Nat.le_of_ble_eq_true rfl) (Nat.le_of_ble_eq_true rfl) dX7_resize_3 rfl ?_
  by_cases t_6_1 : (e_X7_insist (r_X7_judgeResize b loan amount)) = ""
  · refine K.callSv (q := 9) mkX7_insist mw_X7_61 (ct_ok (s_X7_insist _ _ _) t_6_1) rfl (by decide) rfl (Nat.le_of_ble_eq_true rfl) (Nat.le_of_ble_eq_true rfl) (Nat.le_of_ble_eq_true rfl) dX7_resize_6 rfl ?_
    refine K.aload_n (q := 10) dX7_resize_9 rfl rfl ?_
    refine K.getf (q := 13) (v := .ref 34) fo_X7_25.r rx0b (lt141 (by decide)) rfl dX7_resize_10 rfl ?_
    refine K.aload_n (q := 14) dX7_resize_13 rfl rfl ?_
    refine K.getf (q := 17) (v := .ref 1) fo_X7_12.r rx0b (lt141 (by decide)) rfl dX7_resize_14 rfl ?_
    refine K.callVv0 (q := 20) mkX1_keep mw_X7_65 (s_X1_keep0 _ _ (by first | exact hN | (simp only [n0_X7_refuse, n0_X7_judgeLend, n0_X7_judgeAsk, n0_X7_judgeGiveAll, n0_X7_judgeResize, n0_X7_judgeWay, n0_X7_judgeOrder]; exact hN))) rfl (by decide) rfl (lt141 (by decide)) rx34b (Nat.le_of_ble_eq_true rfl) (Nat.le_of_ble_eq_true rfl) (Nat.le_of_ble_eq_true rfl) dX7_resize_17 rfl ?_
    refine K.aload_n (q := 21) dX7_resize_20 rfl rfl ?_
    refine K.getf (q := 24) (v := .ref 1) fo_X7_12.r rx0b (lt141 (by decide)) rfl dX7_resize_21 rfl ?_
    refine K.iload_n (q := 25) dX7_resize_24 rfl rfl ?_
    refine K.iload_n (q := 26) dX7_resize_25 rfl rfl ?_
    refine K.callV0 (q := 29) mkX0_changeAmount mw_X7_94 (s_X0_changeAmount _ _ _ _) rfl (by decide) rfl (lt141 (by decide)) rb1 (Nat.le_of_ble_eq_true rfl) (Nat.le_of_ble_eq_true rfl) (Nat.le_of_ble_eq_true rfl) dX7_resize_26 rfl ?_
    exact C.iret rfl rfl (by rw [rT, if_pos (by rw [e_X7_resize, if_pos t_6_1]), r_X7_resize, if_pos t_6_1]) (by rw [u_X7_resize, if_pos t_6_1, x_X7_resize, if_pos t_6_1]) (Nat.le_of_ble_eq_true rfl) (Nat.le_of_ble_eq_true rfl) dX7_resize_29
  · exact (C.cast (by rw [rT, if_neg (by rw [e_X7_resize, if_neg t_6_1]; exact t_6_1), e_X7_resize, if_neg t_6_1]) (by rw [u_X7_resize, if_neg t_6_1, x_X7_resize, if_neg t_6_1])).outS mkX7_insist mw_X7_61 (ct_ex (s_X7_insist _ _ _) t_6_1) rfl (by decide) rfl (Nat.le_of_ble_eq_true rfl) (Nat.le_of_ble_eq_true rfl) (Nat.le_of_ble_eq_true rfl) dX7_resize_6

def r_X7_way (b : BD) (way : Int32) : Int32 := (if (e_X7_insist (r_X7_judgeWay b way)) = "" then (r_X0_changeWay b) else 0)

def u_X7_way (b : BD) (way : Int32) : BD := (if (e_X7_insist (r_X7_judgeWay b way)) = "" then (u_X0_changeWay b way) else b)

def x_X7_way (X : GS) (b : BD) (way : Int32) : GS := (if (e_X7_insist (r_X7_judgeWay b way)) = "" then (x_X1_keep0 (x_X7_judgeWay X b way) b) else (x_X7_judgeWay X b way))

def e_X7_way (b : BD) (way : Int32) : String := (if (e_X7_insist (r_X7_judgeWay b way)) = "" then "" else (e_X7_insist (r_X7_judgeWay b way)))
set_option maxRecDepth 20000 in
theorem s_X7_way (X : GS) (b : BD) (way : Int32) (hN : okI (X.2.1 0)) : Ct 7 1 6 yX7_way (.code yX7_way cX7_way 2 (some (.int))) [.ref 0, .int way] (mkH (uB X 0 b)) (rT (e_X7_way b way) (some (.int (r_X7_way b way)))) (mkH (uB (x_X7_way X b way) 0 (u_X7_way b way))) := by
  refine Ct.of (LL := [some (.ref 0), some (.int way)]) mkX7_way.1 owX7_way rfl (Nat.le_of_ble_eq_true rfl) rfl (fun Wk C => ?_)
  have K := C.core
  refine K.aload_n (q := 1) dX7_way_0 rfl rfl ?_
  refine K.iload_n (q := 2) dX7_way_1 rfl rfl ?_
  refine K.callV0 (q := 5) mkX7_judgeWay mw_X7_97 (s_X7_judgeWay _ _ _) rfl (by decide) rfl (lt141 (by decide)) rx0b (Nat.le_of_ble_eq_true rfl) (Nat.le_of_ble_eq_true rfl) (Nat.le_of_ble_eq_true rfl) dX7_way_2 rfl ?_
  by_cases t_5_1 : (e_X7_insist (r_X7_judgeWay b way)) = ""
  · refine K.callSv (q := 8) mkX7_insist mw_X7_61 (ct_ok (s_X7_insist _ _ _) t_5_1) rfl (by decide) rfl (Nat.le_of_ble_eq_true rfl) (Nat.le_of_ble_eq_true rfl) (Nat.le_of_ble_eq_true rfl) dX7_way_5 rfl ?_
    refine K.aload_n (q := 9) dX7_way_8 rfl rfl ?_
    refine K.getf (q := 12) (v := .ref 34) fo_X7_25.r rx0b (lt141 (by decide)) rfl dX7_way_9 rfl ?_
    refine K.aload_n (q := 13) dX7_way_12 rfl rfl ?_
    refine K.getf (q := 16) (v := .ref 1) fo_X7_12.r rx0b (lt141 (by decide)) rfl dX7_way_13 rfl ?_
    refine K.callVv0 (q := 19) mkX1_keep mw_X7_65 (s_X1_keep0 _ _ (by first | exact hN | (simp only [n0_X7_refuse, n0_X7_judgeLend, n0_X7_judgeAsk, n0_X7_judgeGiveAll, n0_X7_judgeResize, n0_X7_judgeWay, n0_X7_judgeOrder]; exact hN))) rfl (by decide) rfl (lt141 (by decide)) rx34b (Nat.le_of_ble_eq_true rfl) (Nat.le_of_ble_eq_true rfl) (Nat.le_of_ble_eq_true rfl) dX7_way_16 rfl ?_
    refine K.aload_n (q := 20) dX7_way_19 rfl rfl ?_
    refine K.getf (q := 23) (v := .ref 1) fo_X7_12.r rx0b (lt141 (by decide)) rfl dX7_way_20 rfl ?_
    refine K.iload_n (q := 24) dX7_way_23 rfl rfl ?_
    refine K.callV0 (q := 27) mkX0_changeWay mw_X7_100 (s_X0_changeWay _ _ _) rfl (by decide) rfl (lt141 (by decide)) rb1 (Nat.le_of_ble_eq_true rfl) (Nat.le_of_ble_eq_true rfl) (Nat.le_of_ble_eq_true rfl) dX7_way_24 rfl ?_
    exact C.iret rfl rfl (by rw [rT, if_pos (by rw [e_X7_way, if_pos t_5_1]), r_X7_way, if_pos t_5_1]) (by rw [u_X7_way, if_pos t_5_1, x_X7_way, if_pos t_5_1]) (Nat.le_of_ble_eq_true rfl) (Nat.le_of_ble_eq_true rfl) dX7_way_27
  · exact (C.cast (by rw [rT, if_neg (by rw [e_X7_way, if_neg t_5_1]; exact t_5_1), e_X7_way, if_neg t_5_1]) (by rw [u_X7_way, if_neg t_5_1, x_X7_way, if_neg t_5_1])).outS mkX7_insist mw_X7_61 (ct_ex (s_X7_insist _ _ _) t_5_1) rfl (by decide) rfl (Nat.le_of_ble_eq_true rfl) (Nat.le_of_ble_eq_true rfl) (Nat.le_of_ble_eq_true rfl) dX7_way_5

def r_X7_forget (b : BD) (place : Int32) : Int32 := (if (r_X6_has b place) = 0 then 0 else ((u_X6_remove b place).1 4))

def u_X7_forget (b : BD) (place : Int32) : BD := (if (r_X6_has b place) = 0 then b else (u_X6_remove b place))

def x_X7_forget (X : GS) (b : BD) (place : Int32) : GS := (if (r_X6_has b place) = 0 then X else (x_X1_keep0 X b))

def e_X7_forget (b : BD) (place : Int32) : String := (if (r_X6_has b place) = 0 then "java/lang/IndexOutOfBoundsException" else "")
set_option maxRecDepth 20000 in
theorem s_X7_forget (X : GS) (b : BD) (place : Int32) (hN : okI (X.2.1 0)) : Ct 6 1 6 yX7_forget (.code yX7_forget cX7_forget 2 (some (.int))) [.ref 0, .int place] (mkH (uB X 0 b)) (rT (e_X7_forget b place) (some (.int (r_X7_forget b place)))) (mkH (uB (x_X7_forget X b place) 0 (u_X7_forget b place))) := by
  refine Ct.of (LL := [some (.ref 0), some (.int place)]) mkX7_forget.1 owX7_forget rfl (Nat.le_of_ble_eq_true rfl) rfl (fun Wk C => ?_)
  have K := C.core
  refine K.aload_n (q := 1) dX7_forget_0 rfl rfl ?_
  refine K.getf (q := 4) (v := .ref 1) fo_X7_12.r rx0b (lt141 (by decide)) rfl dX7_forget_1 rfl ?_
  refine K.getf (q := 7) (v := .ref 9) fo_X7_103 rb1 (lt141 (by decide)) rfl dX7_forget_4 rfl ?_
  refine K.iload_n (q := 8) dX7_forget_7 rfl rfl ?_
  refine K.callV0 (q := 11) mkX6_has mw_X7_107 (s_X6_has _ _ _) rfl (by decide) rfl (lt141 (by decide)) rb9 (Nat.le_of_ble_eq_true rfl) (Nat.le_of_ble_eq_true rfl) (Nat.le_of_ble_eq_true rfl) dX7_forget_8 rfl ?_
  refine K.if_ne (q := 14) (tgt := 24) dX7_forget_11 rfl (by decide) (fun c_11_1 => ?_) (fun c_11_1 => ?_)
  · refine K.aload_n (q := 25) dX7_forget_24 rfl rfl ?_
    refine K.getf (q := 28) (v := .ref 34) fo_X7_25.r rx0b (lt141 (by decide)) rfl dX7_forget_25 rfl ?_
    refine K.aload_n (q := 29) dX7_forget_28 rfl rfl ?_
    refine K.getf (q := 32) (v := .ref 1) fo_X7_12.r rx0b (lt141 (by decide)) rfl dX7_forget_29 rfl ?_
    refine K.callVv0 (q := 35) mkX1_keep mw_X7_65 (s_X1_keep0 _ _ (by first | exact hN | (simp only [n0_X7_refuse, n0_X7_judgeLend, n0_X7_judgeAsk, n0_X7_judgeGiveAll, n0_X7_judgeResize, n0_X7_judgeWay, n0_X7_judgeOrder]; exact hN))) rfl (by decide) rfl (lt141 (by decide)) rx34b (Nat.le_of_ble_eq_true rfl) (Nat.le_of_ble_eq_true rfl) (Nat.le_of_ble_eq_true rfl) dX7_forget_32 rfl ?_
    refine K.aload_n (q := 36) dX7_forget_35 rfl rfl ?_
    refine K.getf (q := 39) (v := .ref 1) fo_X7_12.r rx0b (lt141 (by decide)) rfl dX7_forget_36 rfl ?_
    refine K.getf (q := 42) (v := .ref 9) fo_X7_103 rb1 (lt141 (by decide)) rfl dX7_forget_39 rfl ?_
    refine K.iload_n (q := 43) dX7_forget_42 rfl rfl ?_
    refine K.callVv0 (q := 46) mkX6_remove mw_X7_120 (s_X6_remove _ _ _) rfl (by decide) rfl (lt141 (by decide)) rb9 (Nat.le_of_ble_eq_true rfl) (Nat.le_of_ble_eq_true rfl) (Nat.le_of_ble_eq_true rfl) dX7_forget_43 rfl ?_
    refine K.aload_n (q := 47) dX7_forget_46 rfl rfl ?_
    refine K.getf (q := 50) (v := .ref 1) fo_X7_12.r rx0b (lt141 (by decide)) rfl dX7_forget_47 rfl ?_
    refine K.getf (q := 53) (v := .ref 9) fo_X7_103 rb1 (lt141 (by decide)) rfl dX7_forget_50 rfl ?_
    refine K.getf (q := 56) (v := .int ((u_X6_remove b place).1 4)) fo_X7_123.r rb9 (lt141 (by decide)) rfl dX7_forget_53 rfl ?_
    exact C.iret rfl rfl (by rw [rT, if_pos (by rw [e_X7_forget, if_neg c_11_1]), r_X7_forget, if_neg c_11_1]) (by rw [u_X7_forget, if_neg c_11_1, x_X7_forget, if_neg c_11_1]) (Nat.le_of_ble_eq_true rfl) (Nat.le_of_ble_eq_true rfl) dX7_forget_56
  · exact (C.cast (by rw [rT, if_neg (by rw [e_X7_forget, if_pos c_11_1]; decide), e_X7_forget, if_pos c_11_1]) (by rw [u_X7_forget, if_pos c_11_1, x_X7_forget, if_pos c_11_1])).throwS (is := 115) (text := "nobody waits at this place") tok_IOOBE (by decide) rfl (by decide) (Nat.le_of_ble_eq_true rfl) (Nat.le_of_ble_eq_true rfl) (Nat.le_of_ble_eq_true rfl) dX7_forget_14 dX7_forget_17 dX7_forget_18 dX7_forget_20 dX7_forget_23

def r_X7_loanOf (b : BD) (loan : Int32) (what : Int32) : Int32 := (if (r_X3_has b loan) = 0 then 0 else (if what = 0 then (r_X3_nameAt b loan) else (if what = 1 then (r_X3_amountAt b loan) else (if what = 2 then (r_X3_startAt b loan) else (if what = 3 then (r_X3_sizeAt b loan) else (if what = 4 then ((r_X3_sizeAt b loan) - (r_X3_amountAt b loan)) else 0))))))

def e_X7_loanOf (b : BD) (loan : Int32) (what : Int32) : String := (if (r_X3_has b loan) = 0 then "java/lang/IndexOutOfBoundsException" else (if what = 0 then "" else (if what = 1 then "" else (if what = 2 then "" else (if what = 3 then "" else (if what = 4 then "" else "java/lang/IllegalArgumentException"))))))
set_option maxRecDepth 20000 in
theorem s_X7_loanOf (X : GS) (b : BD) (loan : Int32) (what : Int32) : Ct 6 1 6 yX7_loanOf (.code yX7_loanOf cX7_loanOf 4 (some (.int))) [.ref 0, .int loan, .int what] (mkH (uB X 0 b)) (rT (e_X7_loanOf b loan what) (some (.int (r_X7_loanOf b loan what)))) (mkH (uB X 0 b)) := by
  refine Ct.of (LL := [some (.ref 0), some (.int loan), some (.int what), none]) mkX7_loanOf.1 owX7_loanOf rfl (Nat.le_of_ble_eq_true rfl) rfl (fun Wk C => ?_)
  have K := C.core
  refine K.aload_n (q := 1) dX7_loanOf_0 rfl rfl ?_
  refine K.getf (q := 4) (v := .ref 1) fo_X7_12.r rx0b (lt141 (by decide)) rfl dX7_loanOf_1 rfl ?_
  refine K.getf (q := 7) (v := .ref 4) fo_X7_126 rb1 (lt141 (by decide)) rfl dX7_loanOf_4 rfl ?_
  refine K.astore_n (q := 8) (i := 3) dX7_loanOf_7 rfl rfl (by decide) rfl ?_
  refine K.aload_n (q := 9) dX7_loanOf_8 rfl rfl ?_
  refine K.iload_n (q := 10) dX7_loanOf_9 rfl rfl ?_
  refine K.callV0 (q := 13) mkX3_has mw_X7_130 (s_X3_has _ _ _) rfl (by decide) rfl (lt141 (by decide)) rb4 (Nat.le_of_ble_eq_true rfl) (Nat.le_of_ble_eq_true rfl) (Nat.le_of_ble_eq_true rfl) dX7_loanOf_10 rfl ?_
  refine K.if_ne (q := 16) (tgt := 26) dX7_loanOf_13 rfl (by decide) (fun c_13_1 => ?_) (fun c_13_1 => ?_)
  · refine K.iload_n (q := 27) dX7_loanOf_26 rfl rfl ?_
    by_cases c_27_2 : what = 0
    · refine K.tableIn (tgt := 60) dX7_loanOf_27 (by rw [c_27_2]; decide) (by rw [c_27_2]; decide) (by rw [c_27_2]; try rfl) (by decide) ?_
      refine K.aload_n (q := 61) dX7_loanOf_60 rfl rfl ?_
      refine K.iload_n (q := 62) dX7_loanOf_61 rfl rfl ?_
      refine K.callV0 (q := 65) mkX3_nameAt mw_X7_135 (s_X3_nameAt _ _ _) rfl (by decide) rfl (lt141 (by decide)) rb4 (Nat.le_of_ble_eq_true rfl) (Nat.le_of_ble_eq_true rfl) (Nat.le_of_ble_eq_true rfl) dX7_loanOf_62 rfl ?_
      exact C.iret rfl rfl (by rw [rT, if_pos (by rw [e_X7_loanOf, if_neg c_13_1, if_pos c_27_2]), r_X7_loanOf, if_neg c_13_1, if_pos c_27_2]) rfl (Nat.le_of_ble_eq_true rfl) (Nat.le_of_ble_eq_true rfl) dX7_loanOf_65
    · skip
      by_cases c_27_3 : what = 1
      · refine K.tableIn (tgt := 66) dX7_loanOf_27 (by rw [c_27_3]; decide) (by rw [c_27_3]; decide) (by rw [c_27_3]; try rfl) (by decide) ?_
        refine K.aload_n (q := 67) dX7_loanOf_66 rfl rfl ?_
        refine K.iload_n (q := 68) dX7_loanOf_67 rfl rfl ?_
        refine K.callV0 (q := 71) mkX3_amountAt mw_X7_138 (s_X3_amountAt _ _ _) rfl (by decide) rfl (lt141 (by decide)) rb4 (Nat.le_of_ble_eq_true rfl) (Nat.le_of_ble_eq_true rfl) (Nat.le_of_ble_eq_true rfl) dX7_loanOf_68 rfl ?_
        exact C.iret rfl rfl (by rw [rT, if_pos (by rw [e_X7_loanOf, if_neg c_13_1, if_neg c_27_2, if_pos c_27_3]), r_X7_loanOf, if_neg c_13_1, if_neg c_27_2, if_pos c_27_3]) rfl (Nat.le_of_ble_eq_true rfl) (Nat.le_of_ble_eq_true rfl) dX7_loanOf_71
      · skip
        by_cases c_27_4 : what = 2
        · refine K.tableIn (tgt := 72) dX7_loanOf_27 (by rw [c_27_4]; decide) (by rw [c_27_4]; decide) (by rw [c_27_4]; try rfl) (by decide) ?_
          refine K.aload_n (q := 73) dX7_loanOf_72 rfl rfl ?_
          refine K.iload_n (q := 74) dX7_loanOf_73 rfl rfl ?_
          refine K.callV0 (q := 77) mkX3_startAt mw_X7_141 (s_X3_startAt _ _ _) rfl (by decide) rfl (lt141 (by decide)) rb4 (Nat.le_of_ble_eq_true rfl) (Nat.le_of_ble_eq_true rfl) (Nat.le_of_ble_eq_true rfl) dX7_loanOf_74 rfl ?_
          exact C.iret rfl rfl (by rw [rT, if_pos (by rw [e_X7_loanOf, if_neg c_13_1, if_neg c_27_2, if_neg c_27_3, if_pos c_27_4]), r_X7_loanOf, if_neg c_13_1, if_neg c_27_2, if_neg c_27_3, if_pos c_27_4]) rfl (Nat.le_of_ble_eq_true rfl) (Nat.le_of_ble_eq_true rfl) dX7_loanOf_77
        · skip
          by_cases c_27_5 : what = 3
          · refine K.tableIn (tgt := 78) dX7_loanOf_27 (by rw [c_27_5]; decide) (by rw [c_27_5]; decide) (by rw [c_27_5]; try rfl) (by decide) ?_
            refine K.aload_n (q := 79) dX7_loanOf_78 rfl rfl ?_
            refine K.iload_n (q := 80) dX7_loanOf_79 rfl rfl ?_
            refine K.callV0 (q := 83) mkX3_sizeAt mw_X7_144 (s_X3_sizeAt _ _ _) rfl (by decide) rfl (lt141 (by decide)) rb4 (Nat.le_of_ble_eq_true rfl) (Nat.le_of_ble_eq_true rfl) (Nat.le_of_ble_eq_true rfl) dX7_loanOf_80 rfl ?_
            exact C.iret rfl rfl (by rw [rT, if_pos (by rw [e_X7_loanOf, if_neg c_13_1, if_neg c_27_2, if_neg c_27_3, if_neg c_27_4, if_pos c_27_5]), r_X7_loanOf, if_neg c_13_1, if_neg c_27_2, if_neg c_27_3, if_neg c_27_4, if_pos c_27_5]) rfl (Nat.le_of_ble_eq_true rfl) (Nat.le_of_ble_eq_true rfl) dX7_loanOf_83
          · skip
            by_cases c_27_6 : what = 4
            · refine K.tableIn (tgt := 84) dX7_loanOf_27 (by rw [c_27_6]; decide) (by rw [c_27_6]; decide) (by rw [c_27_6]; try rfl) (by decide) ?_
              refine K.aload_n (q := 85) dX7_loanOf_84 rfl rfl ?_
              refine K.iload_n (q := 86) dX7_loanOf_85 rfl rfl ?_
              refine K.callV0 (q := 89) mkX3_sizeAt mw_X7_144 (s_X3_sizeAt _ _ _) rfl (by decide) rfl (lt141 (by decide)) rb4 (Nat.le_of_ble_eq_true rfl) (Nat.le_of_ble_eq_true rfl) (Nat.le_of_ble_eq_true rfl) dX7_loanOf_86 rfl ?_
              refine K.aload_n (q := 90) dX7_loanOf_89 rfl rfl ?_
              refine K.iload_n (q := 91) dX7_loanOf_90 rfl rfl ?_
              refine K.callV0 (q := 94) mkX3_amountAt mw_X7_138 (s_X3_amountAt _ _ _) rfl (by decide) rfl (lt141 (by decide)) rb4 (Nat.le_of_ble_eq_true rfl) (Nat.le_of_ble_eq_true rfl) (Nat.le_of_ble_eq_true rfl) dX7_loanOf_91 rfl ?_
              refine K.isub (q := 95) dX7_loanOf_94 rfl ?_
              exact C.iret rfl rfl (by rw [rT, if_pos (by rw [e_X7_loanOf, if_neg c_13_1, if_neg c_27_2, if_neg c_27_3, if_neg c_27_4, if_neg c_27_5, if_pos c_27_6]), r_X7_loanOf, if_neg c_13_1, if_neg c_27_2, if_neg c_27_3, if_neg c_27_4, if_neg c_27_5, if_pos c_27_6]) rfl (Nat.le_of_ble_eq_true rfl) (Nat.le_of_ble_eq_true rfl) dX7_loanOf_95
            · skip
              refine K.tableOut (tgt := 96) dX7_loanOf_27 (by have e0 := lv_neT (k := 0) (a := 0) c_27_2 (by decide); have e1 := lv_neT (k := 1) (a := 1) c_27_3 (by decide); have e2 := lv_neT (k := 2) (a := 2) c_27_4 (by decide); have e3 := lv_neT (k := 3) (a := 3) c_27_5 (by decide); have e4 := lv_neT (k := 4) (a := 4) c_27_6 (by decide); omega) (by decide) ?_
              exact (C.cast (by rw [rT, if_neg (by rw [e_X7_loanOf, if_neg c_13_1, if_neg c_27_2, if_neg c_27_3, if_neg c_27_4, if_neg c_27_5, if_neg c_27_6]; decide), e_X7_loanOf, if_neg c_13_1, if_neg c_27_2, if_neg c_27_3, if_neg c_27_4, if_neg c_27_5, if_neg c_27_6]) rfl).throwS (is := 149) (text := "no such number of a loan") tok_IAE (by decide) rfl (by decide) (Nat.le_of_ble_eq_true rfl) (Nat.le_of_ble_eq_true rfl) (Nat.le_of_ble_eq_true rfl) dX7_loanOf_96 dX7_loanOf_99 dX7_loanOf_100 dX7_loanOf_102 dX7_loanOf_105
  · exact (C.cast (by rw [rT, if_neg (by rw [e_X7_loanOf, if_pos c_13_1]; decide), e_X7_loanOf, if_pos c_13_1]) rfl).throwS (is := 133) (text := "no such loan") tok_IOOBE (by decide) rfl (by decide) (Nat.le_of_ble_eq_true rfl) (Nat.le_of_ble_eq_true rfl) (Nat.le_of_ble_eq_true rfl) dX7_loanOf_16 dX7_loanOf_19 dX7_loanOf_20 dX7_loanOf_22 dX7_loanOf_25

def r_X7_nameOf (b : BD) (name : Int32) (what : Int32) : Int32 := (if (r_X7_isName name) = 0 then 0 else (if what = 0 then (r_X3_countOf b name) else (if what = 1 then (r_X3_amountsOf b name) else (if what = 2 then (r_X3_sizesOf b name) else (if what = 3 then (r_X6_countOf b name) else 0)))))

def e_X7_nameOf (name : Int32) (what : Int32) : String := (if (r_X7_isName name) = 0 then "java/lang/IllegalArgumentException" else (if what = 0 then "" else (if what = 1 then "" else (if what = 2 then "" else (if what = 3 then "" else "java/lang/IndexOutOfBoundsException")))))
def r_X7_waitingOf (b : BD) (place : Int32) (what : Int32) : Int32 := (if (r_X6_has b place) = 0 then 0 else (if what = 0 then (r_X6_nameAt b place) else (if what = 1 then (r_X6_amountAt b place) else 0)))

def e_X7_waitingOf (b : BD) (place : Int32) (what : Int32) : String := (if (r_X6_has b place) = 0 then nseN else (if what = 0 then "" else (if what = 1 then "" else "java/lang/IllegalArgumentException")))
set_option maxRecDepth 20000 in
theorem s_X7_waitingOf (X : GS) (b : BD) (place : Int32) (what : Int32) : Ct 6 1 6 yX7_waitingOf (.code yX7_waitingOf cX7_waitingOf 3 (some (.int))) [.ref 0, .int place, .int what] (mkH (uB X 0 b)) (rT (e_X7_waitingOf b place what) (some (.int (r_X7_waitingOf b place what)))) (mkH (uB X 0 b)) := by
  refine Ct.of (LL := [some (.ref 0), some (.int place), some (.int what)]) mkX7_waitingOf.1 owX7_waitingOf rfl (Nat.le_of_ble_eq_true rfl) rfl (fun Wk C => ?_)
  have K := C.core
  refine K.aload_n (q := 1) dX7_waitingOf_0 rfl rfl ?_
  refine K.getf (q := 4) (v := .ref 1) fo_X7_12.r rx0b (lt141 (by decide)) rfl dX7_waitingOf_1 rfl ?_
  refine K.getf (q := 7) (v := .ref 9) fo_X7_103 rb1 (lt141 (by decide)) rfl dX7_waitingOf_4 rfl ?_
  refine K.iload_n (q := 8) dX7_waitingOf_7 rfl rfl ?_
  refine K.callV0 (q := 11) mkX6_has mw_X7_107 (s_X6_has _ _ _) rfl (by decide) rfl (lt141 (by decide)) rb9 (Nat.le_of_ble_eq_true rfl) (Nat.le_of_ble_eq_true rfl) (Nat.le_of_ble_eq_true rfl) dX7_waitingOf_8 rfl ?_
  refine K.if_ne (q := 14) (tgt := 24) dX7_waitingOf_11 rfl (by decide) (fun c_11_1 => ?_) (fun c_11_1 => ?_)
  · refine K.iload_n (q := 25) dX7_waitingOf_24 rfl rfl ?_
    by_cases c_25_2 : what = 0
    · refine K.lookup (off := 27) (tgt := 52) dX7_waitingOf_25 (by decide) (by rw [c_25_2]; try rfl) (by decide) ?_
      refine K.aload_n (q := 53) dX7_waitingOf_52 rfl rfl ?_
      refine K.getf (q := 56) (v := .ref 1) fo_X7_12.r rx0b (lt141 (by decide)) rfl dX7_waitingOf_53 rfl ?_
      refine K.getf (q := 59) (v := .ref 9) fo_X7_103 rb1 (lt141 (by decide)) rfl dX7_waitingOf_56 rfl ?_
      refine K.iload_n (q := 60) dX7_waitingOf_59 rfl rfl ?_
      refine K.callV0 (q := 63) mkX6_nameAt mw_X7_172 (s_X6_nameAt _ _ _) rfl (by decide) rfl (lt141 (by decide)) rb9 (Nat.le_of_ble_eq_true rfl) (Nat.le_of_ble_eq_true rfl) (Nat.le_of_ble_eq_true rfl) dX7_waitingOf_60 rfl ?_
      exact C.iret rfl rfl (by rw [rT, if_pos (by rw [e_X7_waitingOf, if_neg c_11_1, if_pos c_25_2]), r_X7_waitingOf, if_neg c_11_1, if_pos c_25_2]) rfl (Nat.le_of_ble_eq_true rfl) (Nat.le_of_ble_eq_true rfl) dX7_waitingOf_63
    · skip
      by_cases c_25_3 : what = 1
      · refine K.lookup (off := 39) (tgt := 64) dX7_waitingOf_25 (by decide) (by rw [c_25_3]; try rfl) (by decide) ?_
        refine K.aload_n (q := 65) dX7_waitingOf_64 rfl rfl ?_
        refine K.getf (q := 68) (v := .ref 1) fo_X7_12.r rx0b (lt141 (by decide)) rfl dX7_waitingOf_65 rfl ?_
        refine K.getf (q := 71) (v := .ref 9) fo_X7_103 rb1 (lt141 (by decide)) rfl dX7_waitingOf_68 rfl ?_
        refine K.iload_n (q := 72) dX7_waitingOf_71 rfl rfl ?_
        refine K.callV0 (q := 75) mkX6_amountAt mw_X7_173 (s_X6_amountAt _ _ _) rfl (by decide) rfl (lt141 (by decide)) rb9 (Nat.le_of_ble_eq_true rfl) (Nat.le_of_ble_eq_true rfl) (Nat.le_of_ble_eq_true rfl) dX7_waitingOf_72 rfl ?_
        exact C.iret rfl rfl (by rw [rT, if_pos (by rw [e_X7_waitingOf, if_neg c_11_1, if_neg c_25_2, if_pos c_25_3]), r_X7_waitingOf, if_neg c_11_1, if_neg c_25_2, if_pos c_25_3]) rfl (Nat.le_of_ble_eq_true rfl) (Nat.le_of_ble_eq_true rfl) dX7_waitingOf_75
      · skip
        refine K.lookup (off := 51) (tgt := 76) dX7_waitingOf_25 (by decide) (by show Op.lookupswitch.offset [(0, 27), (1, 39)] 51 _ = 51; rw [lv_osw (a := 0) c_25_2 (by decide), lv_osw (a := 1) c_25_3 (by decide)]; try rfl) (by decide) ?_
        exact (C.cast (by rw [rT, if_neg (by rw [e_X7_waitingOf, if_neg c_11_1, if_neg c_25_2, if_neg c_25_3]; decide), e_X7_waitingOf, if_neg c_11_1, if_neg c_25_2, if_neg c_25_3]) rfl).throwS (is := 174) (text := "no such number of one who waits") tok_IAE (by decide) rfl (by decide) (Nat.le_of_ble_eq_true rfl) (Nat.le_of_ble_eq_true rfl) (Nat.le_of_ble_eq_true rfl) dX7_waitingOf_76 dX7_waitingOf_79 dX7_waitingOf_80 dX7_waitingOf_82 dX7_waitingOf_85
  · exact (C.cast (by rw [rT, if_neg (by rw [e_X7_waitingOf, if_pos c_11_1]; decide), e_X7_waitingOf, if_pos c_11_1]) rfl).throwN (is := 115) (ln := 2) (text := "nobody waits at this place") nok (by decide) rfl (by decide) (Nat.le_of_ble_eq_true rfl) (Nat.le_of_ble_eq_true rfl) (Nat.le_of_ble_eq_true rfl) dX7_waitingOf_14 dX7_waitingOf_17 (by first | exact Or.inl ⟨rfl, dX7_waitingOf_18⟩ | exact Or.inr ⟨rfl, dX7_waitingOf_18⟩) dX7_waitingOf_20 dX7_waitingOf_23

def r_X7_pieceOf (b : BD) (unit : Int32) (what : Int32) : Int32 := (if (r_X7_isUnit unit) = 0 then 0 else (if what = 0 then (r_X0_pieceSize b unit) else (if what = 1 then (r_X0_pieceStart b unit) else (if what = 2 then (r_X3_holderOf b unit) else (if what = 3 then (if (r_X0_pieceSize b unit) = 64 then (-1) else (r_X7_twinOf (r_X0_pieceStart b unit) (r_X0_pieceSize b unit))) else 0)))))

def e_X7_pieceOf (b : BD) (unit : Int32) (what : Int32) : String := (if (r_X7_isUnit unit) = 0 then "java/lang/IndexOutOfBoundsException" else (if what = 0 then "" else (if what = 1 then "" else (if what = 2 then "" else (if what = 3 then (if (r_X0_pieceSize b unit) = 64 then "" else "") else "java/lang/IllegalArgumentException")))))
set_option maxRecDepth 20000 in
theorem s_X7_pieceOf (X : GS) (b : BD) (unit : Int32) (what : Int32) : Ct 6 1 6 yX7_pieceOf (.code yX7_pieceOf cX7_pieceOf 6 (some (.int))) [.ref 0, .int unit, .int what] (mkH (uB X 0 b)) (rT (e_X7_pieceOf b unit what) (some (.int (r_X7_pieceOf b unit what)))) (mkH (uB X 0 b)) := by
  refine Ct.of (LL := [some (.ref 0), some (.int unit), some (.int what), none, none, none]) mkX7_pieceOf.1 owX7_pieceOf rfl (Nat.le_of_ble_eq_true rfl) rfl (fun Wk C => ?_)
  have K := C.core
  refine K.iload_n (q := 1) dX7_pieceOf_0 rfl rfl ?_
  refine K.callS0 (q := 4) mkX7_isUnit mw_X7_176 (s_X7_isUnit _ _) rfl (by decide) rfl (Nat.le_of_ble_eq_true rfl) (Nat.le_of_ble_eq_true rfl) (Nat.le_of_ble_eq_true rfl) dX7_pieceOf_1 rfl ?_
  refine K.if_ne (q := 7) (tgt := 17) dX7_pieceOf_4 rfl (by decide) (fun c_4_1 => ?_) (fun c_4_1 => ?_)
  · refine K.aload_n (q := 18) dX7_pieceOf_17 rfl rfl ?_
    refine K.getf (q := 21) (v := .ref 1) fo_X7_12.r rx0b (lt141 (by decide)) rfl dX7_pieceOf_18 rfl ?_
    refine K.getf (q := 24) (v := .ref 4) fo_X7_126 rb1 (lt141 (by decide)) rfl dX7_pieceOf_21 rfl ?_
    refine K.iload_n (q := 25) dX7_pieceOf_24 rfl rfl ?_
    refine K.callV0 (q := 28) mkX3_holderOf mw_X7_181 (s_X3_holderOf _ _ _) rfl (by decide) rfl (lt141 (by decide)) rb4 (Nat.le_of_ble_eq_true rfl) (Nat.le_of_ble_eq_true rfl) (Nat.le_of_ble_eq_true rfl) dX7_pieceOf_25 rfl ?_
    refine K.istore_n (q := 29) (i := 3) dX7_pieceOf_28 rfl rfl (by decide) rfl ?_
    refine K.aload_n (q := 30) dX7_pieceOf_29 rfl rfl ?_
    refine K.getf (q := 33) (v := .ref 1) fo_X7_12.r rx0b (lt141 (by decide)) rfl dX7_pieceOf_30 rfl ?_
    refine K.iload_n (q := 34) dX7_pieceOf_33 rfl rfl ?_
    refine K.callV0 (q := 37) mkX0_pieceStart mw_X7_184 (s_X0_pieceStart _ _ _) rfl (by decide) rfl (lt141 (by decide)) rb1 (Nat.le_of_ble_eq_true rfl) (Nat.le_of_ble_eq_true rfl) (Nat.le_of_ble_eq_true rfl) dX7_pieceOf_34 rfl ?_
    refine K.istore (q := 39) dX7_pieceOf_37 rfl (by decide) rfl ?_
    refine K.aload_n (q := 40) dX7_pieceOf_39 rfl rfl ?_
    refine K.getf (q := 43) (v := .ref 1) fo_X7_12.r rx0b (lt141 (by decide)) rfl dX7_pieceOf_40 rfl ?_
    refine K.iload_n (q := 44) dX7_pieceOf_43 rfl rfl ?_
    refine K.callV0 (q := 47) mkX0_pieceSize mw_X7_187 (s_X0_pieceSize _ _ _) rfl (by decide) rfl (lt141 (by decide)) rb1 (Nat.le_of_ble_eq_true rfl) (Nat.le_of_ble_eq_true rfl) (Nat.le_of_ble_eq_true rfl) dX7_pieceOf_44 rfl ?_
    refine K.istore (q := 49) dX7_pieceOf_47 rfl (by decide) rfl ?_
    refine K.iload_n (q := 50) dX7_pieceOf_49 rfl rfl ?_
    by_cases c_50_2 : what = 0
    · refine K.tableIn (tgt := 80) dX7_pieceOf_50 (by rw [c_50_2]; decide) (by rw [c_50_2]; decide) (by rw [c_50_2]; try rfl) (by decide) ?_
      refine K.iload (q := 82) dX7_pieceOf_80 rfl rfl ?_
      exact C.iret rfl rfl (by rw [rT, if_pos (by rw [e_X7_pieceOf, if_neg c_4_1, if_pos c_50_2]), r_X7_pieceOf, if_neg c_4_1, if_pos c_50_2]) rfl (Nat.le_of_ble_eq_true rfl) (Nat.le_of_ble_eq_true rfl) dX7_pieceOf_82
    · skip
      by_cases c_50_3 : what = 1
      · refine K.tableIn (tgt := 83) dX7_pieceOf_50 (by rw [c_50_3]; decide) (by rw [c_50_3]; decide) (by rw [c_50_3]; try rfl) (by decide) ?_
        refine K.iload (q := 85) dX7_pieceOf_83 rfl rfl ?_
        exact C.iret rfl rfl (by rw [rT, if_pos (by rw [e_X7_pieceOf, if_neg c_4_1, if_neg c_50_2, if_pos c_50_3]), r_X7_pieceOf, if_neg c_4_1, if_neg c_50_2, if_pos c_50_3]) rfl (Nat.le_of_ble_eq_true rfl) (Nat.le_of_ble_eq_true rfl) dX7_pieceOf_85
      · skip
        by_cases c_50_4 : what = 2
        · refine K.tableIn (tgt := 86) dX7_pieceOf_50 (by rw [c_50_4]; decide) (by rw [c_50_4]; decide) (by rw [c_50_4]; try rfl) (by decide) ?_
          refine K.iload_n (q := 87) dX7_pieceOf_86 rfl rfl ?_
          exact C.iret rfl rfl (by rw [rT, if_pos (by rw [e_X7_pieceOf, if_neg c_4_1, if_neg c_50_2, if_neg c_50_3, if_pos c_50_4]), r_X7_pieceOf, if_neg c_4_1, if_neg c_50_2, if_neg c_50_3, if_pos c_50_4]) rfl (Nat.le_of_ble_eq_true rfl) (Nat.le_of_ble_eq_true rfl) dX7_pieceOf_87
        · skip
          by_cases c_50_5 : what = 3
          · refine K.tableIn (tgt := 88) dX7_pieceOf_50 (by rw [c_50_5]; decide) (by rw [c_50_5]; decide) (by rw [c_50_5]; try rfl) (by decide) ?_
            refine K.iload (q := 90) dX7_pieceOf_88 rfl rfl ?_
            refine K.bipush (q := 92) (v := 64) dX7_pieceOf_90 rfl (by decide) ?_
            refine K.icmp_ne (q := 95) (tgt := 99) dX7_pieceOf_92 rfl (by decide) (fun c_92_6 => ?_) (fun c_92_6 => ?_)
            · refine K.iload (q := 101) dX7_pieceOf_99 rfl rfl ?_
              refine K.iload (q := 103) dX7_pieceOf_101 rfl rfl ?_
              refine K.callS0 (q := 106) mkX7_twinOf mw_X7_190 (s_X7_twinOf _ _ _) rfl (by decide) rfl (Nat.le_of_ble_eq_true rfl) (Nat.le_of_ble_eq_true rfl) (Nat.le_of_ble_eq_true rfl) dX7_pieceOf_103 rfl ?_
              exact C.iret rfl rfl (by rw [rT, if_pos (by rw [e_X7_pieceOf, if_neg c_4_1, if_neg c_50_2, if_neg c_50_3, if_neg c_50_4, if_pos c_50_5, if_neg c_92_6]), r_X7_pieceOf, if_neg c_4_1, if_neg c_50_2, if_neg c_50_3, if_neg c_50_4, if_pos c_50_5, if_neg c_92_6]) rfl (Nat.le_of_ble_eq_true rfl) (Nat.le_of_ble_eq_true rfl) dX7_pieceOf_106
            · refine K.iconst (q := 96) (v := (-1)) dX7_pieceOf_95 rfl (by decide) ?_
              refine K.goto (tgt := 106) dX7_pieceOf_96 (by decide) ?_
              exact C.iret rfl rfl (by rw [rT, if_pos (by rw [e_X7_pieceOf, if_neg c_4_1, if_neg c_50_2, if_neg c_50_3, if_neg c_50_4, if_pos c_50_5, if_pos c_92_6]), r_X7_pieceOf, if_neg c_4_1, if_neg c_50_2, if_neg c_50_3, if_neg c_50_4, if_pos c_50_5, if_pos c_92_6]) rfl (Nat.le_of_ble_eq_true rfl) (Nat.le_of_ble_eq_true rfl) dX7_pieceOf_106
          · skip
            refine K.tableOut (tgt := 107) dX7_pieceOf_50 (by have e0 := lv_neT (k := 0) (a := 0) c_50_2 (by decide); have e1 := lv_neT (k := 1) (a := 1) c_50_3 (by decide); have e2 := lv_neT (k := 2) (a := 2) c_50_4 (by decide); have e3 := lv_neT (k := 3) (a := 3) c_50_5 (by decide); omega) (by decide) ?_
            exact (C.cast (by rw [rT, if_neg (by rw [e_X7_pieceOf, if_neg c_4_1, if_neg c_50_2, if_neg c_50_3, if_neg c_50_4, if_neg c_50_5]; decide), e_X7_pieceOf, if_neg c_4_1, if_neg c_50_2, if_neg c_50_3, if_neg c_50_4, if_neg c_50_5]) rfl).throwS (is := 193) (text := "no such number of a piece") tok_IAE (by decide) rfl (by decide) (Nat.le_of_ble_eq_true rfl) (Nat.le_of_ble_eq_true rfl) (Nat.le_of_ble_eq_true rfl) dX7_pieceOf_107 dX7_pieceOf_110 dX7_pieceOf_111 dX7_pieceOf_113 dX7_pieceOf_116
  · exact (C.cast (by rw [rT, if_neg (by rw [e_X7_pieceOf, if_pos c_4_1]; decide), e_X7_pieceOf, if_pos c_4_1]) rfl).throwS (is := 179) (text := "no such unit") tok_IOOBE (by decide) rfl (by decide) (Nat.le_of_ble_eq_true rfl) (Nat.le_of_ble_eq_true rfl) (Nat.le_of_ble_eq_true rfl) dX7_pieceOf_7 dX7_pieceOf_10 dX7_pieceOf_11 dX7_pieceOf_13 dX7_pieceOf_16

def r_X7_free (b : BD) (size : Int32) (isAgain : Int32) : Int32 := (if (r_X7_isSize size) = 0 then 0 else (if isAgain = 0 then (r_X5_countOfSize b size) else (r_X0_countFreeParts b size)))

def e_X7_free (size : Int32) (isAgain : Int32) : String := (if (r_X7_isSize size) = 0 then "java/lang/IllegalArgumentException" else (if isAgain = 0 then "" else ""))
def r_X7_greatest (b : BD) : Int32 := (if (r_X5_greatestSize b) = 0 then 0 else (r_X5_greatestSize b))

def e_X7_greatest (b : BD) : String := (if (r_X5_greatestSize b) = 0 then nseN else "")
set_option maxRecDepth 20000 in
theorem s_X7_greatest (X : GS) (b : BD) : Ct 6 1 6 yX7_greatest (.code yX7_greatest cX7_greatest 2 (some (.int))) [.ref 0] (mkH (uB X 0 b)) (rT (e_X7_greatest b) (some (.int (r_X7_greatest b)))) (mkH (uB X 0 b)) := by
  refine Ct.of (LL := [some (.ref 0), none]) mkX7_greatest.1 owX7_greatest rfl (Nat.le_of_ble_eq_true rfl) rfl (fun Wk C => ?_)
  have K := C.core
  refine K.aload_n (q := 1) dX7_greatest_0 rfl rfl ?_
  refine K.getf (q := 4) (v := .ref 1) fo_X7_12.r rx0b (lt141 (by decide)) rfl dX7_greatest_1 rfl ?_
  refine K.getf (q := 7) (v := .ref 2) fo_X7_203 rb1 (lt141 (by decide)) rfl dX7_greatest_4 rfl ?_
  refine K.callV0 (q := 10) mkX5_greatestSize mw_X7_212 (s_X5_greatestSize _ _) rfl (by decide) rfl (lt141 (by decide)) rb2 (Nat.le_of_ble_eq_true rfl) (Nat.le_of_ble_eq_true rfl) (Nat.le_of_ble_eq_true rfl) dX7_greatest_7 rfl ?_
  refine K.istore_n (q := 11) (i := 1) dX7_greatest_10 rfl rfl (by decide) rfl ?_
  refine K.iload_n (q := 12) dX7_greatest_11 rfl rfl ?_
  refine K.if_ne (q := 15) (tgt := 25) dX7_greatest_12 rfl (by decide) (fun c_12_1 => ?_) (fun c_12_1 => ?_)
  · refine K.iload_n (q := 26) dX7_greatest_25 rfl rfl ?_
    exact C.iret rfl rfl (by rw [rT, if_pos (by rw [e_X7_greatest, if_neg c_12_1]), r_X7_greatest, if_neg c_12_1]) rfl (Nat.le_of_ble_eq_true rfl) (Nat.le_of_ble_eq_true rfl) dX7_greatest_26
  · exact (C.cast (by rw [rT, if_neg (by rw [e_X7_greatest, if_pos c_12_1]; decide), e_X7_greatest, if_pos c_12_1]) rfl).throwN (is := 216) (ln := 2) (text := "nothing is free") nok (by decide) rfl (by decide) (Nat.le_of_ble_eq_true rfl) (Nat.le_of_ble_eq_true rfl) (Nat.le_of_ble_eq_true rfl) dX7_greatest_15 dX7_greatest_18 (by first | exact Or.inl ⟨rfl, dX7_greatest_19⟩ | exact Or.inr ⟨rfl, dX7_greatest_19⟩) dX7_greatest_21 dX7_greatest_24

def r_X7_would (b : BD) (amount : Int32) : Int32 := (if (e_X7_insistOnNeed amount) = "" then (if (e_X7_insistOnPiece b (r_X7_insistOnNeed amount)) = "" then (if (r_X5_isUpperTaken b) = 0 then (r_X7_insistOnPiece b (r_X7_insistOnNeed amount)) else (((r_X7_insistOnPiece b (r_X7_insistOnNeed amount)) + (r_X5_sizeAt b (r_X7_insistOnPiece b (r_X7_insistOnNeed amount)))) - (r_X7_insistOnNeed amount))) else 0) else 0)

def e_X7_would (b : BD) (amount : Int32) : String := (if (e_X7_insistOnNeed amount) = "" then (if (e_X7_insistOnPiece b (r_X7_insistOnNeed amount)) = "" then (if (r_X5_isUpperTaken b) = 0 then "" else "") else (e_X7_insistOnPiece b (r_X7_insistOnNeed amount))) else (e_X7_insistOnNeed amount))
set_option maxRecDepth 20000 in
theorem s_X7_would (X : GS) (b : BD) (amount : Int32) : Ct 7 2 12 yX7_would (.code yX7_would cX7_would 4 (some (.int))) [.ref 0, .int amount] (mkH (uB X 0 b)) (rT (e_X7_would b amount) (some (.int (r_X7_would b amount)))) (mkH (uB X 0 b)) := by
  refine Ct.of (LL := [some (.ref 0), some (.int amount), none, none]) mkX7_would.1 owX7_would rfl (Nat.le_of_ble_eq_true rfl) rfl (fun Wk C => ?_)
  have K := C.core
  refine K.iload_n (q := 1) dX7_would_0 rfl rfl ?_
  by_cases t_1_1 : (e_X7_insistOnNeed amount) = ""
  · refine K.callS (q := 4) mkX7_insistOnNeed mw_X7_218 (ct_ok (s_X7_insistOnNeed _ _ _) t_1_1) rfl (by decide) rfl (Nat.le_of_ble_eq_true rfl) (Nat.le_of_ble_eq_true rfl) (Nat.le_of_ble_eq_true rfl) dX7_would_1 rfl ?_
    refine K.istore_n (q := 5) (i := 2) dX7_would_4 rfl rfl (by decide) rfl ?_
    refine K.aload_n (q := 6) dX7_would_5 rfl rfl ?_
    refine K.iload_n (q := 7) dX7_would_6 rfl rfl ?_
    by_cases t_7_2 : (e_X7_insistOnPiece b (r_X7_insistOnNeed amount)) = ""
    · refine K.callV (q := 10) mkX7_insistOnPiece mw_X7_221 (ct_ok (s_X7_insistOnPiece _ _ _) t_7_2) rfl (by decide) rfl (lt141 (by decide)) rx0b (Nat.le_of_ble_eq_true rfl) (Nat.le_of_ble_eq_true rfl) (Nat.le_of_ble_eq_true rfl) dX7_would_7 rfl ?_
      refine K.istore_n (q := 11) (i := 3) dX7_would_10 rfl rfl (by decide) rfl ?_
      refine K.aload_n (q := 12) dX7_would_11 rfl rfl ?_
      refine K.getf (q := 15) (v := .ref 1) fo_X7_12.r rx0b (lt141 (by decide)) rfl dX7_would_12 rfl ?_
      refine K.getf (q := 18) (v := .ref 2) fo_X7_203 rb1 (lt141 (by decide)) rfl dX7_would_15 rfl ?_
      refine K.callV0 (q := 21) mkX5_isUpperTaken mw_X7_224 (s_X5_isUpperTaken _ _) rfl (by decide) rfl (lt141 (by decide)) rb2 (Nat.le_of_ble_eq_true rfl) (Nat.le_of_ble_eq_true rfl) (Nat.le_of_ble_eq_true rfl) dX7_would_18 rfl ?_
      refine K.if_eq (q := 24) (tgt := 40) dX7_would_21 rfl (by decide) (fun c_21_3 => ?_) (fun c_21_3 => ?_)
      · refine K.iload_n (q := 41) dX7_would_40 rfl rfl ?_
        exact C.iret rfl rfl (by rw [rT, if_pos (by rw [e_X7_would, if_pos t_1_1, if_pos t_7_2, if_pos c_21_3]), r_X7_would, if_pos t_1_1, if_pos t_7_2, if_pos c_21_3]) rfl (Nat.le_of_ble_eq_true rfl) (Nat.le_of_ble_eq_true rfl) dX7_would_41
      · refine K.iload_n (q := 25) dX7_would_24 rfl rfl ?_
        refine K.aload_n (q := 26) dX7_would_25 rfl rfl ?_
        refine K.getf (q := 29) (v := .ref 1) fo_X7_12.r rx0b (lt141 (by decide)) rfl dX7_would_26 rfl ?_
        refine K.getf (q := 32) (v := .ref 2) fo_X7_203 rb1 (lt141 (by decide)) rfl dX7_would_29 rfl ?_
        refine K.iload_n (q := 33) dX7_would_32 rfl rfl ?_
        refine K.callV0 (q := 36) mkX5_sizeAt mw_X7_228 (s_X5_sizeAt _ _ _) rfl (by decide) rfl (lt141 (by decide)) rb2 (Nat.le_of_ble_eq_true rfl) (Nat.le_of_ble_eq_true rfl) (Nat.le_of_ble_eq_true rfl) dX7_would_33 rfl ?_
        refine K.iadd (q := 37) dX7_would_36 rfl ?_
        refine K.iload_n (q := 38) dX7_would_37 rfl rfl ?_
        refine K.isub (q := 39) dX7_would_38 rfl ?_
        exact C.iret rfl rfl (by rw [rT, if_pos (by rw [e_X7_would, if_pos t_1_1, if_pos t_7_2, if_neg c_21_3]), r_X7_would, if_pos t_1_1, if_pos t_7_2, if_neg c_21_3]) rfl (Nat.le_of_ble_eq_true rfl) (Nat.le_of_ble_eq_true rfl) dX7_would_39
    · exact (C.cast (by rw [rT, if_neg (by rw [e_X7_would, if_pos t_1_1, if_neg t_7_2]; exact t_7_2), e_X7_would, if_pos t_1_1, if_neg t_7_2]) rfl).outV mkX7_insistOnPiece mw_X7_221 (ct_ex (s_X7_insistOnPiece _ _ _) t_7_2) rfl (by decide) rfl (lt141 (by decide)) rx0b (Nat.le_of_ble_eq_true rfl) (Nat.le_of_ble_eq_true rfl) (Nat.le_of_ble_eq_true rfl) dX7_would_7
  · exact (C.cast (by rw [rT, if_neg (by rw [e_X7_would, if_neg t_1_1]; exact t_1_1), e_X7_would, if_neg t_1_1]) rfl).outS mkX7_insistOnNeed mw_X7_218 (ct_ex (s_X7_insistOnNeed _ _ _) t_1_1) rfl (by decide) rfl (Nat.le_of_ble_eq_true rfl) (Nat.le_of_ble_eq_true rfl) (Nat.le_of_ble_eq_true rfl) dX7_would_1

def r_X7_fits (b : BD) (amount : Int32) : Int32 := (if (e_X7_insistOnNeed amount) = "" then (r_X5_countRoomFor b (r_X7_insistOnNeed amount)) else 0)

def e_X7_fits (amount : Int32) : String := (if (e_X7_insistOnNeed amount) = "" then "" else (e_X7_insistOnNeed amount))
set_option maxRecDepth 20000 in
theorem s_X7_fits (X : GS) (b : BD) (amount : Int32) : Ct 7 1 6 yX7_fits (.code yX7_fits cX7_fits 2 (some (.int))) [.ref 0, .int amount] (mkH (uB X 0 b)) (rT (e_X7_fits amount) (some (.int (r_X7_fits b amount)))) (mkH (uB X 0 b)) := by
  refine Ct.of (LL := [some (.ref 0), some (.int amount)]) mkX7_fits.1 owX7_fits rfl (Nat.le_of_ble_eq_true rfl) rfl (fun Wk C => ?_)
  have K := C.core
  refine K.aload_n (q := 1) dX7_fits_0 rfl rfl ?_
  refine K.getf (q := 4) (v := .ref 1) fo_X7_12.r rx0b (lt141 (by decide)) rfl dX7_fits_1 rfl ?_
  refine K.getf (q := 7) (v := .ref 2) fo_X7_203 rb1 (lt141 (by decide)) rfl dX7_fits_4 rfl ?_
  refine K.iload_n (q := 8) dX7_fits_7 rfl rfl ?_
  by_cases t_8_1 : (e_X7_insistOnNeed amount) = ""
  · refine K.callS (q := 11) mkX7_insistOnNeed mw_X7_218 (ct_ok (s_X7_insistOnNeed _ _ _) t_8_1) rfl (by decide) rfl (Nat.le_of_ble_eq_true rfl) (Nat.le_of_ble_eq_true rfl) (Nat.le_of_ble_eq_true rfl) dX7_fits_8 rfl ?_
    refine K.callV0 (q := 14) mkX5_countRoomFor mw_X7_229 (s_X5_countRoomFor _ _ _) rfl (by decide) rfl (lt141 (by decide)) rb2 (Nat.le_of_ble_eq_true rfl) (Nat.le_of_ble_eq_true rfl) (Nat.le_of_ble_eq_true rfl) dX7_fits_11 rfl ?_
    exact C.iret rfl rfl (by rw [rT, if_pos (by rw [e_X7_fits, if_pos t_8_1]), r_X7_fits, if_pos t_8_1]) rfl (Nat.le_of_ble_eq_true rfl) (Nat.le_of_ble_eq_true rfl) dX7_fits_14
  · exact (C.cast (by rw [rT, if_neg (by rw [e_X7_fits, if_neg t_8_1]; exact t_8_1), e_X7_fits, if_neg t_8_1]) rfl).outS mkX7_insistOnNeed mw_X7_218 (ct_ex (s_X7_insistOnNeed _ _ _) t_8_1) rfl (by decide) rfl (Nat.le_of_ble_eq_true rfl) (Nat.le_of_ble_eq_true rfl) (Nat.le_of_ble_eq_true rfl) dX7_fits_8

def r_X7_hole (b : BD) (place : Int32) : Int32 := (if 0 ≤ (r_X5_startOfPlace b place) then (r_X5_startOfPlace b place) else 0)

def e_X7_hole (b : BD) (place : Int32) : String := (if 0 ≤ (r_X5_startOfPlace b place) then "" else nseN)
def r_X7_inTheWay (b : BD) (amount : Int32) : Int32 := (if (e_X7_insistOnNeed amount) = "" then (r_X3_fewestInPart b (r_X7_insistOnNeed amount)) else 0)

def e_X7_inTheWay (amount : Int32) : String := (if (e_X7_insistOnNeed amount) = "" then "" else (e_X7_insistOnNeed amount))
set_option maxRecDepth 20000 in
theorem s_X7_inTheWay (X : GS) (b : BD) (amount : Int32) : Ct 7 1 6 yX7_inTheWay (.code yX7_inTheWay cX7_inTheWay 2 (some (.int))) [.ref 0, .int amount] (mkH (uB X 0 b)) (rT (e_X7_inTheWay amount) (some (.int (r_X7_inTheWay b amount)))) (mkH (uB X 0 b)) := by
  refine Ct.of (LL := [some (.ref 0), some (.int amount)]) mkX7_inTheWay.1 owX7_inTheWay rfl (Nat.le_of_ble_eq_true rfl) rfl (fun Wk C => ?_)
  have K := C.core
  refine K.aload_n (q := 1) dX7_inTheWay_0 rfl rfl ?_
  refine K.getf (q := 4) (v := .ref 1) fo_X7_12.r rx0b (lt141 (by decide)) rfl dX7_inTheWay_1 rfl ?_
  refine K.getf (q := 7) (v := .ref 4) fo_X7_126 rb1 (lt141 (by decide)) rfl dX7_inTheWay_4 rfl ?_
  refine K.iload_n (q := 8) dX7_inTheWay_7 rfl rfl ?_
  by_cases t_8_1 : (e_X7_insistOnNeed amount) = ""
  · refine K.callS (q := 11) mkX7_insistOnNeed mw_X7_218 (ct_ok (s_X7_insistOnNeed _ _ _) t_8_1) rfl (by decide) rfl (Nat.le_of_ble_eq_true rfl) (Nat.le_of_ble_eq_true rfl) (Nat.le_of_ble_eq_true rfl) dX7_inTheWay_8 rfl ?_
    refine K.callV0 (q := 14) mkX3_fewestInPart mw_X7_237 (s_X3_fewestInPart _ _ _ (fewest_ne _ _ _)) rfl (by decide) rfl (lt141 (by decide)) rb4 (Nat.le_of_ble_eq_true rfl) (Nat.le_of_ble_eq_true rfl) (Nat.le_of_ble_eq_true rfl) dX7_inTheWay_11 rfl ?_
    exact C.iret rfl rfl (by rw [rT, if_pos (by rw [e_X7_inTheWay, if_pos t_8_1]), r_X7_inTheWay, if_pos t_8_1]) rfl (Nat.le_of_ble_eq_true rfl) (Nat.le_of_ble_eq_true rfl) dX7_inTheWay_14
  · exact (C.cast (by rw [rT, if_neg (by rw [e_X7_inTheWay, if_neg t_8_1]; exact t_8_1), e_X7_inTheWay, if_neg t_8_1]) rfl).outS mkX7_insistOnNeed mw_X7_218 (ct_ex (s_X7_insistOnNeed _ _ _) t_8_1) rfl (by decide) rfl (Nat.le_of_ble_eq_true rfl) (Nat.le_of_ble_eq_true rfl) (Nat.le_of_ble_eq_true rfl) dX7_inTheWay_8

def r_X7_ranked (b : BD) (place : Int32) : Int32 := (if 0 ≤ (r_X3_nameOfRank b place) then (r_X3_nameOfRank b place) else 0)

def e_X7_ranked (b : BD) (place : Int32) : String := (if 0 ≤ (r_X3_nameOfRank b place) then "" else nseN)
set_option maxRecDepth 20000 in
theorem s_X7_ranked (X : GS) (b : BD) (place : Int32) : Ct 6 1 6 yX7_ranked (.code yX7_ranked cX7_ranked 3 (some (.int))) [.ref 0, .int place] (mkH (uB X 0 b)) (rT (e_X7_ranked b place) (some (.int (r_X7_ranked b place)))) (mkH (uB X 0 b)) := by
  refine Ct.of (LL := [some (.ref 0), some (.int place), none]) mkX7_ranked.1 owX7_ranked rfl (Nat.le_of_ble_eq_true rfl) rfl (fun Wk C => ?_)
  have K := C.core
  refine K.aload_n (q := 1) dX7_ranked_0 rfl rfl ?_
  refine K.getf (q := 4) (v := .ref 1) fo_X7_12.r rx0b (lt141 (by decide)) rfl dX7_ranked_1 rfl ?_
  refine K.getf (q := 7) (v := .ref 4) fo_X7_126 rb1 (lt141 (by decide)) rfl dX7_ranked_4 rfl ?_
  refine K.iload_n (q := 8) dX7_ranked_7 rfl rfl ?_
  refine K.callV0 (q := 11) mkX3_nameOfRank mw_X7_240 (s_X3_nameOfRank _ _ _) rfl (by decide) rfl (lt141 (by decide)) rb4 (Nat.le_of_ble_eq_true rfl) (Nat.le_of_ble_eq_true rfl) (Nat.le_of_ble_eq_true rfl) dX7_ranked_8 rfl ?_
  refine K.istore_n (q := 12) (i := 2) dX7_ranked_11 rfl rfl (by decide) rfl ?_
  refine K.iload_n (q := 13) dX7_ranked_12 rfl rfl ?_
  refine K.if_ge (q := 16) (tgt := 26) dX7_ranked_13 rfl (by decide) (fun c_13_1 => ?_) (fun c_13_1 => ?_)
  · refine K.iload_n (q := 27) dX7_ranked_26 rfl rfl ?_
    exact C.iret rfl rfl (by rw [rT, if_pos (by rw [e_X7_ranked, if_pos c_13_1]), r_X7_ranked, if_pos c_13_1]) rfl (Nat.le_of_ble_eq_true rfl) (Nat.le_of_ble_eq_true rfl) dX7_ranked_27
  · exact (C.cast (by rw [rT, if_neg (by rw [e_X7_ranked, if_neg c_13_1]; decide), e_X7_ranked, if_neg c_13_1]) rfl).throwN (is := 155) (ln := 2) (text := "no such name") nok (by decide) rfl (by decide) (Nat.le_of_ble_eq_true rfl) (Nat.le_of_ble_eq_true rfl) (Nat.le_of_ble_eq_true rfl) dX7_ranked_16 dX7_ranked_19 (by first | exact Or.inl ⟨rfl, dX7_ranked_20⟩ | exact Or.inr ⟨rfl, dX7_ranked_20⟩) dX7_ranked_22 dX7_ranked_25

def r_X7_line (X : GS) (b : BD) : Int32 := ((x_X0_writePieces X b).2.1 2)

def x_X7_line (X : GS) (b : BD) : GS := (x_X0_writePieces X b)
set_option maxRecDepth 20000 in
theorem s_X7_line (X : GS) (b : BD) : Ct 7 0 0 yX7_line (.code yX7_line cX7_line 1 (some (.int))) [.ref 0] (mkH (uB X 0 b)) (.inl (some (.int (r_X7_line X b)))) (mkH (uB (x_X7_line X b) 0 b)) := by
  refine Ct.of (LL := [some (.ref 0)]) mkX7_line.1 owX7_line rfl (Nat.le_of_ble_eq_true rfl) rfl (fun Wk C => ?_)
  have K := C.core
  refine K.aload_n (q := 1) dX7_line_0 rfl rfl ?_
  refine K.getf (q := 4) (v := .ref 1) fo_X7_12.r rx0b (lt141 (by decide)) rfl dX7_line_1 rfl ?_
  refine K.aload_n (q := 5) dX7_line_4 rfl rfl ?_
  refine K.getf (q := 8) (v := .ref 124) fo_X7_32.r rx0b (lt141 (by decide)) rfl dX7_line_5 rfl ?_
  refine K.callVv0 (q := 11) mkX0_writePieces mw_X7_243 (s_X0_writePieces _ _) rfl (by decide) rfl (lt141 (by decide)) rb1 (Nat.le_of_ble_eq_true rfl) (Nat.le_of_ble_eq_true rfl) (Nat.le_of_ble_eq_true rfl) dX7_line_8 rfl ?_
  refine K.aload_n (q := 12) dX7_line_11 rfl rfl ?_
  refine K.getf (q := 15) (v := .ref 124) fo_X7_32.r rx0b (lt141 (by decide)) rfl dX7_line_12 rfl ?_
  refine K.getf (q := 18) (v := .int ((x_X0_writePieces X b).2.1 2)) fo_X7_247.r rx124b (lt141 (by decide)) rfl dX7_line_15 rfl ?_
  exact C.iret rfl rfl (by rw [r_X7_line]) (by rw [x_X7_line]) (Nat.le_of_ble_eq_true rfl) (Nat.le_of_ble_eq_true rfl) dX7_line_18

def r_X7_map (X : GS) (b : BD) : Int32 := ((x_X0_writeUnits X b).2.1 2)

def x_X7_map (X : GS) (b : BD) : GS := (x_X0_writeUnits X b)
def r_X7_append (X : GS) (c : Int32) : Int32 := (if (r_X4_isFull X) = 0 then ((x_X4_addSign X c).2.1 4) else 0)

def x_X7_append (X : GS) (c : Int32) : GS := (if (r_X4_isFull X) = 0 then (x_X4_addSign X c) else X)

def e_X7_append (X : GS) : String := (if (r_X4_isFull X) = 0 then "" else "java/lang/IllegalStateException")
set_option maxRecDepth 20000 in
theorem s_X7_append (X : GS) (b : BD) (c : Int32) : Ct 6 1 6 yX7_append (.code yX7_append cX7_append 2 (some (.int))) [.ref 0, .int c] (mkH (uB X 0 b)) (rT (e_X7_append X) (some (.int (r_X7_append X c)))) (mkH (uB (x_X7_append X c) 0 b)) := by
  refine Ct.of (LL := [some (.ref 0), some (.int c)]) mkX7_append.1 owX7_append rfl (Nat.le_of_ble_eq_true rfl) rfl (fun Wk C => ?_)
  have K := C.core
  refine K.aload_n (q := 1) dX7_append_0 rfl rfl ?_
  refine K.getf (q := 4) (v := .ref 126) fo_X7_39.r rx0b (lt141 (by decide)) rfl dX7_append_1 rfl ?_
  refine K.callV0 (q := 7) mkX4_isFull mw_X7_260 (s_X4_isFull _ _) rfl (by decide) rfl (lt141 (by decide)) rx126b (Nat.le_of_ble_eq_true rfl) (Nat.le_of_ble_eq_true rfl) (Nat.le_of_ble_eq_true rfl) dX7_append_4 rfl ?_
  refine K.if_eq (q := 10) (tgt := 21) dX7_append_7 rfl (by decide) (fun c_7_1 => ?_) (fun c_7_1 => ?_)
  · refine K.aload_n (q := 22) dX7_append_21 rfl rfl ?_
    refine K.getf (q := 25) (v := .ref 126) fo_X7_39.r rx0b (lt141 (by decide)) rfl dX7_append_22 rfl ?_
    refine K.iload_n (q := 26) dX7_append_25 rfl rfl ?_
    refine K.callVv0 (q := 29) mkX4_addSign mw_X7_268 (s_X4_addSign _ _ _) rfl (by decide) rfl (lt141 (by decide)) rx126b (Nat.le_of_ble_eq_true rfl) (Nat.le_of_ble_eq_true rfl) (Nat.le_of_ble_eq_true rfl) dX7_append_26 rfl ?_
    refine K.aload_n (q := 30) dX7_append_29 rfl rfl ?_
    refine K.getf (q := 33) (v := .ref 126) fo_X7_39.r rx0b (lt141 (by decide)) rfl dX7_append_30 rfl ?_
    refine K.getf (q := 36) (v := .int ((x_X4_addSign X c).2.1 4)) fo_X7_272.r rx126b (lt141 (by decide)) rfl dX7_append_33 rfl ?_
    exact C.iret rfl rfl (by rw [rT, if_pos (by rw [e_X7_append, if_pos c_7_1]), r_X7_append, if_pos c_7_1]) (by rw [x_X7_append, if_pos c_7_1]) (Nat.le_of_ble_eq_true rfl) (Nat.le_of_ble_eq_true rfl) dX7_append_36
  · exact (C.cast (by rw [rT, if_neg (by rw [e_X7_append, if_neg c_7_1]; decide), e_X7_append, if_neg c_7_1]) (by rw [x_X7_append, if_neg c_7_1])).throwSW (is := 265) (text := "the input is full") tok_ISE (by decide) rfl (by decide) (Nat.le_of_ble_eq_true rfl) (Nat.le_of_ble_eq_true rfl) (Nat.le_of_ble_eq_true rfl) dX7_append_10 dX7_append_13 dX7_append_14 dX7_append_17 dX7_append_20

def r_X7_errorPosition (X : GS) : Int32 := (X.2.1 7)
set_option maxRecDepth 20000 in
theorem s_X7_errorPosition (X : GS) (b : BD) : Ct 1 0 0 yX7_errorPosition (.code yX7_errorPosition cX7_errorPosition 1 (some (.int))) [.ref 0] (mkH (uB X 0 b)) (.inl (some (.int (r_X7_errorPosition X)))) (mkH (uB X 0 b)) := by
  refine Ct.of (LL := [some (.ref 0)]) mkX7_errorPosition.1 owX7_errorPosition rfl (Nat.le_of_ble_eq_true rfl) rfl (fun Wk C => ?_)
  have K := C.core
  refine K.aload_n (q := 1) dX7_errorPosition_0 rfl rfl ?_
  refine K.getf (q := 4) (v := .int (X.2.1 7)) fo_X7_43.r rx0b (lt141 (by decide)) rfl dX7_errorPosition_1 rfl ?_
  exact C.iret rfl rfl (by rw [r_X7_errorPosition]) rfl (Nat.le_of_ble_eq_true rfl) (Nat.le_of_ble_eq_true rfl) dX7_errorPosition_4

def r_X7_refusal (X : GS) (isDetail : Int32) : Int32 := (if (X.2.1 9) = 0 then 0 else (if isDetail = 0 then (X.2.1 9) else (X.2.1 10)))

def e_X7_refusal (X : GS) (isDetail : Int32) : String := (if (X.2.1 9) = 0 then nseN else (if isDetail = 0 then "" else ""))
set_option maxRecDepth 20000 in
theorem s_X7_refusal (X : GS) (b : BD) (isDetail : Int32) : Ct 6 1 6 yX7_refusal (.code yX7_refusal cX7_refusal 2 (some (.int))) [.ref 0, .int isDetail] (mkH (uB X 0 b)) (rT (e_X7_refusal X isDetail) (some (.int (r_X7_refusal X isDetail)))) (mkH (uB X 0 b)) := by
  refine Ct.of (LL := [some (.ref 0), some (.int isDetail)]) mkX7_refusal.1 owX7_refusal rfl (Nat.le_of_ble_eq_true rfl) rfl (fun Wk C => ?_)
  have K := C.core
  refine K.aload_n (q := 1) dX7_refusal_0 rfl rfl ?_
  refine K.getf (q := 4) (v := .int (X.2.1 9)) fo_X7_51.r rx0b (lt141 (by decide)) rfl dX7_refusal_1 rfl ?_
  refine K.if_ne (q := 7) (tgt := 18) dX7_refusal_4 rfl (by decide) (fun c_4_1 => ?_) (fun c_4_1 => ?_)
  · refine K.iload_n (q := 19) dX7_refusal_18 rfl rfl ?_
    refine K.if_eq (q := 22) (tgt := 29) dX7_refusal_19 rfl (by decide) (fun c_19_2 => ?_) (fun c_19_2 => ?_)
    · refine K.aload_n (q := 30) dX7_refusal_29 rfl rfl ?_
      refine K.getf (q := 33) (v := .int (X.2.1 9)) fo_X7_51.r rx0b (lt141 (by decide)) rfl dX7_refusal_30 rfl ?_
      exact C.iret rfl rfl (by rw [rT, if_pos (by rw [e_X7_refusal, if_neg c_4_1, if_pos c_19_2]), r_X7_refusal, if_neg c_4_1, if_pos c_19_2]) rfl (Nat.le_of_ble_eq_true rfl) (Nat.le_of_ble_eq_true rfl) dX7_refusal_33
    · refine K.aload_n (q := 23) dX7_refusal_22 rfl rfl ?_
      refine K.getf (q := 26) (v := .int (X.2.1 10)) fo_X7_54.r rx0b (lt141 (by decide)) rfl dX7_refusal_23 rfl ?_
      refine K.goto (tgt := 33) dX7_refusal_26 (by decide) ?_
      exact C.iret rfl rfl (by rw [rT, if_pos (by rw [e_X7_refusal, if_neg c_4_1, if_neg c_19_2]), r_X7_refusal, if_neg c_4_1, if_neg c_19_2]) rfl (Nat.le_of_ble_eq_true rfl) (Nat.le_of_ble_eq_true rfl) dX7_refusal_33
  · exact (C.cast (by rw [rT, if_neg (by rw [e_X7_refusal, if_pos c_4_1]; decide), e_X7_refusal, if_pos c_4_1]) rfl).throwN (is := 309) (ln := 3) (text := "nothing was refused") nok (by decide) rfl (by decide) (Nat.le_of_ble_eq_true rfl) (Nat.le_of_ble_eq_true rfl) (Nat.le_of_ble_eq_true rfl) dX7_refusal_7 dX7_refusal_10 (by first | exact Or.inl ⟨rfl, dX7_refusal_11⟩ | exact Or.inr ⟨rfl, dX7_refusal_11⟩) dX7_refusal_14 dX7_refusal_17

def r_X7_account (X : GS) (b : BD) (what : Int32) : Int32 := (if what = 0 then (b.1 3) else (if what = 1 then (r_X3_allAmounts b) else (if what = 2 then (r_X3_allSizes b) else (if what = 3 then (r_X5_countAll b) else (if what = 4 then (b.1 4) else (if what = 5 then ((r_X3_allSizes b) - (r_X3_allAmounts b)) else (if what = 6 then (b.1 1) else (if what = 7 then (b.1 2) else (if what = 8 then (b.1 0) else (if what = 9 then (X.2.1 4) else (if what = 10 then (X.2.1 1) else 0)))))))))))

def e_X7_account (what : Int32) : String := (if what = 0 then "" else (if what = 1 then "" else (if what = 2 then "" else (if what = 3 then "" else (if what = 4 then "" else (if what = 5 then "" else (if what = 6 then "" else (if what = 7 then "" else (if what = 8 then "" else (if what = 9 then "" else (if what = 10 then "" else "java/lang/IllegalArgumentException")))))))))))
set_option maxRecDepth 20000 in
theorem s_X7_account (X : GS) (b : BD) (what : Int32) : Ct 6 1 6 yX7_account (.code yX7_account cX7_account 2 (some (.int))) [.ref 0, .int what] (mkH (uB X 0 b)) (rT (e_X7_account what) (some (.int (r_X7_account X b what)))) (mkH (uB X 0 b)) := by
  refine Ct.of (LL := [some (.ref 0), some (.int what)]) mkX7_account.1 owX7_account rfl (Nat.le_of_ble_eq_true rfl) rfl (fun Wk C => ?_)
  have K := C.core
  refine K.iload_n (q := 1) dX7_account_0 rfl rfl ?_
  by_cases c_1_1 : what = 0
  · refine K.tableIn (tgt := 60) dX7_account_1 (by rw [c_1_1]; decide) (by rw [c_1_1]; decide) (by rw [c_1_1]; try rfl) (by decide) ?_
    refine K.aload_n (q := 61) dX7_account_60 rfl rfl ?_
    refine K.getf (q := 64) (v := .ref 1) fo_X7_12.r rx0b (lt141 (by decide)) rfl dX7_account_61 rfl ?_
    refine K.getf (q := 67) (v := .ref 4) fo_X7_126 rb1 (lt141 (by decide)) rfl dX7_account_64 rfl ?_
    refine K.getf (q := 70) (v := .int (b.1 3)) fo_X7_311.r rb4 (lt141 (by decide)) rfl dX7_account_67 rfl ?_
    exact C.iret rfl rfl (by rw [rT, if_pos (by rw [e_X7_account, if_pos c_1_1]), r_X7_account, if_pos c_1_1]) rfl (Nat.le_of_ble_eq_true rfl) (Nat.le_of_ble_eq_true rfl) dX7_account_70
  · skip
    by_cases c_1_2 : what = 1
    · refine K.tableIn (tgt := 71) dX7_account_1 (by rw [c_1_2]; decide) (by rw [c_1_2]; decide) (by rw [c_1_2]; try rfl) (by decide) ?_
      refine K.aload_n (q := 72) dX7_account_71 rfl rfl ?_
      refine K.getf (q := 75) (v := .ref 1) fo_X7_12.r rx0b (lt141 (by decide)) rfl dX7_account_72 rfl ?_
      refine K.getf (q := 78) (v := .ref 4) fo_X7_126 rb1 (lt141 (by decide)) rfl dX7_account_75 rfl ?_
      refine K.callV0 (q := 81) mkX3_allAmounts mw_X7_312 (s_X3_allAmounts _ _) rfl (by decide) rfl (lt141 (by decide)) rb4 (Nat.le_of_ble_eq_true rfl) (Nat.le_of_ble_eq_true rfl) (Nat.le_of_ble_eq_true rfl) dX7_account_78 rfl ?_
      exact C.iret rfl rfl (by rw [rT, if_pos (by rw [e_X7_account, if_neg c_1_1, if_pos c_1_2]), r_X7_account, if_neg c_1_1, if_pos c_1_2]) rfl (Nat.le_of_ble_eq_true rfl) (Nat.le_of_ble_eq_true rfl) dX7_account_81
    · skip
      by_cases c_1_3 : what = 2
      · refine K.tableIn (tgt := 82) dX7_account_1 (by rw [c_1_3]; decide) (by rw [c_1_3]; decide) (by rw [c_1_3]; try rfl) (by decide) ?_
        refine K.aload_n (q := 83) dX7_account_82 rfl rfl ?_
        refine K.getf (q := 86) (v := .ref 1) fo_X7_12.r rx0b (lt141 (by decide)) rfl dX7_account_83 rfl ?_
        refine K.getf (q := 89) (v := .ref 4) fo_X7_126 rb1 (lt141 (by decide)) rfl dX7_account_86 rfl ?_
        refine K.callV0 (q := 92) mkX3_allSizes mw_X7_315 (s_X3_allSizes _ _) rfl (by decide) rfl (lt141 (by decide)) rb4 (Nat.le_of_ble_eq_true rfl) (Nat.le_of_ble_eq_true rfl) (Nat.le_of_ble_eq_true rfl) dX7_account_89 rfl ?_
        exact C.iret rfl rfl (by rw [rT, if_pos (by rw [e_X7_account, if_neg c_1_1, if_neg c_1_2, if_pos c_1_3]), r_X7_account, if_neg c_1_1, if_neg c_1_2, if_pos c_1_3]) rfl (Nat.le_of_ble_eq_true rfl) (Nat.le_of_ble_eq_true rfl) dX7_account_92
      · skip
        by_cases c_1_4 : what = 3
        · refine K.tableIn (tgt := 93) dX7_account_1 (by rw [c_1_4]; decide) (by rw [c_1_4]; decide) (by rw [c_1_4]; try rfl) (by decide) ?_
          refine K.aload_n (q := 94) dX7_account_93 rfl rfl ?_
          refine K.getf (q := 97) (v := .ref 1) fo_X7_12.r rx0b (lt141 (by decide)) rfl dX7_account_94 rfl ?_
          refine K.getf (q := 100) (v := .ref 2) fo_X7_203 rb1 (lt141 (by decide)) rfl dX7_account_97 rfl ?_
          refine K.callV0 (q := 103) mkX5_countAll mw_X7_318 (s_X5_countAll _ _) rfl (by decide) rfl (lt141 (by decide)) rb2 (Nat.le_of_ble_eq_true rfl) (Nat.le_of_ble_eq_true rfl) (Nat.le_of_ble_eq_true rfl) dX7_account_100 rfl ?_
          exact C.iret rfl rfl (by rw [rT, if_pos (by rw [e_X7_account, if_neg c_1_1, if_neg c_1_2, if_neg c_1_3, if_pos c_1_4]), r_X7_account, if_neg c_1_1, if_neg c_1_2, if_neg c_1_3, if_pos c_1_4]) rfl (Nat.le_of_ble_eq_true rfl) (Nat.le_of_ble_eq_true rfl) dX7_account_103
        · skip
          by_cases c_1_5 : what = 4
          · refine K.tableIn (tgt := 104) dX7_account_1 (by rw [c_1_5]; decide) (by rw [c_1_5]; decide) (by rw [c_1_5]; try rfl) (by decide) ?_
            refine K.aload_n (q := 105) dX7_account_104 rfl rfl ?_
            refine K.getf (q := 108) (v := .ref 1) fo_X7_12.r rx0b (lt141 (by decide)) rfl dX7_account_105 rfl ?_
            refine K.getf (q := 111) (v := .ref 9) fo_X7_103 rb1 (lt141 (by decide)) rfl dX7_account_108 rfl ?_
            refine K.getf (q := 114) (v := .int (b.1 4)) fo_X7_123.r rb9 (lt141 (by decide)) rfl dX7_account_111 rfl ?_
            exact C.iret rfl rfl (by rw [rT, if_pos (by rw [e_X7_account, if_neg c_1_1, if_neg c_1_2, if_neg c_1_3, if_neg c_1_4, if_pos c_1_5]), r_X7_account, if_neg c_1_1, if_neg c_1_2, if_neg c_1_3, if_neg c_1_4, if_pos c_1_5]) rfl (Nat.le_of_ble_eq_true rfl) (Nat.le_of_ble_eq_true rfl) dX7_account_114
          · skip
            by_cases c_1_6 : what = 5
            · refine K.tableIn (tgt := 115) dX7_account_1 (by rw [c_1_6]; decide) (by rw [c_1_6]; decide) (by rw [c_1_6]; try rfl) (by decide) ?_
              refine K.aload_n (q := 116) dX7_account_115 rfl rfl ?_
              refine K.getf (q := 119) (v := .ref 1) fo_X7_12.r rx0b (lt141 (by decide)) rfl dX7_account_116 rfl ?_
              refine K.getf (q := 122) (v := .ref 4) fo_X7_126 rb1 (lt141 (by decide)) rfl dX7_account_119 rfl ?_
              refine K.callV0 (q := 125) mkX3_allSizes mw_X7_315 (s_X3_allSizes _ _) rfl (by decide) rfl (lt141 (by decide)) rb4 (Nat.le_of_ble_eq_true rfl) (Nat.le_of_ble_eq_true rfl) (Nat.le_of_ble_eq_true rfl) dX7_account_122 rfl ?_
              refine K.aload_n (q := 126) dX7_account_125 rfl rfl ?_
              refine K.getf (q := 129) (v := .ref 1) fo_X7_12.r rx0b (lt141 (by decide)) rfl dX7_account_126 rfl ?_
              refine K.getf (q := 132) (v := .ref 4) fo_X7_126 rb1 (lt141 (by decide)) rfl dX7_account_129 rfl ?_
              refine K.callV0 (q := 135) mkX3_allAmounts mw_X7_312 (s_X3_allAmounts _ _) rfl (by decide) rfl (lt141 (by decide)) rb4 (Nat.le_of_ble_eq_true rfl) (Nat.le_of_ble_eq_true rfl) (Nat.le_of_ble_eq_true rfl) dX7_account_132 rfl ?_
              refine K.isub (q := 136) dX7_account_135 rfl ?_
              exact C.iret rfl rfl (by rw [rT, if_pos (by rw [e_X7_account, if_neg c_1_1, if_neg c_1_2, if_neg c_1_3, if_neg c_1_4, if_neg c_1_5, if_pos c_1_6]), r_X7_account, if_neg c_1_1, if_neg c_1_2, if_neg c_1_3, if_neg c_1_4, if_neg c_1_5, if_pos c_1_6]) rfl (Nat.le_of_ble_eq_true rfl) (Nat.le_of_ble_eq_true rfl) dX7_account_136
            · skip
              by_cases c_1_7 : what = 6
              · refine K.tableIn (tgt := 137) dX7_account_1 (by rw [c_1_7]; decide) (by rw [c_1_7]; decide) (by rw [c_1_7]; try rfl) (by decide) ?_
                refine K.aload_n (q := 138) dX7_account_137 rfl rfl ?_
                refine K.getf (q := 141) (v := .ref 1) fo_X7_12.r rx0b (lt141 (by decide)) rfl dX7_account_138 rfl ?_
                refine K.getf (q := 144) (v := .ref 2) fo_X7_203 rb1 (lt141 (by decide)) rfl dX7_account_141 rfl ?_
                refine K.getf (q := 147) (v := .int (b.1 1)) fo_X7_321.r rb2 (lt141 (by decide)) rfl dX7_account_144 rfl ?_
                exact C.iret rfl rfl (by rw [rT, if_pos (by rw [e_X7_account, if_neg c_1_1, if_neg c_1_2, if_neg c_1_3, if_neg c_1_4, if_neg c_1_5, if_neg c_1_6, if_pos c_1_7]), r_X7_account, if_neg c_1_1, if_neg c_1_2, if_neg c_1_3, if_neg c_1_4, if_neg c_1_5, if_neg c_1_6, if_pos c_1_7]) rfl (Nat.le_of_ble_eq_true rfl) (Nat.le_of_ble_eq_true rfl) dX7_account_147
              · skip
                by_cases c_1_8 : what = 7
                · refine K.tableIn (tgt := 148) dX7_account_1 (by rw [c_1_8]; decide) (by rw [c_1_8]; decide) (by rw [c_1_8]; try rfl) (by decide) ?_
                  refine K.aload_n (q := 149) dX7_account_148 rfl rfl ?_
                  refine K.getf (q := 152) (v := .ref 1) fo_X7_12.r rx0b (lt141 (by decide)) rfl dX7_account_149 rfl ?_
                  refine K.getf (q := 155) (v := .ref 2) fo_X7_203 rb1 (lt141 (by decide)) rfl dX7_account_152 rfl ?_
                  refine K.getf (q := 158) (v := .int (b.1 2)) fo_X7_324.r rb2 (lt141 (by decide)) rfl dX7_account_155 rfl ?_
                  exact C.iret rfl rfl (by rw [rT, if_pos (by rw [e_X7_account, if_neg c_1_1, if_neg c_1_2, if_neg c_1_3, if_neg c_1_4, if_neg c_1_5, if_neg c_1_6, if_neg c_1_7, if_pos c_1_8]), r_X7_account, if_neg c_1_1, if_neg c_1_2, if_neg c_1_3, if_neg c_1_4, if_neg c_1_5, if_neg c_1_6, if_neg c_1_7, if_pos c_1_8]) rfl (Nat.le_of_ble_eq_true rfl) (Nat.le_of_ble_eq_true rfl) dX7_account_158
                · skip
                  by_cases c_1_9 : what = 8
                  · refine K.tableIn (tgt := 159) dX7_account_1 (by rw [c_1_9]; decide) (by rw [c_1_9]; decide) (by rw [c_1_9]; try rfl) (by decide) ?_
                    refine K.aload_n (q := 160) dX7_account_159 rfl rfl ?_
                    refine K.getf (q := 163) (v := .ref 1) fo_X7_12.r rx0b (lt141 (by decide)) rfl dX7_account_160 rfl ?_
                    refine K.getf (q := 166) (v := .ref 2) fo_X7_203 rb1 (lt141 (by decide)) rfl dX7_account_163 rfl ?_
                    refine K.getf (q := 169) (v := .int (b.1 0)) fo_X7_327.r rb2 (lt141 (by decide)) rfl dX7_account_166 rfl ?_
                    exact C.iret rfl rfl (by rw [rT, if_pos (by rw [e_X7_account, if_neg c_1_1, if_neg c_1_2, if_neg c_1_3, if_neg c_1_4, if_neg c_1_5, if_neg c_1_6, if_neg c_1_7, if_neg c_1_8, if_pos c_1_9]), r_X7_account, if_neg c_1_1, if_neg c_1_2, if_neg c_1_3, if_neg c_1_4, if_neg c_1_5, if_neg c_1_6, if_neg c_1_7, if_neg c_1_8, if_pos c_1_9]) rfl (Nat.le_of_ble_eq_true rfl) (Nat.le_of_ble_eq_true rfl) dX7_account_169
                  · skip
                    by_cases c_1_10 : what = 9
                    · refine K.tableIn (tgt := 170) dX7_account_1 (by rw [c_1_10]; decide) (by rw [c_1_10]; decide) (by rw [c_1_10]; try rfl) (by decide) ?_
                      refine K.aload_n (q := 171) dX7_account_170 rfl rfl ?_
                      refine K.getf (q := 174) (v := .ref 126) fo_X7_39.r rx0b (lt141 (by decide)) rfl dX7_account_171 rfl ?_
                      refine K.getf (q := 177) (v := .int (X.2.1 4)) fo_X7_272.r rx126b (lt141 (by decide)) rfl dX7_account_174 rfl ?_
                      exact C.iret rfl rfl (by rw [rT, if_pos (by rw [e_X7_account, if_neg c_1_1, if_neg c_1_2, if_neg c_1_3, if_neg c_1_4, if_neg c_1_5, if_neg c_1_6, if_neg c_1_7, if_neg c_1_8, if_neg c_1_9, if_pos c_1_10]), r_X7_account, if_neg c_1_1, if_neg c_1_2, if_neg c_1_3, if_neg c_1_4, if_neg c_1_5, if_neg c_1_6, if_neg c_1_7, if_neg c_1_8, if_neg c_1_9, if_pos c_1_10]) rfl (Nat.le_of_ble_eq_true rfl) (Nat.le_of_ble_eq_true rfl) dX7_account_177
                    · skip
                      by_cases c_1_11 : what = 10
                      · refine K.tableIn (tgt := 178) dX7_account_1 (by rw [c_1_11]; decide) (by rw [c_1_11]; decide) (by rw [c_1_11]; try rfl) (by decide) ?_
                        refine K.aload_n (q := 179) dX7_account_178 rfl rfl ?_
                        refine K.getf (q := 182) (v := .ref 34) fo_X7_25.r rx0b (lt141 (by decide)) rfl dX7_account_179 rfl ?_
                        refine K.getf (q := 185) (v := .int (X.2.1 1)) fo_X7_330.r rx34b (lt141 (by decide)) rfl dX7_account_182 rfl ?_
                        exact C.iret rfl rfl (by rw [rT, if_pos (by rw [e_X7_account, if_neg c_1_1, if_neg c_1_2, if_neg c_1_3, if_neg c_1_4, if_neg c_1_5, if_neg c_1_6, if_neg c_1_7, if_neg c_1_8, if_neg c_1_9, if_neg c_1_10, if_pos c_1_11]), r_X7_account, if_neg c_1_1, if_neg c_1_2, if_neg c_1_3, if_neg c_1_4, if_neg c_1_5, if_neg c_1_6, if_neg c_1_7, if_neg c_1_8, if_neg c_1_9, if_neg c_1_10, if_pos c_1_11]) rfl (Nat.le_of_ble_eq_true rfl) (Nat.le_of_ble_eq_true rfl) dX7_account_185
                      · skip
                        refine K.tableOut (tgt := 186) dX7_account_1 (by have e0 := lv_neT (k := 0) (a := 0) c_1_1 (by decide); have e1 := lv_neT (k := 1) (a := 1) c_1_2 (by decide); have e2 := lv_neT (k := 2) (a := 2) c_1_3 (by decide); have e3 := lv_neT (k := 3) (a := 3) c_1_4 (by decide); have e4 := lv_neT (k := 4) (a := 4) c_1_5 (by decide); have e5 := lv_neT (k := 5) (a := 5) c_1_6 (by decide); have e6 := lv_neT (k := 6) (a := 6) c_1_7 (by decide); have e7 := lv_neT (k := 7) (a := 7) c_1_8 (by decide); have e8 := lv_neT (k := 8) (a := 8) c_1_9 (by decide); have e9 := lv_neT (k := 9) (a := 9) c_1_10 (by decide); have e10 := lv_neT (k := 10) (a := 10) c_1_11 (by decide); omega) (by decide) ?_
                        exact (C.cast (by rw [rT, if_neg (by rw [e_X7_account, if_neg c_1_1, if_neg c_1_2, if_neg c_1_3, if_neg c_1_4, if_neg c_1_5, if_neg c_1_6, if_neg c_1_7, if_neg c_1_8, if_neg c_1_9, if_neg c_1_10, if_neg c_1_11]; decide), e_X7_account, if_neg c_1_1, if_neg c_1_2, if_neg c_1_3, if_neg c_1_4, if_neg c_1_5, if_neg c_1_6, if_neg c_1_7, if_neg c_1_8, if_neg c_1_9, if_neg c_1_10, if_neg c_1_11]) rfl).throwSW (is := 331) (text := "no such account") tok_IAE (by decide) rfl (by decide) (Nat.le_of_ble_eq_true rfl) (Nat.le_of_ble_eq_true rfl) (Nat.le_of_ble_eq_true rfl) dX7_account_186 dX7_account_189 dX7_account_190 dX7_account_193 dX7_account_196

def r_X7_isWell (b : BD) : Int32 := (if (r_X0_isCovered b) = 0 then 0 else (if (r_X0_isCountedAlike b) = 0 then 0 else (if (r_X3_isEachNeedMet b) = 0 then 0 else (if (r_X0_isSomebodyLeft b) = 0 then 1 else 0))))
set_option maxRecDepth 20000 in
theorem s_X7_isWell (X : GS) (b : BD) : Ct 7 0 0 yX7_isWell (.code yX7_isWell cX7_isWell 1 (some (.boolean))) [.ref 0] (mkH (uB X 0 b)) (.inl (some (.int (r_X7_isWell b)))) (mkH (uB X 0 b)) := by
  refine Ct.of (LL := [some (.ref 0)]) mkX7_isWell.1 owX7_isWell rfl (Nat.le_of_ble_eq_true rfl) rfl (fun Wk C => ?_)
  have K := C.core
  refine K.aload_n (q := 1) dX7_isWell_0 rfl rfl ?_
  refine K.getf (q := 4) (v := .ref 1) fo_X7_12.r rx0b (lt141 (by decide)) rfl dX7_isWell_1 rfl ?_
  refine K.callV0 (q := 7) mkX0_isCovered mw_X7_333 (s_X0_isCovered _ _) rfl (by decide) rfl (lt141 (by decide)) rb1 (Nat.le_of_ble_eq_true rfl) (Nat.le_of_ble_eq_true rfl) (Nat.le_of_ble_eq_true rfl) dX7_isWell_4 rfl ?_
  refine K.if_eq (q := 10) (tgt := 47) dX7_isWell_7 rfl (by decide) (fun c_7_1 => ?_) (fun c_7_1 => ?_)
  · refine K.iconst (q := 48) (v := 0) dX7_isWell_47 rfl (by decide) ?_
    exact C.iret rfl rfl (by rw [r_X7_isWell, if_pos c_7_1]) rfl (Nat.le_of_ble_eq_true rfl) (Nat.le_of_ble_eq_true rfl) dX7_isWell_48
  · refine K.aload_n (q := 11) dX7_isWell_10 rfl rfl ?_
    refine K.getf (q := 14) (v := .ref 1) fo_X7_12.r rx0b (lt141 (by decide)) rfl dX7_isWell_11 rfl ?_
    refine K.callV0 (q := 17) mkX0_isCountedAlike mw_X7_336 (s_X0_isCountedAlike _ _ (isCounted_ne _)) rfl (by decide) rfl (lt141 (by decide)) rb1 (Nat.le_of_ble_eq_true rfl) (Nat.le_of_ble_eq_true rfl) (Nat.le_of_ble_eq_true rfl) dX7_isWell_14 rfl ?_
    refine K.if_eq (q := 20) (tgt := 47) dX7_isWell_17 rfl (by decide) (fun c_17_2 => ?_) (fun c_17_2 => ?_)
    · refine K.iconst (q := 48) (v := 0) dX7_isWell_47 rfl (by decide) ?_
      exact C.iret rfl rfl (by rw [r_X7_isWell, if_neg c_7_1, if_pos c_17_2]) rfl (Nat.le_of_ble_eq_true rfl) (Nat.le_of_ble_eq_true rfl) dX7_isWell_48
    · refine K.aload_n (q := 21) dX7_isWell_20 rfl rfl ?_
      refine K.getf (q := 24) (v := .ref 1) fo_X7_12.r rx0b (lt141 (by decide)) rfl dX7_isWell_21 rfl ?_
      refine K.getf (q := 27) (v := .ref 4) fo_X7_126 rb1 (lt141 (by decide)) rfl dX7_isWell_24 rfl ?_
      refine K.callV0 (q := 30) mkX3_isEachNeedMet mw_X7_339 (s_X3_isEachNeedMet _ _) rfl (by decide) rfl (lt141 (by decide)) rb4 (Nat.le_of_ble_eq_true rfl) (Nat.le_of_ble_eq_true rfl) (Nat.le_of_ble_eq_true rfl) dX7_isWell_27 rfl ?_
      refine K.if_eq (q := 33) (tgt := 47) dX7_isWell_30 rfl (by decide) (fun c_30_3 => ?_) (fun c_30_3 => ?_)
      · refine K.iconst (q := 48) (v := 0) dX7_isWell_47 rfl (by decide) ?_
        exact C.iret rfl rfl (by rw [r_X7_isWell, if_neg c_7_1, if_neg c_17_2, if_pos c_30_3]) rfl (Nat.le_of_ble_eq_true rfl) (Nat.le_of_ble_eq_true rfl) dX7_isWell_48
      · refine K.aload_n (q := 34) dX7_isWell_33 rfl rfl ?_
        refine K.getf (q := 37) (v := .ref 1) fo_X7_12.r rx0b (lt141 (by decide)) rfl dX7_isWell_34 rfl ?_
        refine K.callV0 (q := 40) mkX0_isSomebodyLeft mw_X7_342 (s_X0_isSomebodyLeft _ _) rfl (by decide) rfl (lt141 (by decide)) rb1 (Nat.le_of_ble_eq_true rfl) (Nat.le_of_ble_eq_true rfl) (Nat.le_of_ble_eq_true rfl) dX7_isWell_37 rfl ?_
        refine K.if_ne (q := 43) (tgt := 47) dX7_isWell_40 rfl (by decide) (fun c_40_4 => ?_) (fun c_40_4 => ?_)
        · refine K.iconst (q := 48) (v := 0) dX7_isWell_47 rfl (by decide) ?_
          exact C.iret rfl rfl (by rw [r_X7_isWell, if_neg c_7_1, if_neg c_17_2, if_neg c_30_3, if_neg c_40_4]) rfl (Nat.le_of_ble_eq_true rfl) (Nat.le_of_ble_eq_true rfl) dX7_isWell_48
        · refine K.iconst (q := 44) (v := 1) dX7_isWell_43 rfl (by decide) ?_
          refine K.goto (tgt := 48) dX7_isWell_44 (by decide) ?_
          exact C.iret rfl rfl (by rw [r_X7_isWell, if_neg c_7_1, if_neg c_17_2, if_neg c_30_3, if_pos c_40_4]) rfl (Nat.le_of_ble_eq_true rfl) (Nat.le_of_ble_eq_true rfl) dX7_isWell_48

def lp_X7_cuts_29 (amount : Int32) : Nat → Int32 → Int32 → Option (Int32 × Int32)
  | 0, _, _ => none
  | j + 1, a4, a5 => (if a5 < (r_X7_insistOnNeed amount) then (some (a4, a5)) else (if a5 < 1 then (some (a4, a5)) else (lp_X7_cuts_29 amount j (a4 + 1) (a5 / 2))))

def r_X7_cuts (b : BD) (amount : Int32) : Int32 := (if (e_X7_insistOnNeed amount) = "" then (if (e_X7_insistOnPiece b (r_X7_insistOnNeed amount)) = "" then (((lp_X7_cuts_29 amount 64 0 ((r_X5_sizeAt b (r_X7_insistOnPiece b (r_X7_insistOnNeed amount))) / 2)).getD ((0 : Int32), (0 : Int32))).1) else 0) else 0)

def e_X7_cuts (b : BD) (amount : Int32) : String := (if (e_X7_insistOnNeed amount) = "" then (if (e_X7_insistOnPiece b (r_X7_insistOnNeed amount)) = "" then "" else (e_X7_insistOnPiece b (r_X7_insistOnNeed amount))) else (e_X7_insistOnNeed amount))
set_option maxRecDepth 20000 in
theorem s_X7_cuts (X : GS) (b : BD) (amount : Int32) (hf_29 : (lp_X7_cuts_29 amount 64 0 ((r_X5_sizeAt b (r_X7_insistOnPiece b (r_X7_insistOnNeed amount))) / 2)) ≠ none) : Ct 7 2 12 yX7_cuts (.code yX7_cuts cX7_cuts 6 (some (.int))) [.ref 0, .int amount] (mkH (uB X 0 b)) (rT (e_X7_cuts b amount) (some (.int (r_X7_cuts b amount)))) (mkH (uB X 0 b)) := by
  refine Ct.of (LL := [some (.ref 0), some (.int amount), none, none, none, none]) mkX7_cuts.1 owX7_cuts rfl (Nat.le_of_ble_eq_true rfl) rfl (fun Wk C => ?_)
  have K := C.core
  refine K.iload_n (q := 1) dX7_cuts_0 rfl rfl ?_
  by_cases t_1_1 : (e_X7_insistOnNeed amount) = ""
  · refine K.callS (q := 4) mkX7_insistOnNeed mw_X7_218 (ct_ok (s_X7_insistOnNeed _ _ _) t_1_1) rfl (by decide) rfl (Nat.le_of_ble_eq_true rfl) (Nat.le_of_ble_eq_true rfl) (Nat.le_of_ble_eq_true rfl) dX7_cuts_1 rfl ?_
    refine K.istore_n (q := 5) (i := 2) dX7_cuts_4 rfl rfl (by decide) rfl ?_
    refine K.aload_n (q := 6) dX7_cuts_5 rfl rfl ?_
    refine K.iload_n (q := 7) dX7_cuts_6 rfl rfl ?_
    by_cases t_7_2 : (e_X7_insistOnPiece b (r_X7_insistOnNeed amount)) = ""
    · refine K.callV (q := 10) mkX7_insistOnPiece mw_X7_221 (ct_ok (s_X7_insistOnPiece _ _ _) t_7_2) rfl (by decide) rfl (lt141 (by decide)) rx0b (Nat.le_of_ble_eq_true rfl) (Nat.le_of_ble_eq_true rfl) (Nat.le_of_ble_eq_true rfl) dX7_cuts_7 rfl ?_
      refine K.istore_n (q := 11) (i := 3) dX7_cuts_10 rfl rfl (by decide) rfl ?_
      refine K.iconst (q := 12) (v := 0) dX7_cuts_11 rfl (by decide) ?_
      refine K.istore (q := 14) dX7_cuts_12 rfl (by decide) rfl ?_
      refine K.aload_n (q := 15) dX7_cuts_14 rfl rfl ?_
      refine K.getf (q := 18) (v := .ref 1) fo_X7_12.r rx0b (lt141 (by decide)) rfl dX7_cuts_15 rfl ?_
      refine K.getf (q := 21) (v := .ref 2) fo_X7_203 rb1 (lt141 (by decide)) rfl dX7_cuts_18 rfl ?_
      refine K.iload_n (q := 22) dX7_cuts_21 rfl rfl ?_
      refine K.callV0 (q := 25) mkX5_sizeAt mw_X7_228 (s_X5_sizeAt _ _ _) rfl (by decide) rfl (lt141 (by decide)) rb2 (Nat.le_of_ble_eq_true rfl) (Nat.le_of_ble_eq_true rfl) (Nat.le_of_ble_eq_true rfl) dX7_cuts_22 rfl ?_
      refine K.iconst (q := 26) (v := 2) dX7_cuts_25 rfl (by decide) ?_
      refine K.idiv (q := 27) dX7_cuts_26 rfl (by decide) ?_
      refine K.istore (q := 29) dX7_cuts_27 rfl (by decide) rfl ?_
      have L29 : ∀ (j : Nat) (a4 : Int32) (a5 : Int32) (rr : Int32 × Int32), lp_X7_cuts_29 amount j a4 a5 = some rr → (Wk 2 12 53 [some (.ref 0), some (.int amount), some (.int (r_X7_insistOnNeed amount)), some (.int (r_X7_insistOnPiece b (r_X7_insistOnNeed amount))), some (.int (rr.1)), some (.int (rr.2))] [] (mkH (uB X 0 b))) → Wk 2 12 29 [some (.ref 0), some (.int amount), some (.int (r_X7_insistOnNeed amount)), some (.int (r_X7_insistOnPiece b (r_X7_insistOnNeed amount))), some (.int a4), some (.int a5)] [] (mkH (uB X 0 b)) := by
        intro j
        induction j with
        | zero =>
          intro a4 a5 rr hrr hx
          exact absurd hrr (by rw [lp_X7_cuts_29]; exact fun h => nomatch h)
        | succ j ih =>
          intro a4 a5 rr hrr hx
          refine K.iload (q := 31) dX7_cuts_29 rfl rfl ?_
          refine K.iload_n (q := 32) dX7_cuts_31 rfl rfl ?_
          refine K.icmp_lt (q := 35) (tgt := 53) dX7_cuts_32 rfl (by decide) (fun c_32_3 => ?_) (fun c_32_3 => ?_)
          · rw [lp_X7_cuts_29, if_pos c_32_3] at hrr
            obtain rfl := Option.some.inj hrr
            exact hx
          · refine K.iload (q := 37) dX7_cuts_35 rfl rfl ?_
            refine K.iconst (q := 38) (v := 1) dX7_cuts_37 rfl (by decide) ?_
            refine K.icmp_lt (q := 41) (tgt := 53) dX7_cuts_38 rfl (by decide) (fun c_38_4 => ?_) (fun c_38_4 => ?_)
            · rw [lp_X7_cuts_29, if_neg c_32_3, if_pos c_38_4] at hrr
              obtain rfl := Option.some.inj hrr
              exact hx
            · refine K.iinc (q := 44) (v := (a4 + 1)) dX7_cuts_41 rfl rfl rfl (by decide) rfl ?_
              refine K.iload (q := 46) dX7_cuts_44 rfl rfl ?_
              refine K.iconst (q := 47) (v := 2) dX7_cuts_46 rfl (by decide) ?_
              refine K.idiv (q := 48) dX7_cuts_47 rfl (by decide) ?_
              refine K.istore (q := 50) dX7_cuts_48 rfl (by decide) rfl ?_
              refine K.goto (tgt := 29) dX7_cuts_50 (by decide) ?_
              rw [lp_X7_cuts_29, if_neg c_32_3, if_neg c_38_4] at hrr
              exact ih (a4 + 1) (a5 / 2) rr hrr hx
      refine L29 _ 0 ((r_X5_sizeAt b (r_X7_insistOnPiece b (r_X7_insistOnNeed amount))) / 2) _ (fu_some (d := ((0 : Int32), (0 : Int32))) hf_29) ?_
      refine K.iload (q := 55) dX7_cuts_53 rfl rfl ?_
      exact C.iret rfl rfl (by rw [rT, if_pos (by rw [e_X7_cuts, if_pos t_1_1, if_pos t_7_2]), r_X7_cuts, if_pos t_1_1, if_pos t_7_2]) rfl (Nat.le_of_ble_eq_true rfl) (Nat.le_of_ble_eq_true rfl) dX7_cuts_55
    · exact (C.cast (by rw [rT, if_neg (by rw [e_X7_cuts, if_pos t_1_1, if_neg t_7_2]; exact t_7_2), e_X7_cuts, if_pos t_1_1, if_neg t_7_2]) rfl).outV mkX7_insistOnPiece mw_X7_221 (ct_ex (s_X7_insistOnPiece _ _ _) t_7_2) rfl (by decide) rfl (lt141 (by decide)) rx0b (Nat.le_of_ble_eq_true rfl) (Nat.le_of_ble_eq_true rfl) (Nat.le_of_ble_eq_true rfl) dX7_cuts_7
  · exact (C.cast (by rw [rT, if_neg (by rw [e_X7_cuts, if_neg t_1_1]; exact t_1_1), e_X7_cuts, if_neg t_1_1]) rfl).outS mkX7_insistOnNeed mw_X7_218 (ct_ex (s_X7_insistOnNeed _ _ _) t_1_1) rfl (by decide) rfl (Nat.le_of_ble_eq_true rfl) (Nat.le_of_ble_eq_true rfl) (Nat.le_of_ble_eq_true rfl) dX7_cuts_1

def r_X7_character (X : GS) (index : Int32) : Int32 := (if (r_X2_has X index) = 0 then 0 else (r_X2_signAt X index))

def e_X7_character (X : GS) (index : Int32) : String := (if (r_X2_has X index) = 0 then "java/lang/IndexOutOfBoundsException" else "")
set_option maxRecDepth 20000 in
theorem s_X7_character (X : GS) (b : BD) (index : Int32) (hch : ∀ i : Nat, narrow .char (.int (X.2.2.1 0 i)) = .int (X.2.2.1 0 i)) : Ct 6 1 6 yX7_character (.code yX7_character cX7_character 2 (some (.char))) [.ref 0, .int index] (mkH (uB X 0 b)) (rT (e_X7_character X index) (some (.int (r_X7_character X index)))) (mkH (uB X 0 b)) := by
  refine Ct.of (LL := [some (.ref 0), some (.int index)]) mkX7_character.1 owX7_character rfl (Nat.le_of_ble_eq_true rfl) rfl (fun Wk C => ?_)
  have K := C.core
  refine K.aload_n (q := 1) dX7_character_0 rfl rfl ?_
  refine K.getf (q := 4) (v := .ref 124) fo_X7_32.r rx0b (lt141 (by decide)) rfl dX7_character_1 rfl ?_
  refine K.iload_n (q := 5) dX7_character_4 rfl rfl ?_
  refine K.callV0 (q := 8) mkX2_has mw_X7_253 (s_X2_has _ _ _) rfl (by decide) rfl (lt141 (by decide)) rx124b (Nat.le_of_ble_eq_true rfl) (Nat.le_of_ble_eq_true rfl) (Nat.le_of_ble_eq_true rfl) dX7_character_5 rfl ?_
  refine K.if_ne (q := 11) (tgt := 21) dX7_character_8 rfl (by decide) (fun c_8_1 => ?_) (fun c_8_1 => ?_)
  · refine K.aload_n (q := 22) dX7_character_21 rfl rfl ?_
    refine K.getf (q := 25) (v := .ref 124) fo_X7_32.r rx0b (lt141 (by decide)) rfl dX7_character_22 rfl ?_
    refine K.iload_n (q := 26) dX7_character_25 rfl rfl ?_
    refine K.callV0 (q := 29) mkX2_signAt mw_X7_256 (s_X2_signAt _ _ _ hch) rfl (by decide) rfl (lt141 (by decide)) rx124b (Nat.le_of_ble_eq_true rfl) (Nat.le_of_ble_eq_true rfl) (Nat.le_of_ble_eq_true rfl) dX7_character_26 rfl ?_
    exact C.iret rfl (ch_narrow hch) (by rw [rT, if_pos (by rw [e_X7_character, if_neg c_8_1]), r_X7_character, if_neg c_8_1]) rfl (Nat.le_of_ble_eq_true rfl) (Nat.le_of_ble_eq_true rfl) dX7_character_29
  · exact (C.cast (by rw [rT, if_neg (by rw [e_X7_character, if_pos c_8_1]; decide), e_X7_character, if_pos c_8_1]) rfl).throwS (is := 254) (text := "no such index") tok_IOOBE (by decide) rfl (by decide) (Nat.le_of_ble_eq_true rfl) (Nat.le_of_ble_eq_true rfl) (Nat.le_of_ble_eq_true rfl) dX7_character_11 dX7_character_14 dX7_character_15 dX7_character_17 dX7_character_20

def r_X7_meanWaste (b : BD) : UInt64 := (if 0 < (b.1 3) then (FP.ddiv (FP.i2d ((r_X3_allSizes b) - (r_X3_allAmounts b))) (FP.i2d (b.1 3))) else 0)

def e_X7_meanWaste (b : BD) : String := (if 0 < (b.1 3) then "" else "java/lang/ArithmeticException")
set_option maxRecDepth 20000 in
theorem s_X7_meanWaste (X : GS) (b : BD) (hnan : 0 < b.1 3 → vf_n64 (FP.ddiv (FP.i2d (r_X3_allSizes b - r_X3_allAmounts b)) (FP.i2d (b.1 3)))) : Ct 6 1 6 yX7_meanWaste (.code yX7_meanWaste cX7_meanWaste 2 (some (.double))) [.ref 0] (mkH (uB X 0 b)) (rT (e_X7_meanWaste b) (some (.double (r_X7_meanWaste b)))) (mkH (uB X 0 b)) := by
  refine Ct.of (LL := [some (.ref 0), none]) mkX7_meanWaste.1 owX7_meanWaste rfl (Nat.le_of_ble_eq_true rfl) rfl (fun Wk C => ?_)
  have K := C.core
  refine K.aload_n (q := 1) dX7_meanWaste_0 rfl rfl ?_
  refine K.getf (q := 4) (v := .ref 1) fo_X7_12.r rx0b (lt141 (by decide)) rfl dX7_meanWaste_1 rfl ?_
  refine K.getf (q := 7) (v := .ref 4) fo_X7_126 rb1 (lt141 (by decide)) rfl dX7_meanWaste_4 rfl ?_
  refine K.getf (q := 10) (v := .int (b.1 3)) fo_X7_311.r rb4 (lt141 (by decide)) rfl dX7_meanWaste_7 rfl ?_
  refine K.istore_n (q := 11) (i := 1) dX7_meanWaste_10 rfl rfl (by decide) rfl ?_
  refine K.iload_n (q := 12) dX7_meanWaste_11 rfl rfl ?_
  refine K.if_gt (q := 15) (tgt := 26) dX7_meanWaste_12 rfl (by decide) (fun c_12_1 => ?_) (fun c_12_1 => ?_)
  · refine K.aload_n (q := 27) dX7_meanWaste_26 rfl rfl ?_
    refine K.getf (q := 30) (v := .ref 1) fo_X7_12.r rx0b (lt141 (by decide)) rfl dX7_meanWaste_27 rfl ?_
    refine K.getf (q := 33) (v := .ref 4) fo_X7_126 rb1 (lt141 (by decide)) rfl dX7_meanWaste_30 rfl ?_
    refine K.callV0 (q := 36) mkX3_allSizes mw_X7_315 (s_X3_allSizes _ _) rfl (by decide) rfl (lt141 (by decide)) rb4 (Nat.le_of_ble_eq_true rfl) (Nat.le_of_ble_eq_true rfl) (Nat.le_of_ble_eq_true rfl) dX7_meanWaste_33 rfl ?_
    refine K.aload_n (q := 37) dX7_meanWaste_36 rfl rfl ?_
    refine K.getf (q := 40) (v := .ref 1) fo_X7_12.r rx0b (lt141 (by decide)) rfl dX7_meanWaste_37 rfl ?_
    refine K.getf (q := 43) (v := .ref 4) fo_X7_126 rb1 (lt141 (by decide)) rfl dX7_meanWaste_40 rfl ?_
    refine K.callV0 (q := 46) mkX3_allAmounts mw_X7_312 (s_X3_allAmounts _ _) rfl (by decide) rfl (lt141 (by decide)) rb4 (Nat.le_of_ble_eq_true rfl) (Nat.le_of_ble_eq_true rfl) (Nat.le_of_ble_eq_true rfl) dX7_meanWaste_43 rfl ?_
    refine K.isub (q := 47) dX7_meanWaste_46 rfl ?_
    refine K.i2d (q := 48) dX7_meanWaste_47 rfl ?_
    refine K.iload_n (q := 49) dX7_meanWaste_48 rfl rfl ?_
    refine K.i2d (q := 50) dX7_meanWaste_49 rfl ?_
    refine K.ddiv (q := 51) dX7_meanWaste_50 rfl (hnan c_12_1) ?_
    exact C.dret rfl (by rw [rT, if_pos (by rw [e_X7_meanWaste, if_pos c_12_1]), r_X7_meanWaste, if_pos c_12_1]) rfl (Nat.le_of_ble_eq_true rfl) (Nat.le_of_ble_eq_true rfl) dX7_meanWaste_51
  · exact (C.cast (by rw [rT, if_neg (by rw [e_X7_meanWaste, if_neg c_12_1]; decide), e_X7_meanWaste, if_neg c_12_1]) rfl).throwSW (is := 347) (text := "there are no loans") tok_AE (by decide) rfl (by decide) (Nat.le_of_ble_eq_true rfl) (Nat.le_of_ble_eq_true rfl) (Nat.le_of_ble_eq_true rfl) dX7_meanWaste_15 dX7_meanWaste_18 dX7_meanWaste_19 dX7_meanWaste_22 dX7_meanWaste_25

def r_X7_lentShare (b : BD) : UInt32 := (FP.fdiv (FP.i2f (r_X3_allSizes b)) 1115684864)
set_option maxRecDepth 20000 in
theorem s_X7_lentShare (X : GS) (b : BD) (hnan : vf_n32 (FP.fdiv (FP.i2f (r_X3_allSizes b)) 1115684864)) : Ct 4 0 0 yX7_lentShare (.code yX7_lentShare cX7_lentShare 1 (some (.float))) [.ref 0] (mkH (uB X 0 b)) (.inl (some (.float (r_X7_lentShare b)))) (mkH (uB X 0 b)) := by
  refine Ct.of (LL := [some (.ref 0)]) mkX7_lentShare.1 owX7_lentShare rfl (Nat.le_of_ble_eq_true rfl) rfl (fun Wk C => ?_)
  have K := C.core
  refine K.aload_n (q := 1) dX7_lentShare_0 rfl rfl ?_
  refine K.getf (q := 4) (v := .ref 1) fo_X7_12.r rx0b (lt141 (by decide)) rfl dX7_lentShare_1 rfl ?_
  refine K.getf (q := 7) (v := .ref 4) fo_X7_126 rb1 (lt141 (by decide)) rfl dX7_lentShare_4 rfl ?_
  refine K.callV0 (q := 10) mkX3_allSizes mw_X7_315 (s_X3_allSizes _ _) rfl (by decide) rfl (lt141 (by decide)) rb4 (Nat.le_of_ble_eq_true rfl) (Nat.le_of_ble_eq_true rfl) (Nat.le_of_ble_eq_true rfl) dX7_lentShare_7 rfl ?_
  refine K.i2f (q := 11) dX7_lentShare_10 rfl ?_
  refine K.ldcfW (q := 14) (v := 1115684864) fc_X7_350 dX7_lentShare_11 rfl ?_
  refine K.fdiv (q := 15) dX7_lentShare_14 rfl hnan ?_
  exact C.fret rfl (by rw [r_X7_lentShare]) rfl (Nat.le_of_ble_eq_true rfl) (Nat.le_of_ble_eq_true rfl) dX7_lentShare_15

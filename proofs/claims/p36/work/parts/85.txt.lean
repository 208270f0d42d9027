/-! ===== p36: put, isLine, faults ===== -/
theorem c7_append (X : GS) (c : Int32) (h : X.2.1 4 < 60) : Ct 6 1 6 yX7_append (.code yX7_append cX7_append 2 (some (.int))) [.ref 0, .int c] (mkH X) (.inl (some (.int (r_X7_append X c)))) (mkH (sApp X c)) := by
  have he : e_X7_append X = "" := by
    unfold e_X7_append r_X4_isFull
    rw [if_pos h, if_pos rfl]
  have h := ct_ok (s_X7_append X (X.1 0) c) he
  rw [uB_eta] at h
  exact h
theorem app_len {X : GS} {c : Int32} {m : Nat} (h : X.2.1 4 = nI m) (hm : m < 60) : (sApp X c).2.1 4 = nI (m + 1) := by
  have h60 : X.2.1 4 < 60 := by rw [h]; exact nI_lt (b := 60) hm (by decide)
  show (x_X7_append X c).2.1 4 = _
  unfold x_X7_append r_X4_isFull x_X4_addSign
  rw [if_pos h60, if_pos rfl, if_neg (by rw [h]; exact nI_pos (by omega)), if_neg (Int32.not_le.mpr h60)]
  show up X.2.1 4 (X.2.1 4 + 1) 4 = nI (m + 1)
  rw [up_self, h, ← nI_succ]
set_option maxRecDepth 20000 in
theorem L_put {sa sd m0 : Nat} {tx : List Int32} {X : GS} (hcc : ∀ c ∈ tx, cch c = c) (h0 : X.2.1 4 = nI m0) (h60 : m0 + tx.length ≤ 60) : CtG (PrS sa sd tx) 7 60 360 yL_put (.code yL_put cL_put 3 none) [.ref 0, .ref (sa + 1000)] (mkH X) (.inl none) (mkH (typ tx X)) := by
  refine CtG.of (LL := [some (.ref 0), some (.ref (sa + 1000)), none]) mkL_put.1 owL_put rfl (Nat.le_of_ble_eq_true rfl) rfl (fun Wk C => ?_)
  have G := C.cog
  have K := G.core
  have LP : ∀ (t : List Int32) (i : Nat) (Y : GS) (k n : Nat), tx.drop i = t → i + t.length = tx.length → Y.2.1 4 = nI (m0 + i) → typ t Y = typ tx X → k + t.length ≤ 60 → n + 6 * t.length ≤ 360 → Wk k n 2 [some (.ref 0), some (.ref (sa + 1000)), some (.int (nI i))] [] (mkH Y) := by
    intro t
    induction t with
    | nil =>
      intro i Y k n hd hi hY he hk hn
      have hi2 : i = tx.length := by simpa using hi
      have hY2 : Y = typ tx X := he
      rw [hi2, hY2]
      refine K.iload_n (q := 3) dL_put_2 rfl rfl ?_
      refine K.aload_n (q := 4) dL_put_3 rfl rfl ?_
      refine G.callVo (av := []) (S := [.int (nI tx.length)]) (q := 7) prS_ok (fun g s h => h.1) mkJ0_length_8abf5 mw_L_7 (j_length _) rfl (by decide) rfl (Nat.le_of_ble_eq_true rfl) (by omega) (by omega) dL_put_4 rfl ?_
      refine K.icmp_ge (q := 10) (tgt := 26) dL_put_7 rfl (by decide) (fun _ => ?_) (fun h => absurd (nI_le (Nat.le_refl _) (by omega)) h)
      exact C.okm.vret rfl rfl rfl (by omega) (by omega) dL_put_26
    | cons c t ih =>
      intro i Y k n hd hi hY he hk hn
      have hl : (c :: t).length = t.length + 1 := rfl
      rw [hl] at hi hk hn
      have hit : i < tx.length := by omega
      have hci : tx.getD i 0 = c := by
        have h9 : (tx.drop i)[0]? = some c := by rw [hd]; rfl
        rw [List.getElem?_drop, Nat.add_zero] at h9
        rw [List.getD_eq_getElem?_getD, h9]
        rfl
      have hcm : c ∈ tx := by
        have : c ∈ tx.drop i := by rw [hd]; exact List.mem_cons_self
        exact List.mem_of_mem_drop this
      refine K.iload_n (q := 3) dL_put_2 rfl rfl ?_
      refine K.aload_n (q := 4) dL_put_3 rfl rfl ?_
      refine G.callVo (av := []) (S := [.int (nI i)]) (q := 7) prS_ok (fun g s h => h.1) mkJ0_length_8abf5 mw_L_7 (j_length _) rfl (by decide) rfl (Nat.le_of_ble_eq_true rfl) (by omega) (by omega) dL_put_4 rfl ?_
      refine K.icmp_ge (q := 10) (tgt := 26) dL_put_7 rfl (by decide) (fun h => absurd h (nleN hit (by omega))) (fun _ => ?_)
      refine K.aload_n (q := 11) dL_put_10 rfl rfl ?_
      refine K.aload_n (q := 12) dL_put_11 rfl rfl ?_
      refine K.iload_n (q := 13) dL_put_12 rfl rfl ?_
      refine G.callVo (av := [.int (nI i)]) (S := [.ref 0]) (q := 16) prS_ok (fun g s h => h.1) mkJ0_charAt_5068e mw_L_13 (j_charAt _ hit (by omega)) rfl (by decide) rfl (Nat.le_of_ble_eq_true rfl) (by omega) (by omega) dL_put_13 rfl ?_
      rw [hci, hcc c hcm]
      refine K.callV (S := []) (q := 19) mkX7_append mw_L_17 (c7_append Y c (by rw [hY]; exact nI_lt (b := 60) (by omega) (by decide))) rfl (by decide) rfl (lt141 (by decide)) rx0 (Nat.le_of_ble_eq_true rfl) (by omega) (by omega) dL_put_16 rfl ?_
      refine K.pop (q := 20) dL_put_19 rfl rfl ?_
      refine K.iinc (q := 23) (v := nI (i + 1)) dL_put_20 rfl rfl (nI_inc _) (by decide) rfl ?_
      refine K.goto (tgt := 2) dL_put_23 (by decide) ?_
      exact ih (i + 1) (sApp Y c) (k + 1) (n + 6) (by rw [← List.drop_drop, hd]; rfl) (by omega) (app_len (m := m0 + i) hY (by omega)) he (by omega) (by omega)
  refine K.iconst (q := 1) (v := 0) dL_put_0 rfl (by decide) ?_
  refine K.istore_n (q := 2) (i := 2) dL_put_1 rfl rfl (by decide) rfl ?_
  exact LP tx 0 X 0 0 rfl (by omega) (by rw [h0, Nat.add_zero]) rfl (by omega) (by omega)
theorem c7_character (X : GS) (i : Int32) (he : e_X7_character X i = "") (hch : ∀ i : Nat, narrow .char (.int (X.2.2.1 0 i)) = .int (X.2.2.1 0 i)) : Ct 6 1 6 yX7_character (.code yX7_character cX7_character 2 (some (.char))) [.ref 0, .int i] (mkH X) (.inl (some (.int (r_X7_character X i)))) (mkH X) := by
  have h := ct_ok (s_X7_character X (X.1 0) i hch) he
  rw [uB_eta] at h
  exact h
theorem isL_at {X : GS} : ∀ (t : List Int32) (k : Nat), isL X k t = true → ∀ j, j < t.length → e_X7_character X (nI (k + j)) = "" ∧ r_X7_character X (nI (k + j)) = t.getD j 0
  | [], _, _, j, hj => absurd hj (Nat.not_lt_zero j)
  | c :: t, k, h, j, hj => by
    rw [isL, Bool.and_eq_true, Bool.and_eq_true] at h
    obtain ⟨h1, h2, h3⟩ := h
    cases j with
    | zero => exact ⟨of_decide_eq_true h1, of_decide_eq_true h2⟩
    | succ j =>
      have h9 := isL_at t (k + 1) h3 j (by simpa using hj)
      rw [show k + (j + 1) = k + 1 + j by omega]
      exact h9
set_option maxRecDepth 20000 in
theorem L_isLine {sa sd : Nat} {tx : List Int32} {X : GS} (hcc : ∀ c ∈ tx, cch c = c) (hl : tx.length ≤ 60) (hL : isL X 0 tx = true) (hch : ∀ i : Nat, narrow .char (.int (X.2.2.1 0 i)) = .int (X.2.2.1 0 i)) : CtG (PrS sa sd tx) 7 60 360 yL_isLine (.code yL_isLine cL_isLine 4 (some (.boolean))) [.ref 0, .int (nI tx.length), .ref (sa + 1000)] (mkH X) (.inl (some (.int 1))) (mkH X) := by
  refine CtG.of (LL := [some (.ref 0), some (.int (nI tx.length)), some (.ref (sa + 1000)), none]) mkL_isLine.1 owL_isLine rfl (Nat.le_of_ble_eq_true rfl) rfl (fun Wk C => ?_)
  have G := C.cog
  have K := G.core
  have hA := isL_at tx 0 hL
  have LP : ∀ (j i k n : Nat), i + j = tx.length → k + j ≤ 60 → n + 6 * j ≤ 360 → Wk k n 12 [some (.ref 0), some (.int (nI tx.length)), some (.ref (sa + 1000)), some (.int (nI i))] [] (mkH X) := by
    intro j
    induction j with
    | zero =>
      intro i k n hi hk hn
      have hi2 : i = tx.length := hi
      rw [hi2]
      refine K.iload_n (q := 13) dL_isLine_12 rfl rfl ?_
      refine K.iload_n (q := 14) dL_isLine_13 rfl rfl ?_
      refine K.icmp_ge (q := 17) (tgt := 38) dL_isLine_14 rfl (by decide) (fun _ => ?_) (fun h => absurd (nI_le (Nat.le_refl _) (by omega)) h)
      refine K.iconst (q := 39) (v := 1) dL_isLine_38 rfl (by decide) ?_
      exact C.okm.iret rfl rfl rfl rfl (by omega) (by omega) dL_isLine_39
    | succ j ih =>
      intro i k n hi hk hn
      have hit : i < tx.length := by omega
      obtain ⟨h1, h2⟩ := hA i hit
      rw [Nat.zero_add] at h1 h2
      have hcm : tx.getD i 0 ∈ tx := by
        rw [List.getD_eq_getElem?_getD, List.getElem?_eq_getElem hit]
        exact List.getElem_mem hit
      refine K.iload_n (q := 13) dL_isLine_12 rfl rfl ?_
      refine K.iload_n (q := 14) dL_isLine_13 rfl rfl ?_
      refine K.icmp_ge (q := 17) (tgt := 38) dL_isLine_14 rfl (by decide) (fun h => absurd h (nleN hit (by omega))) (fun _ => ?_)
      refine K.aload_n (q := 18) dL_isLine_17 rfl rfl ?_
      refine K.iload_n (q := 19) dL_isLine_18 rfl rfl ?_
      refine K.callV (S := []) (q := 22) mkX7_character mw_L_211 (c7_character X _ h1 hch) rfl (by decide) rfl (lt141 (by decide)) rx0 (Nat.le_of_ble_eq_true rfl) (by omega) (by omega) dL_isLine_19 rfl ?_
      rw [h2]
      refine K.aload_n (q := 23) dL_isLine_22 rfl rfl ?_
      refine K.iload_n (q := 24) dL_isLine_23 rfl rfl ?_
      refine G.callVo (av := [.int (nI i)]) (S := [.int (tx.getD i 0)]) (q := 27) prS_ok (fun g s h => h.1) mkJ0_charAt_5068e mw_L_13 (j_charAt _ hit (by omega)) rfl (by decide) rfl (Nat.le_of_ble_eq_true rfl) (by omega) (by omega) dL_isLine_24 rfl ?_
      rw [hcc _ hcm]
      refine K.icmp_eq (q := 30) (tgt := 32) dL_isLine_27 rfl (by decide) (fun _ => ?_) (fun h => absurd rfl h)
      refine K.iinc (q := 35) (v := nI (i + 1)) dL_isLine_32 rfl rfl (nI_inc _) (by decide) rfl ?_
      refine K.goto (tgt := 12) dL_isLine_35 (by decide) ?_
      exact ih (i + 1) (k + 1) (n + 6) (by omega) (by omega) (by omega)
  refine K.iload_n (q := 1) dL_isLine_0 rfl rfl ?_
  refine K.aload_n (q := 2) dL_isLine_1 rfl rfl ?_
  refine G.callVo (av := []) (S := [.int (nI tx.length)]) (q := 5) prS_ok (fun g s h => h.1) mkJ0_length_8abf5 mw_L_7 (j_length _) rfl (by decide) rfl (Nat.le_of_ble_eq_true rfl) (by omega) (by omega) dL_isLine_2 rfl ?_
  refine K.icmp_eq (q := 8) (tgt := 10) dL_isLine_5 rfl (by decide) (fun _ => ?_) (fun h => absurd rfl h)
  refine K.iconst (q := 11) (v := 0) dL_isLine_10 rfl (by decide) ?_
  refine K.istore_n (q := 12) (i := 3) dL_isLine_11 rfl rfl (by decide) rfl ?_
  exact LP tx.length 0 0 0 (by omega) (by omega) (by omega)
theorem c7_err (X : GS) : Ct 1 0 0 yX7_errorPosition (.code yX7_errorPosition cX7_errorPosition 1 (some (.int))) [.ref 0] (mkH X) (.inl (some (.int (r_X7_errorPosition X)))) (mkH X) := by
  have h := s_X7_errorPosition X (X.1 0)
  rw [uB_eta] at h
  exact h
theorem L_faults {sa sd : Nat} {tx : List Int32} {X : GS} {place : Int32} (hcc : ∀ c ∈ tx, cch c = c) (h0 : X.2.1 4 = 0) (h60 : tx.length ≤ 60) (hok : okI ((typ tx X).2.1 0)) (hq : (m_X7_run (typ tx X) ((typ tx X).1 0)).isSome = true) (he : (rnQ (typ tx X)).1 = "java/lang/IllegalArgumentException") (hp : r_X7_errorPosition (rnS (typ tx X)) = place) :
    CtG (PrS sa sd tx) 10 61 366 yL_faults (.code yL_faults cL_faults 3 (some (.boolean))) [.ref 0, .ref (sa + 1000), .int place] (mkH X) (.inl (some (.int 1))) (mkH (rnS (typ tx X))) := by
  refine CtG.of (LL := [some (.ref 0), some (.ref (sa + 1000)), some (.int place)]) mkL_faults.1 owL_faults rfl (Nat.le_of_ble_eq_true rfl) rfl (fun Wk C => ?_)
  have G := C.cog
  have K := G.core
  refine K.aload_n (q := 1) dL_faults_0 rfl rfl ?_
  refine K.aload_n (q := 2) dL_faults_1 rfl rfl ?_
  refine G.callSv (S := []) (q := 5) prS_ok mkL_put mw_L_160 (L_put (m0 := 0) hcc h0 (by omega)) rfl (by decide) rfl (Nat.le_of_ble_eq_true rfl) (by omega) (by omega) dL_faults_2 rfl ?_
  refine K.aload_n (q := 6) dL_faults_5 rfl rfl ?_
  refine K.callSH (S := []) (q := 9) mkL_runs owL_runs swL_runs (by decide) mw_L_173 (L_runs_a hok hq he) rfl (by decide) rfl (Nat.le_of_ble_eq_true rfl) (by omega) (by omega) dL_faults_6 rfl ?_
  refine K.iconst (q := 10) (v := (-1)) dL_faults_9 rfl (by decide) ?_
  refine K.icmp_ne (q := 13) (tgt := 25) dL_faults_10 rfl (by decide) (fun h => absurd rfl h) (fun _ => ?_)
  refine K.aload_n (q := 14) dL_faults_13 rfl rfl ?_
  refine K.callV0 (S := []) (q := 17) mkX7_errorPosition mw_L_167 (c7_err _) rfl (by decide) rfl (lt141 (by decide)) rx0 (Nat.le_of_ble_eq_true rfl) (by omega) (by omega) dL_faults_14 rfl ?_
  rw [hp]
  refine K.iload_n (q := 18) dL_faults_17 rfl rfl ?_
  refine K.icmp_ne (q := 21) (tgt := 25) dL_faults_18 rfl (by decide) (fun h => absurd rfl h) (fun _ => ?_)
  refine K.iconst (q := 22) (v := 1) dL_faults_21 rfl (by decide) ?_
  refine K.goto (tgt := 26) dL_faults_22 (by decide) ?_
  exact C.okm.iret rfl rfl rfl rfl (by omega) (by omega) dL_faults_26

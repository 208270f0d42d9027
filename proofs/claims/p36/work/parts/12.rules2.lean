/-! ===== rules with natural indices; reading and writing the cells of the state ===== -/
theorem cl_nI {x : Int32} (h : ¬ x < 0) : x = nI x.toNatClampNeg := by
  obtain ⟨j, hj, rfl⟩ := nI_of h
  rw [nI_clamp hj]
theorem cl_lt {x : Int32} {n : Nat} (h0 : ¬ x < 0) (h1 : ¬ nI n ≤ x) (hn : n < 2147483648) : x.toNatClampNeg < n := by
  obtain ⟨j, hj, rfl⟩ := nI_of h0
  rw [nI_clamp hj]
  exact Nat.not_le.mp (fun h => h1 ((nI_leI hn hj).mpr h))
theorem cl_bound {B : Int32} : B.toNatClampNeg < 2147483648 := by
  by_cases h : B < 0
  · have h1 : B.toInt < 0 := by simpa [Int32.lt_iff_toInt_lt] using h
    have : B.toNatClampNeg = 0 := by
      show B.toInt.toNat = 0
      omega
    omega
  · obtain ⟨j, hj, rfl⟩ := nI_of h
    rw [nI_clamp hj]
    exact hj
theorem cl_in {B : Int32} {i : Nat} (h : i < B.toNatClampNeg) : nI i < B := by
  have h0 : ¬ B < 0 := by
    intro h0
    have h1 : B.toInt < 0 := by simpa [Int32.lt_iff_toInt_lt] using h0
    have : B.toNatClampNeg = 0 := by
      show B.toInt.toNat = 0
      omega
    omega
  obtain ⟨j, hj, rfl⟩ := nI_of h0
  rw [nI_clamp hj] at h
  exact nI_lt h hj
theorem cl_out {B : Int32} {i : Nat} (h : i = B.toNatClampNeg) : ¬ nI i < B := by
  subst h
  by_cases h0 : B < 0
  · have h1 : B.toInt < 0 := by simpa [Int32.lt_iff_toInt_lt] using h0
    have : B.toNatClampNeg = 0 := by
      show B.toInt.toNat = 0
      omega
    rw [this]
    intro h2
    have h3 : (nI 0).toInt < B.toInt := by simpa [Int32.lt_iff_toInt_lt] using h2
    rw [nI_toInt (by decide)] at h3
    omega
  · obtain ⟨j, hj, rfl⟩ := nI_of h0
    rw [nI_clamp hj]
    exact fun h => Int32.lt_irrefl h
theorem cl_ge {B : Int32} {i : Nat} (h : i = B.toNatClampNeg) : B ≤ nI i := Int32.not_lt.mp (cl_out h)
theorem cl_nge {B : Int32} {i : Nat} (h : i < B.toNatClampNeg) : ¬ B ≤ nI i := fun h1 => Int32.not_lt.mpr h1 (cl_in h)
theorem lt141 {X : GS} {i : Nat} (h : i < 131) : i < (mkH X).2.1 := h
section
variable {own : String} {cc : ByteArray} {nL d kc ks : Nat} {Wk : tW} {k n pc q : Nat} {L : List (Option Value)} {S : List Value} {H H' : aH}
theorem upd_up {f : Nat → Int32} {m : Nat} {v : Int32} : upd f m v = up f m v := by funext j; rfl
theorem updL_up {f : Nat → Int64} {m : Nat} {v : Int64} : vp_updL f m v = up f m v := by funext j; rfl
theorem updD_up {f : Nat → UInt64} {m : Nat} {v : UInt64} : vf_upd f m v = up f m v := by funext j; rfl
theorem Core.ial (C : Core own cc nL d kc ks Wk) {i len m : Nat} {f : Nat → Int32} {x : Int32} (hH : H.2.2 i = .inl (0, len, .inl f)) (hi : i < H.2.1) (hx : x = nI m) (hm : m < len) (h31 : len < 2147483648) (dg : decode cc pc = .ok (.iaload, 1)) (hq : pc + 1 = q) (kk : Wk k n q L (.int (f m) :: S) H) : Wk k n pc L (.int x :: .ref i :: S) H := by
  subst hx
  refine C.iald hH hi (vp_in_nI hm h31) dg hq ?_
  rw [nI_clamp (by omega)]
  exact kk
theorem Core.cal (C : Core own cc nL d kc ks Wk) {i len m : Nat} {f : Nat → Int32} {x : Int32} (hH : H.2.2 i = .inl (1, len, .inl f)) (hi : i < H.2.1) (hx : x = nI m) (hm : m < len) (h31 : len < 2147483648) (dg : decode cc pc = .ok (.caload, 1)) (hq : pc + 1 = q) (kk : Wk k n q L (.int (f m) :: S) H) : Wk k n pc L (.int x :: .ref i :: S) H := by
  subst hx
  refine C.cald hH hi (vp_in_nI hm h31) dg hq ?_
  rw [nI_clamp (by omega)]
  exact kk
theorem Core.aal (C : Core own cc nL d kc ks Wk) {i len m : Nat} {f : Nat → Option Nat} {x : Int32} (hH : H.2.2 i = .inl (4, len, .inr (.inr (.inr (.inr f))))) (hi : i < H.2.1) (hx : x = nI m) (hm : m < len) (h31 : len < 2147483648) (dg : decode cc pc = .ok (.aaload, 1)) (hq : pc + 1 = q) (kk : Wk k n q L (va_rf (f m) :: S) H) : Wk k n pc L (.int x :: .ref i :: S) H := by
  subst hx
  refine C.aldq hH hi (vp_in_nI hm h31) dg hq ?_
  rw [nI_clamp (by omega)]
  exact kk
theorem Core.ias (C : Core own cc nL d kc ks Wk) {i len m : Nat} {f : Nat → Int32} {x y : Int32} (hH : H.2.2 i = .inl (0, len, .inl f)) (hi : i < H.2.1) (hx : x = nI m) (hm : m < len) (h31 : len < 2147483648) (hs : sH H i (.inl (0, len, .inl (up f m y))) = H') (dg : decode cc pc = .ok (.iastore, 1)) (hq : pc + 1 = q) (kk : Wk k n q L S H') : Wk k n pc L (.int y :: .int x :: .ref i :: S) H := by
  subst hx
  refine C.iast hH hi (vp_in_nI hm h31) ?_ dg hq kk
  rw [nI_clamp (by omega), upd_up]
  exact hs
theorem Core.cas (C : Core own cc nL d kc ks Wk) {i len m : Nat} {f : Nat → Int32} {x y : Int32} (hH : H.2.2 i = .inl (1, len, .inl f)) (hi : i < H.2.1) (hfr : H.1 = false) (hx : x = nI m) (hm : m < len) (h31 : len < 2147483648) (hs : sH H i (.inl (1, len, .inl (up f m (vp_nar .char y)))) = H') (dg : decode cc pc = .ok (.castore, 1)) (hq : pc + 1 = q) (kk : Wk k n q L S H') : Wk k n pc L (.int y :: .int x :: .ref i :: S) H := by
  subst hx
  refine C.cast hH hi hfr (vp_in_nI hm h31) ?_ dg hq kk
  rw [nI_clamp (by omega), upd_up]
  exact hs
end

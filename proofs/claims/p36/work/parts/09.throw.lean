/-! ===== THE LAYER, 5: throws ===== -/
def thr (w : Cond) : Bool := goodWord w || (match w with
  | .castable _ _ => true
  | .declares _ => true
  | _ => false)
theorem Cx.tword {p : Program} {l : Launch} {R : Room} {s : State} {m : MethodId} {meth : Method} {c : Code} {g : Nat × Nat} {ca : Nat → ClassId} {D : va_G} {sL : State} {own : String} {cc : ByteArray} {nL d kc ks : Nat} (X : Cx p l R s m meth c g ca D sL own cc nL d kc ks) {w : Cond} (h : w ∈ lw_tbl) (ht : thr w = true) (a : Array Value) : w.before a s = true := by
  by_cases hg : goodWord w = true
  · exact X.word ⟨h, hg⟩ a
  · obtain ⟨-, ⟨a0, h0⟩, -⟩ := X.1
    unfold thr at ht
    rw [show goodWord w = false from by cases h9 : goodWord w; rfl; exact absurd h9 hg, Bool.false_or] at ht
    cases w <;> first | exact va_Nw.use rfl (va_Nw.warmC X.2.1 (va_Nw.of rfl (h0 _ h))) | exact va_Nw.use rfl (va_Nw.warmD X.2.1 (va_Nw.of rfl (h0 _ h))) | exact absurd ht (by decide) | cases ht
def ups : List String := ["java/lang/RuntimeException", "java/lang/Exception"]
def TOk (ik ic : Nat) (cls : String) : Prop := wok (.classLink RX7 ik cls) ∧ wok (.initialized cls) ∧ (∀ w ∈ vx_atS RX7 ic cls ups, w ∈ lw_tbl ∧ thr w = true ∧ vx_ot w = true) ∧ Bundle.fit cls = true
theorem ups_fit : ∀ n ∈ ups, Bundle.fit n = true := by decide +kernel
section
variable {cc : ByteArray} {nL d kc ks : Nat} {Wk : tW} {k n pc q : Nat} {L : List (Option Value)} {S St : List Value} {H H' H2 : aH} {ret : Option FieldType} {ini : Bool} {E : String}
theorem wld_more {g : Nat × Nat} {ca : Nat → ClassId} {D : va_G} {H : aH} {Hr H1 : Heap} (h : wld g ca D H Hr) (hf : H.1 = false) (o1 : ∀ q : Nat, q < Hr.size → H1[q]? = Hr[q]?) : wld g ca D H H1 :=
  ⟨h.1, h.2.1.kept (fun k x hx => o1 x.1 ((h.2.1 k x hx).lt)), fun h9 => by rw [hf] at h9; cases h9⟩
theorem OkM.throwS {ik is ic : Nat} {text : String} (C : OkM RX7 cc nL d kc ks ret [] ini (.inr E) H Wk) (hT : TOk ik ic E) (hs : (is, text) ∈ strs) (hfr : H.1 = false) (hd : 6 ≤ d) (hsum : (S.map fun v => v.category).sum ≤ 8) (hk : k + 1 ≤ kc) (hn : n + 6 ≤ ks)
    (d0 : decode cc pc = .ok (.new ik, 3)) (d3 : decode cc (pc + 3) = .ok (.dup, 1)) (d4 : decode cc (pc + 4) = .ok (.ldc is, 2)) (d6 : decode cc (pc + 6) = .ok (.invokespecial ic, 3)) (d9 : decode cc (pc + 9) = .ok (.athrow, 1)) : Wk k n pc L S H := by
  obtain ⟨p, l, e, R, s, m, args, below, meth, c, g, ca, D, sL, X, ht, -, -, rfl⟩ := C
  obtain ⟨t1, t2, t3, t4⟩ := hT
  obtain ⟨sa, hsa⟩ := X.str hs
  intro Hr locs ls hN hS hl
  have h1 := X.frames
  have h2 := X.locals
  refine vx_throwS (own := RX7) (cls := E) (names := ups) (A := aD g) X.exec X.code X.1.1 X.ow t4 ups_fit (X.word t1 args) (X.word t2 args) hsa (fun w hw => X.tword (t3 w hw).1 (t3 w hw).2.1 args) (fun w hw => ?_) X.zU X.zN hS (hl.1.trans X.max.symm) d0 d3 d4 d6 d9 (fun x hx => by rw [ht] at hx; exact nomatch hx)
    (by show 2 + 3 < R.frames; omega) (by rw [sum_rv]; show _ + (13 * (2 + 1) + 43) ≤ R.locals; omega) (Nat.le_trans hk X.cells) (Nat.le_trans hn X.slots) X.locks (fun t hA hz ho => ⟨rfl, wld_more hN hfr ho, ⟨Nat.le_trans hS.1 hz, fun q h9 h8 => (ho q (Nat.lt_of_lt_of_le h9 hS.1)).trans (hS.2.1 q h9 h8)⟩⟩) hS.2.2 hk hn
  rcases List.mem_cons.mp hw with rfl | hw
  · rfl
  · rcases List.mem_cons.mp hw with rfl | hw
    · rfl
    · exact (t3 w hw).2.2
theorem OkM.throwSW {ik is ic : Nat} {text : String} (C : OkM RX7 cc nL d kc ks ret [] ini (.inr E) H Wk) (hT : TOk ik ic E) (hs : (is, text) ∈ strs) (hfr : H.1 = false) (hd : 6 ≤ d) (hsum : (S.map fun v => v.category).sum ≤ 8) (hk : k + 1 ≤ kc) (hn : n + 6 ≤ ks)
    (d0 : decode cc pc = .ok (.new ik, 3)) (d3 : decode cc (pc + 3) = .ok (.dup, 1)) (d4 : decode cc (pc + 4) = .ok (.ldc_w is, 3)) (d6 : decode cc (pc + 7) = .ok (.invokespecial ic, 3)) (d9 : decode cc (pc + 10) = .ok (.athrow, 1)) : Wk k n pc L S H := by
  obtain ⟨p, l, e, R, s, m, args, below, meth, c, g, ca, D, sL, X, ht, -, -, rfl⟩ := C
  obtain ⟨t1, t2, t3, t4⟩ := hT
  obtain ⟨sa, hsa⟩ := X.str hs
  intro Hr locs ls hN hS hl
  have h1 := X.frames
  have h2 := X.locals
  refine vx_throwSW (own := RX7) (cls := E) (names := ups) (A := aD g) X.exec X.code X.1.1 X.ow t4 ups_fit (X.word t1 args) (X.word t2 args) hsa (fun w hw => X.tword (t3 w hw).1 (t3 w hw).2.1 args) (fun w hw => ?_) X.zU X.zN hS (hl.1.trans X.max.symm) d0 d3 d4 d6 d9 (fun x hx => by rw [ht] at hx; exact nomatch hx)
    (by show 2 + 3 < R.frames; omega) (by rw [sum_rv]; show _ + (13 * (2 + 1) + 43) ≤ R.locals; omega) (Nat.le_trans hk X.cells) (Nat.le_trans hn X.slots) X.locks (fun t hA hz ho => ⟨rfl, wld_more hN hfr ho, ⟨Nat.le_trans hS.1 hz, fun q h9 h8 => (ho q (Nat.lt_of_lt_of_le h9 hS.1)).trans (hS.2.1 q h9 h8)⟩⟩) hS.2.2 hk hn
  rcases List.mem_cons.mp hw with rfl | hw
  · rfl
  · rcases List.mem_cons.mp hw with rfl | hw
    · rfl
    · exact (t3 w hw).2.2
end
theorem tok_IOOBE : TOk 113 117 "java/lang/IndexOutOfBoundsException" := ⟨kw_X7_113, iw_IndexOutOfBoundsException, by decide +kernel, by decide +kernel⟩
theorem tok_IAE : TOk 147 151 "java/lang/IllegalArgumentException" := ⟨kw_X7_147, iw_IllegalArgumentException, by decide +kernel, by decide +kernel⟩
theorem tok_UOE : TOk 302 306 "java/lang/UnsupportedOperationException" := ⟨kw_X7_302, iw_UnsupportedOperationException, by decide +kernel, by decide +kernel⟩
theorem tok_ISE : TOk 263 267 "java/lang/IllegalStateException" := ⟨kw_X7_263, iw_IllegalStateException, by decide +kernel, by decide +kernel⟩
theorem tok_AE : TOk 345 349 "java/lang/ArithmeticException" := ⟨kw_X7_345, iw_ArithmeticException, by decide +kernel, by decide +kernel⟩

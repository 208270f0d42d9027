/-! ===== programs in the style of Option ===== -/
abbrev inR (x : Int32) (n : Nat) : Prop := ¬ x < 0 ∧ x.toNatClampNeg < n
theorem chk_inv {α : Type} {p : Prop} [Decidable p] {e : Option α} {r : α} (h : (if p then e else none) = some r) : p ∧ e = some r := by
  by_cases hp : p
  · rw [if_pos hp] at h; exact ⟨hp, h⟩
  · rw [if_neg hp] at h; cases h
def bnd1 {α γ : Type} (o : Option α) (f : α → Option γ) : Option γ := match o with
  | some a => f a
  | none => none
def bnd2 {α β γ : Type} (o : Option (α × β)) (f : α → β → Option γ) : Option γ := match o with
  | some (a, b) => f a b
  | none => none
def bnd3 {α β δ γ : Type} (o : Option (α × β × δ)) (f : α → β → δ → Option γ) : Option γ := match o with
  | some (a, b, c) => f a b c
  | none => none
def bnd4 {α β δ ε γ : Type} (o : Option (α × β × δ × ε)) (f : α → β → δ → ε → Option γ) : Option γ := match o with
  | some (a, b, c, d) => f a b c d
  | none => none
def bnd5 {α β δ ε ζ γ : Type} (o : Option (α × β × δ × ε × ζ)) (f : α → β → δ → ε → ζ → Option γ) : Option γ := match o with
  | some (a, b, c, d, e) => f a b c d e
  | none => none
theorem bnd1_inv {α γ : Type} {o : Option α} {f : α → Option γ} {r : γ} (h : bnd1 o f = some r) : ∃ a, o = some a ∧ f a = some r := by
  cases o with
  | none => cases h
  | some a => exact ⟨a, rfl, h⟩
theorem bnd2_inv {α β γ : Type} {o : Option (α × β)} {f : α → β → Option γ} {r : γ} (h : bnd2 o f = some r) : ∃ a b, o = some (a, b) ∧ f a b = some r := by
  cases o with
  | none => cases h
  | some a => exact ⟨a.1, a.2, rfl, h⟩
theorem bnd3_inv {α β δ γ : Type} {o : Option (α × β × δ)} {f : α → β → δ → Option γ} {r : γ} (h : bnd3 o f = some r) : ∃ a b c, o = some (a, b, c) ∧ f a b c = some r := by
  cases o with
  | none => cases h
  | some a => exact ⟨a.1, a.2.1, a.2.2, rfl, h⟩
theorem bnd4_inv {α β δ ε γ : Type} {o : Option (α × β × δ × ε)} {f : α → β → δ → ε → Option γ} {r : γ} (h : bnd4 o f = some r) : ∃ a b c d, o = some (a, b, c, d) ∧ f a b c d = some r := by
  cases o with
  | none => cases h
  | some a => exact ⟨a.1, a.2.1, a.2.2.1, a.2.2.2, rfl, h⟩
theorem bnd5_inv {α β δ ε ζ γ : Type} {o : Option (α × β × δ × ε × ζ)} {f : α → β → δ → ε → ζ → Option γ} {r : γ} (h : bnd5 o f = some r) : ∃ a b c d e, o = some (a, b, c, d, e) ∧ f a b c d e = some r := by
  cases o with
  | none => cases h
  | some a => exact ⟨a.1, a.2.1, a.2.2.1, a.2.2.2.1, a.2.2.2.2, rfl, h⟩
theorem ret1_inv {α : Type} {a a' : α} (h : some a = some a') : a = a' := Option.some.inj h
theorem ret2_inv {α β : Type} {a a' : α} {b b' : β} (h : some (a, b) = some (a', b')) : a = a' ∧ b = b' := by cases h; exact ⟨rfl, rfl⟩
theorem ret3_inv {α β δ : Type} {a a' : α} {b b' : β} {c c' : δ} (h : some (a, b, c) = some (a', b', c')) : a = a' ∧ b = b' ∧ c = c' := by cases h; exact ⟨rfl, rfl, rfl⟩
theorem ret4_inv {α β δ ε : Type} {a a' : α} {b b' : β} {c c' : δ} {d d' : ε} (h : some (a, b, c, d) = some (a', b', c', d')) : a = a' ∧ b = b' ∧ c = c' ∧ d = d' := by cases h; exact ⟨rfl, rfl, rfl, rfl⟩
theorem ret5_inv {α β δ ε ζ : Type} {a a' : α} {b b' : β} {c c' : δ} {d d' : ε} {e e' : ζ} (h : some (a, b, c, d, e) = some (a', b', c', d', e')) : a = a' ∧ b = b' ∧ c = c' ∧ d = d' ∧ e = e' := by cases h; exact ⟨rfl, rfl, rfl, rfl, rfl⟩
def elseE {α γ : Type} (e : Option α) (f : α → Option γ) (g : Option γ) : Option γ := match e with
  | some v => f v
  | none => g
theorem elseE_none {α γ : Type} {e : Option α} {f : α → Option γ} {g : Option γ} {r : γ} (he : e = none) (h : elseE e f g = some r) : g = some r := by subst he; exact h
theorem elseE_some {α γ : Type} {e : Option α} {f : α → Option γ} {g : Option γ} {r : γ} {v : α} (he : e = some v) (h : elseE e f g = some r) : f v = some r := by subst he; exact h
theorem mkH_uB {X X' : GS} {b b' : BD} (h1 : X = X') (h2 : b = b') : mkH (uB X 0 b) = mkH (uB X' 0 b') := by rw [h1, h2]
theorem rT_ok {e : String} {v w : Option Value} (h : "" = e) (hw : v = w) : rT e w = .inl v := by subst h; subst hw; rfl
theorem rT_ex {e E : String} {v : Option Value} (h : E = e) (hn : ¬ E = "") : rT e v = .inr E := by subst h; rw [rT, if_neg hn]
theorem Core.iaddE {own : String} {cc : ByteArray} {nL d kc ks : Nat} {Wk : tW} {k n pc q : Nat} {L : List (Option Value)} {S : List Value} {H : aH} (C : Core own cc nL d kc ks Wk) {x y z : Int32} (hz : x + y = z) (dg : decode cc pc = .ok (.iadd, 1)) (hq : pc + 1 = q) (kk : Wk k n q L (.int z :: S) H) : Wk k n pc L (.int y :: .int x :: S) H := by
  subst hz
  exact C.iadd dg hq kk

/-! what reading the orders changes -/
def fr4 (X Y : GS) : Prop := Y.1 = X.1 ∧ (∀ k, ¬ k = 3 → ¬ k = 4 → ¬ k = 5 → ¬ k = 6 → Y.2.1 k = X.2.1 k) ∧ (∀ k, ¬ k = 1 → ¬ k = 2 → ¬ k = 3 → ¬ k = 4 → Y.2.2.1 k = X.2.2.1 k) ∧ Y.2.2.2 = X.2.2.2
theorem fr4_refl (X : GS) : fr4 X X := ⟨rfl, fun _ _ _ _ _ => rfl, fun _ _ _ _ _ => rfl, rfl⟩
theorem fr4_uS {X Y : GS} (h : fr4 X Y) {k : Nat} (hk : k = 3 ∨ k = 4 ∨ k = 5 ∨ k = 6) (v : Int32) : fr4 X (uS Y k v) := by
  refine ⟨h.1, fun i h3 h4 h5 h6 => ?_, h.2.2.1, h.2.2.2⟩
  show up Y.2.1 k v i = _
  rw [up_ne (by rintro rfl; rcases hk with hk | hk | hk | hk <;> contradiction)]
  exact h.2.1 i h3 h4 h5 h6
theorem fr4_uA {X Y : GS} (h : fr4 X Y) {k : Nat} (hk : k = 1 ∨ k = 2 ∨ k = 3 ∨ k = 4) (v : Nat → Int32) : fr4 X (uA Y k v) := by
  refine ⟨h.1, h.2.1, fun i h3 h4 h5 h6 => ?_, h.2.2.2⟩
  show up Y.2.2.1 k v i = _
  rw [up_ne (by rintro rfl; rcases hk with hk | hk | hk | hk <;> contradiction)]
  exact h.2.2.1 i h3 h4 h5 h6
theorem fr4_ite {X Y Z : GS} {p : Prop} [Decidable p] (h1 : fr4 X Y) (h2 : fr4 X Z) : fr4 X (if p then Y else Z) := by
  split
  · exact h1
  · exact h2
theorem fr4_s3 {X Y : GS} (h : fr4 X Y) (v : Int32) : fr4 X (uS Y 3 v) := fr4_uS h (by decide) v
theorem fr4_s4 {X Y : GS} (h : fr4 X Y) (v : Int32) : fr4 X (uS Y 4 v) := fr4_uS h (by decide) v
theorem fr4_s5 {X Y : GS} (h : fr4 X Y) (v : Int32) : fr4 X (uS Y 5 v) := fr4_uS h (by decide) v
theorem fr4_s6 {X Y : GS} (h : fr4 X Y) (v : Int32) : fr4 X (uS Y 6 v) := fr4_uS h (by decide) v
theorem fr4_a1 {X Y : GS} (h : fr4 X Y) (v : Nat → Int32) : fr4 X (uA Y 1 v) := fr4_uA h (by decide) v
theorem fr4_a2 {X Y : GS} (h : fr4 X Y) (v : Nat → Int32) : fr4 X (uA Y 2 v) := fr4_uA h (by decide) v
theorem fr4_a3 {X Y : GS} (h : fr4 X Y) (v : Nat → Int32) : fr4 X (uA Y 3 v) := fr4_uA h (by decide) v
theorem fr4_put {X Y : GS} (h : fr4 X Y) (order kind first second : Int32) : fr4 X (x_X4_put Y order kind first second) := by
  unfold x_X4_put
  with_reducible repeat' first | exact h | apply fr4_ite | apply fr4_a1 | apply fr4_a2 | apply fr4_a3
theorem fr4_readDigit {X Y : GS} (h : fr4 X Y) : fr4 X (x_X4_readDigit Y) := by
  unfold x_X4_readDigit
  with_reducible repeat' first | exact h | apply fr4_ite | apply fr4_s5 | apply fr4_s6
theorem fr4_readSign {X Y : GS} (h : fr4 X Y) (due : Int32) : fr4 X (x_X4_readSign Y due) := by
  unfold x_X4_readSign
  with_reducible repeat' first | exact h | apply fr4_ite | apply fr4_s5
theorem fr4_readNumber {X Y : GS} (h : fr4 X Y) : fr4 X (x_X4_readNumber Y) := by
  unfold x_X4_readNumber
  with_reducible repeat' first | exact h | apply fr4_readDigit | apply fr4_ite | apply fr4_s5 | apply fr4_s6
theorem fr4_readOrder {X Y : GS} (h : fr4 X Y) (order : Int32) : fr4 X (x_X4_readOrder Y order) := by
  unfold x_X4_readOrder
  with_reducible repeat' first | exact h | apply fr4_readDigit | apply fr4_readSign | apply fr4_readNumber | apply fr4_put | apply fr4_ite | apply fr4_s5 | apply fr4_s6
theorem fr4_lp_read {X : GS} : ∀ (j i : Nat) (Y : GS), fr4 X Y → fr4 X (lp_X4_read_12 j i Y).2 := by
  intro j
  induction j with
  | zero => intro i Y h; exact h
  | succ j ih =>
    intro i Y h
    rw [lp_X4_read_12]
    have h1 := fr4_readOrder h (nI i)
    have h2 := fr4_s3 h1 (nI i + 1)
    have h3 := fr4_readSign h2 59
    generalize r_X4_readOrder Y = c1
    generalize x_X4_readOrder Y (nI i) = Z at h1 h2 h3 ⊢
    generalize x_X4_readSign (uS Z 3 (nI i + 1)) 59 = V at h3 ⊢
    generalize r_X4_readSign (uS Z 3 (nI i + 1)) 59 = c3
    by_cases e1 : c1 = 0
    · rw [if_pos e1]; exact h1
    · rw [if_neg e1]
      by_cases e2 : Z.2.1 5 = Z.2.1 4
      · rw [if_pos e2]; exact h2
      · rw [if_neg e2]
        by_cases e3 : c3 = 0
        · rw [if_pos e3]; exact h3
        · rw [if_neg e3]; exact ih _ _ h3
theorem fr4_read (X : GS) : fr4 X (x_X4_read X) := by
  unfold x_X4_read
  have h := fr4_lp_read (X := X) 20 0 (uS (uS X 5 0) 3 0) (fr4_s3 (fr4_s5 (fr4_refl X) _) _)
  exact fr4_ite h h

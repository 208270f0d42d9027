/-! ===== the pure part, 27: the orders are carried out ===== -/
theorem bnd2_eta {α β : Type} (m : Option (α × β)) : (bnd2 m fun v X => some (v, X)) = m := by
  cases m with
  | none => rfl
  | some p => rfl
def mK (k f s : Int32) (Y : GS) : Option (Int32 × GS) := if k = 103 then m_X8_gives Y f else if k = 108 then m_X8_lends Y f s else if k = 110 then m_X8_givesAll Y f else if k = 113 then m_X8_asks Y f s else if k = 114 then m_X8_resizes Y f s else m_X8_wayIs Y f
def kK (k : Int32) : Prop := kA k ∨ kB k ∨ k = 119
theorem does_eq {Z : GS} {q : Nat} {k : Int32} (hq : q < 20) (hk : Z.2.2.1 11 (3 * q) = k) (hK : kK k) : m_X8_does Z (3 * nI q) = mK k (Z.2.2.1 11 (3 * q + 1)) (Z.2.2.1 11 (3 * q + 2)) Z := by
  have e0 : (3 : Int32) * nI q = nI (3 * q) := nI_mul 3 q
  have e2 : nI (3 * q) + 2 = nI (3 * q + 2) := (Int32.ofNat_add (3 * q) 2).symm
  have c0 : (nI (3 * q)).toNatClampNeg = 3 * q := nI_clamp (by omega)
  have c1 : (nI (3 * q + 1)).toNatClampNeg = 3 * q + 1 := nI_clamp (by omega)
  have c2 : (nI (3 * q + 2)).toNatClampNeg = 3 * q + 2 := nI_clamp (by omega)
  unfold m_X8_does mK
  simp only [e0, nI_1, e2, c0, c1, c2]
  rw [if_pos (inR_nI (by omega) (by omega)), if_pos (inR_nI (by omega) (by omega)), if_pos (inR_nI (by omega) (by omega)), hk]
  simp only [bnd2_eta]
  rcases hK with (rfl | rfl | rfl) | (rfl | rfl) | rfl
  · rw [if_neg (show ¬ (108 : Int32) = 103 by decide)]
    rw [if_neg (show ¬ (108 : Int32) = 104 by decide)]
    rw [if_neg (show ¬ (108 : Int32) = 105 by decide)]
    rw [if_neg (show ¬ (108 : Int32) = 106 by decide)]
    rw [if_neg (show ¬ (108 : Int32) = 107 by decide)]
    rw [if_pos (show (108 : Int32) = 108 from rfl)]
    try rw [if_neg (show ¬ (108 : Int32) = 103 by decide)]
    try rw [if_pos (show (108 : Int32) = 108 from rfl)]
  · rw [if_neg (show ¬ (113 : Int32) = 103 by decide)]
    rw [if_neg (show ¬ (113 : Int32) = 104 by decide)]
    rw [if_neg (show ¬ (113 : Int32) = 105 by decide)]
    rw [if_neg (show ¬ (113 : Int32) = 106 by decide)]
    rw [if_neg (show ¬ (113 : Int32) = 107 by decide)]
    rw [if_neg (show ¬ (113 : Int32) = 108 by decide)]
    rw [if_neg (show ¬ (113 : Int32) = 109 by decide)]
    rw [if_neg (show ¬ (113 : Int32) = 110 by decide)]
    rw [if_neg (show ¬ (113 : Int32) = 111 by decide)]
    rw [if_neg (show ¬ (113 : Int32) = 112 by decide)]
    rw [if_pos (show (113 : Int32) = 113 from rfl)]
    try rw [if_neg (show ¬ (113 : Int32) = 103 by decide)]
    try rw [if_neg (show ¬ (113 : Int32) = 108 by decide)]
    try rw [if_neg (show ¬ (113 : Int32) = 110 by decide)]
    try rw [if_pos (show (113 : Int32) = 113 from rfl)]
  · rw [if_neg (show ¬ (114 : Int32) = 103 by decide)]
    rw [if_neg (show ¬ (114 : Int32) = 104 by decide)]
    rw [if_neg (show ¬ (114 : Int32) = 105 by decide)]
    rw [if_neg (show ¬ (114 : Int32) = 106 by decide)]
    rw [if_neg (show ¬ (114 : Int32) = 107 by decide)]
    rw [if_neg (show ¬ (114 : Int32) = 108 by decide)]
    rw [if_neg (show ¬ (114 : Int32) = 109 by decide)]
    rw [if_neg (show ¬ (114 : Int32) = 110 by decide)]
    rw [if_neg (show ¬ (114 : Int32) = 111 by decide)]
    rw [if_neg (show ¬ (114 : Int32) = 112 by decide)]
    rw [if_neg (show ¬ (114 : Int32) = 113 by decide)]
    rw [if_pos (show (114 : Int32) = 114 from rfl)]
    try rw [if_neg (show ¬ (114 : Int32) = 103 by decide)]
    try rw [if_neg (show ¬ (114 : Int32) = 108 by decide)]
    try rw [if_neg (show ¬ (114 : Int32) = 110 by decide)]
    try rw [if_neg (show ¬ (114 : Int32) = 113 by decide)]
    try rw [if_pos (show (114 : Int32) = 114 from rfl)]
  · rw [if_pos (show (103 : Int32) = 103 from rfl)]
    try rw [if_pos (show (103 : Int32) = 103 from rfl)]
  · rw [if_neg (show ¬ (110 : Int32) = 103 by decide)]
    rw [if_neg (show ¬ (110 : Int32) = 104 by decide)]
    rw [if_neg (show ¬ (110 : Int32) = 105 by decide)]
    rw [if_neg (show ¬ (110 : Int32) = 106 by decide)]
    rw [if_neg (show ¬ (110 : Int32) = 107 by decide)]
    rw [if_neg (show ¬ (110 : Int32) = 108 by decide)]
    rw [if_neg (show ¬ (110 : Int32) = 109 by decide)]
    rw [if_pos (show (110 : Int32) = 110 from rfl)]
    try rw [if_neg (show ¬ (110 : Int32) = 103 by decide)]
    try rw [if_neg (show ¬ (110 : Int32) = 108 by decide)]
    try rw [if_pos (show (110 : Int32) = 110 from rfl)]
  · rw [if_neg (show ¬ (119 : Int32) = 103 by decide)]
    rw [if_neg (show ¬ (119 : Int32) = 104 by decide)]
    rw [if_neg (show ¬ (119 : Int32) = 105 by decide)]
    rw [if_neg (show ¬ (119 : Int32) = 106 by decide)]
    rw [if_neg (show ¬ (119 : Int32) = 107 by decide)]
    rw [if_neg (show ¬ (119 : Int32) = 108 by decide)]
    rw [if_neg (show ¬ (119 : Int32) = 109 by decide)]
    rw [if_neg (show ¬ (119 : Int32) = 110 by decide)]
    rw [if_neg (show ¬ (119 : Int32) = 111 by decide)]
    rw [if_neg (show ¬ (119 : Int32) = 112 by decide)]
    rw [if_neg (show ¬ (119 : Int32) = 113 by decide)]
    rw [if_neg (show ¬ (119 : Int32) = 114 by decide)]
    try rw [if_neg (show ¬ (119 : Int32) = 115 by decide)]
    try rw [if_neg (show ¬ (119 : Int32) = 116 by decide)]
    try rw [if_neg (show ¬ (119 : Int32) = 117 by decide)]
    try rw [if_neg (show ¬ (119 : Int32) = 118 by decide)]
    try rw [if_neg (show ¬ (119 : Int32) = 103 by decide)]
    try rw [if_neg (show ¬ (119 : Int32) = 108 by decide)]
    try rw [if_neg (show ¬ (119 : Int32) = 110 by decide)]
    try rw [if_neg (show ¬ (119 : Int32) = 113 by decide)]
    try rw [if_neg (show ¬ (119 : Int32) = 114 by decide)]
theorem ord_103 (b : BD) (f s : Int32) : u_X7_carryOut b 103 f s = u_X0_giveBack b f ∧ r_X7_judgeOrder b 103 f s = r_X7_judgeGive b f ∧ (fun X => x_X7_judgeOrder X b 103 f s) = (fun X => X) ∧ mK 103 f s = (fun Y => m_X8_gives Y f) := by
  refine ⟨?_, ?_, funext fun X => ?_, funext fun Y => ?_⟩
  · unfold u_X7_carryOut; rw [if_pos (show (103 : Int32) = 103 from rfl)]
  · unfold r_X7_judgeOrder; rw [if_pos (show (103 : Int32) = 103 from rfl)]
  · unfold x_X7_judgeOrder; rw [if_pos (show (103 : Int32) = 103 from rfl)]
  · unfold mK; rw [if_pos (show (103 : Int32) = 103 from rfl)]
theorem ord_108 (b : BD) (f s : Int32) : u_X7_carryOut b 108 f s = u_X0_lendTo b f s ∧ r_X7_judgeOrder b 108 f s = r_X7_judgeLend b f s ∧ (fun X => x_X7_judgeOrder X b 108 f s) = (fun X => x_X7_judgeLend X b f s) ∧ mK 108 f s = (fun Y => m_X8_lends Y f s) := by
  refine ⟨?_, ?_, funext fun X => ?_, funext fun Y => ?_⟩
  · unfold u_X7_carryOut; rw [if_neg (show ¬ (108 : Int32) = 103 by decide), if_neg (show ¬ (108 : Int32) = 104 by decide), if_neg (show ¬ (108 : Int32) = 105 by decide), if_neg (show ¬ (108 : Int32) = 106 by decide), if_neg (show ¬ (108 : Int32) = 107 by decide), if_pos (show (108 : Int32) = 108 from rfl)]
  · unfold r_X7_judgeOrder; rw [if_neg (show ¬ (108 : Int32) = 103 by decide), if_neg (show ¬ (108 : Int32) = 104 by decide), if_neg (show ¬ (108 : Int32) = 105 by decide), if_neg (show ¬ (108 : Int32) = 106 by decide), if_neg (show ¬ (108 : Int32) = 107 by decide), if_pos (show (108 : Int32) = 108 from rfl)]
  · unfold x_X7_judgeOrder; rw [if_neg (show ¬ (108 : Int32) = 103 by decide), if_neg (show ¬ (108 : Int32) = 104 by decide), if_neg (show ¬ (108 : Int32) = 105 by decide), if_neg (show ¬ (108 : Int32) = 106 by decide), if_neg (show ¬ (108 : Int32) = 107 by decide), if_pos (show (108 : Int32) = 108 from rfl)]
  · unfold mK; rw [if_neg (show ¬ (108 : Int32) = 103 by decide), if_pos (show (108 : Int32) = 108 from rfl)]
theorem ord_110 (b : BD) (f s : Int32) : u_X7_carryOut b 110 f s = u_X0_giveBackAll b f ∧ r_X7_judgeOrder b 110 f s = r_X7_judgeGiveAll b f ∧ (fun X => x_X7_judgeOrder X b 110 f s) = (fun X => x_X7_judgeGiveAll X b f) ∧ mK 110 f s = (fun Y => m_X8_givesAll Y f) := by
  refine ⟨?_, ?_, funext fun X => ?_, funext fun Y => ?_⟩
  · unfold u_X7_carryOut; rw [if_neg (show ¬ (110 : Int32) = 103 by decide), if_neg (show ¬ (110 : Int32) = 104 by decide), if_neg (show ¬ (110 : Int32) = 105 by decide), if_neg (show ¬ (110 : Int32) = 106 by decide), if_neg (show ¬ (110 : Int32) = 107 by decide), if_neg (show ¬ (110 : Int32) = 108 by decide), if_neg (show ¬ (110 : Int32) = 109 by decide), if_pos (show (110 : Int32) = 110 from rfl)]
  · unfold r_X7_judgeOrder; rw [if_neg (show ¬ (110 : Int32) = 103 by decide), if_neg (show ¬ (110 : Int32) = 104 by decide), if_neg (show ¬ (110 : Int32) = 105 by decide), if_neg (show ¬ (110 : Int32) = 106 by decide), if_neg (show ¬ (110 : Int32) = 107 by decide), if_neg (show ¬ (110 : Int32) = 108 by decide), if_neg (show ¬ (110 : Int32) = 109 by decide), if_pos (show (110 : Int32) = 110 from rfl)]
  · unfold x_X7_judgeOrder; rw [if_neg (show ¬ (110 : Int32) = 103 by decide), if_neg (show ¬ (110 : Int32) = 104 by decide), if_neg (show ¬ (110 : Int32) = 105 by decide), if_neg (show ¬ (110 : Int32) = 106 by decide), if_neg (show ¬ (110 : Int32) = 107 by decide), if_neg (show ¬ (110 : Int32) = 108 by decide), if_neg (show ¬ (110 : Int32) = 109 by decide), if_pos (show (110 : Int32) = 110 from rfl)]
  · unfold mK; rw [if_neg (show ¬ (110 : Int32) = 103 by decide), if_neg (show ¬ (110 : Int32) = 108 by decide), if_pos (show (110 : Int32) = 110 from rfl)]
theorem ord_113 (b : BD) (f s : Int32) : u_X7_carryOut b 113 f s = u_X0_lendOrQueue b f s ∧ r_X7_judgeOrder b 113 f s = r_X7_judgeAsk b f s ∧ (fun X => x_X7_judgeOrder X b 113 f s) = (fun X => x_X7_judgeAsk X b f s) ∧ mK 113 f s = (fun Y => m_X8_asks Y f s) := by
  refine ⟨?_, ?_, funext fun X => ?_, funext fun Y => ?_⟩
  · unfold u_X7_carryOut; rw [if_neg (show ¬ (113 : Int32) = 103 by decide), if_neg (show ¬ (113 : Int32) = 104 by decide), if_neg (show ¬ (113 : Int32) = 105 by decide), if_neg (show ¬ (113 : Int32) = 106 by decide), if_neg (show ¬ (113 : Int32) = 107 by decide), if_neg (show ¬ (113 : Int32) = 108 by decide), if_neg (show ¬ (113 : Int32) = 109 by decide), if_neg (show ¬ (113 : Int32) = 110 by decide), if_neg (show ¬ (113 : Int32) = 111 by decide), if_neg (show ¬ (113 : Int32) = 112 by decide), if_pos (show (113 : Int32) = 113 from rfl)]
  · unfold r_X7_judgeOrder; rw [if_neg (show ¬ (113 : Int32) = 103 by decide), if_neg (show ¬ (113 : Int32) = 104 by decide), if_neg (show ¬ (113 : Int32) = 105 by decide), if_neg (show ¬ (113 : Int32) = 106 by decide), if_neg (show ¬ (113 : Int32) = 107 by decide), if_neg (show ¬ (113 : Int32) = 108 by decide), if_neg (show ¬ (113 : Int32) = 109 by decide), if_neg (show ¬ (113 : Int32) = 110 by decide), if_neg (show ¬ (113 : Int32) = 111 by decide), if_neg (show ¬ (113 : Int32) = 112 by decide), if_pos (show (113 : Int32) = 113 from rfl)]
  · unfold x_X7_judgeOrder; rw [if_neg (show ¬ (113 : Int32) = 103 by decide), if_neg (show ¬ (113 : Int32) = 104 by decide), if_neg (show ¬ (113 : Int32) = 105 by decide), if_neg (show ¬ (113 : Int32) = 106 by decide), if_neg (show ¬ (113 : Int32) = 107 by decide), if_neg (show ¬ (113 : Int32) = 108 by decide), if_neg (show ¬ (113 : Int32) = 109 by decide), if_neg (show ¬ (113 : Int32) = 110 by decide), if_neg (show ¬ (113 : Int32) = 111 by decide), if_neg (show ¬ (113 : Int32) = 112 by decide), if_pos (show (113 : Int32) = 113 from rfl)]
  · unfold mK; rw [if_neg (show ¬ (113 : Int32) = 103 by decide), if_neg (show ¬ (113 : Int32) = 108 by decide), if_neg (show ¬ (113 : Int32) = 110 by decide), if_pos (show (113 : Int32) = 113 from rfl)]
theorem ord_114 (b : BD) (f s : Int32) : u_X7_carryOut b 114 f s = u_X0_changeAmount b f s ∧ r_X7_judgeOrder b 114 f s = r_X7_judgeResize b f s ∧ (fun X => x_X7_judgeOrder X b 114 f s) = (fun X => x_X7_judgeResize X b f s) ∧ mK 114 f s = (fun Y => m_X8_resizes Y f s) := by
  refine ⟨?_, ?_, funext fun X => ?_, funext fun Y => ?_⟩
  · unfold u_X7_carryOut; rw [if_neg (show ¬ (114 : Int32) = 103 by decide), if_neg (show ¬ (114 : Int32) = 104 by decide), if_neg (show ¬ (114 : Int32) = 105 by decide), if_neg (show ¬ (114 : Int32) = 106 by decide), if_neg (show ¬ (114 : Int32) = 107 by decide), if_neg (show ¬ (114 : Int32) = 108 by decide), if_neg (show ¬ (114 : Int32) = 109 by decide), if_neg (show ¬ (114 : Int32) = 110 by decide), if_neg (show ¬ (114 : Int32) = 111 by decide), if_neg (show ¬ (114 : Int32) = 112 by decide), if_neg (show ¬ (114 : Int32) = 113 by decide), if_pos (show (114 : Int32) = 114 from rfl)]
  · unfold r_X7_judgeOrder; rw [if_neg (show ¬ (114 : Int32) = 103 by decide), if_neg (show ¬ (114 : Int32) = 104 by decide), if_neg (show ¬ (114 : Int32) = 105 by decide), if_neg (show ¬ (114 : Int32) = 106 by decide), if_neg (show ¬ (114 : Int32) = 107 by decide), if_neg (show ¬ (114 : Int32) = 108 by decide), if_neg (show ¬ (114 : Int32) = 109 by decide), if_neg (show ¬ (114 : Int32) = 110 by decide), if_neg (show ¬ (114 : Int32) = 111 by decide), if_neg (show ¬ (114 : Int32) = 112 by decide), if_neg (show ¬ (114 : Int32) = 113 by decide), if_pos (show (114 : Int32) = 114 from rfl)]
  · unfold x_X7_judgeOrder; rw [if_neg (show ¬ (114 : Int32) = 103 by decide), if_neg (show ¬ (114 : Int32) = 104 by decide), if_neg (show ¬ (114 : Int32) = 105 by decide), if_neg (show ¬ (114 : Int32) = 106 by decide), if_neg (show ¬ (114 : Int32) = 107 by decide), if_neg (show ¬ (114 : Int32) = 108 by decide), if_neg (show ¬ (114 : Int32) = 109 by decide), if_neg (show ¬ (114 : Int32) = 110 by decide), if_neg (show ¬ (114 : Int32) = 111 by decide), if_neg (show ¬ (114 : Int32) = 112 by decide), if_neg (show ¬ (114 : Int32) = 113 by decide), if_pos (show (114 : Int32) = 114 from rfl)]
  · unfold mK; rw [if_neg (show ¬ (114 : Int32) = 103 by decide), if_neg (show ¬ (114 : Int32) = 108 by decide), if_neg (show ¬ (114 : Int32) = 110 by decide), if_neg (show ¬ (114 : Int32) = 113 by decide), if_pos (show (114 : Int32) = 114 from rfl)]
theorem ord_119 (b : BD) (f s : Int32) : u_X7_carryOut b 119 f s = u_X0_changeWay b f ∧ r_X7_judgeOrder b 119 f s = r_X7_judgeWay b f ∧ (fun X => x_X7_judgeOrder X b 119 f s) = (fun X => x_X7_judgeWay X b f) ∧ mK 119 f s = (fun Y => m_X8_wayIs Y f) := by
  refine ⟨?_, ?_, funext fun X => ?_, funext fun Y => ?_⟩
  · unfold u_X7_carryOut; rw [if_neg (show ¬ (119 : Int32) = 103 by decide), if_neg (show ¬ (119 : Int32) = 104 by decide), if_neg (show ¬ (119 : Int32) = 105 by decide), if_neg (show ¬ (119 : Int32) = 106 by decide), if_neg (show ¬ (119 : Int32) = 107 by decide), if_neg (show ¬ (119 : Int32) = 108 by decide), if_neg (show ¬ (119 : Int32) = 109 by decide), if_neg (show ¬ (119 : Int32) = 110 by decide), if_neg (show ¬ (119 : Int32) = 111 by decide), if_neg (show ¬ (119 : Int32) = 112 by decide), if_neg (show ¬ (119 : Int32) = 113 by decide), if_neg (show ¬ (119 : Int32) = 114 by decide), if_neg (show ¬ (119 : Int32) = 115 by decide), if_neg (show ¬ (119 : Int32) = 116 by decide), if_neg (show ¬ (119 : Int32) = 117 by decide), if_neg (show ¬ (119 : Int32) = 118 by decide), if_pos (show (119 : Int32) = 119 from rfl)]
  · unfold r_X7_judgeOrder; rw [if_neg (show ¬ (119 : Int32) = 103 by decide), if_neg (show ¬ (119 : Int32) = 104 by decide), if_neg (show ¬ (119 : Int32) = 105 by decide), if_neg (show ¬ (119 : Int32) = 106 by decide), if_neg (show ¬ (119 : Int32) = 107 by decide), if_neg (show ¬ (119 : Int32) = 108 by decide), if_neg (show ¬ (119 : Int32) = 109 by decide), if_neg (show ¬ (119 : Int32) = 110 by decide), if_neg (show ¬ (119 : Int32) = 111 by decide), if_neg (show ¬ (119 : Int32) = 112 by decide), if_neg (show ¬ (119 : Int32) = 113 by decide), if_neg (show ¬ (119 : Int32) = 114 by decide), if_neg (show ¬ (119 : Int32) = 115 by decide), if_neg (show ¬ (119 : Int32) = 116 by decide), if_neg (show ¬ (119 : Int32) = 117 by decide), if_neg (show ¬ (119 : Int32) = 118 by decide), if_pos (show (119 : Int32) = 119 from rfl)]
  · unfold x_X7_judgeOrder; rw [if_neg (show ¬ (119 : Int32) = 103 by decide), if_neg (show ¬ (119 : Int32) = 104 by decide), if_neg (show ¬ (119 : Int32) = 105 by decide), if_neg (show ¬ (119 : Int32) = 106 by decide), if_neg (show ¬ (119 : Int32) = 107 by decide), if_neg (show ¬ (119 : Int32) = 108 by decide), if_neg (show ¬ (119 : Int32) = 109 by decide), if_neg (show ¬ (119 : Int32) = 110 by decide), if_neg (show ¬ (119 : Int32) = 111 by decide), if_neg (show ¬ (119 : Int32) = 112 by decide), if_neg (show ¬ (119 : Int32) = 113 by decide), if_neg (show ¬ (119 : Int32) = 114 by decide), if_neg (show ¬ (119 : Int32) = 115 by decide), if_neg (show ¬ (119 : Int32) = 116 by decide), if_neg (show ¬ (119 : Int32) = 117 by decide), if_neg (show ¬ (119 : Int32) = 118 by decide), if_pos (show (119 : Int32) = 119 from rfl)]
  · unfold mK; rw [if_neg (show ¬ (119 : Int32) = 103 by decide), if_neg (show ¬ (119 : Int32) = 108 by decide), if_neg (show ¬ (119 : Int32) = 110 by decide), if_neg (show ¬ (119 : Int32) = 113 by decide), if_neg (show ¬ (119 : Int32) = 114 by decide)]
theorem out_order {b : BD} {g : Nat → Int32} (B : Bd b g) {k f s s' : Int32} (hK : kK k) (hs : kA k → s = s') : ∃ r n1 n2 n3 : Int32, ¬ n1 = 0 ∧ ¬ n2 = 0 ∧ ¬ n3 = 0 ∧ OUT g (u_X7_carryOut b k f s) (r_X7_judgeOrder b k f s) r (fun X => x_X7_judgeOrder X b k f s) (mK k f s') n1 n2 n3 := by
  rcases hK with hk | hk
  · have e := hs hk
    subst e
    rcases hk with rfl | rfl | rfl
    · obtain ⟨e1, e2, e3, e4⟩ := ord_108 b f s
      rw [e1, e2, e3, e4]
      exact ⟨_, 1, 1, 2, by decide, by decide, by decide, (out_lend B f s)⟩
    · obtain ⟨e1, e2, e3, e4⟩ := ord_113 b f s
      rw [e1, e2, e3, e4]
      exact ⟨_, 1, 1, 2, by decide, by decide, by decide, (out_ask B f s)⟩
    · obtain ⟨e1, e2, e3, e4⟩ := ord_114 b f s
      rw [e1, e2, e3, e4]
      exact ⟨_, 1, 2, 3, by decide, by decide, by decide, (out_resize B f s)⟩
  · rcases hk with (rfl | rfl) | rfl
    · obtain ⟨e1, e2, e3, -⟩ := ord_103 b f s
      obtain ⟨-, -, -, e4⟩ := ord_103 b f s'
      rw [e1, e2, e3, e4]
      exact ⟨_, 1, 2, 2, by decide, by decide, by decide, (out_give B f)⟩
    · obtain ⟨e1, e2, e3, -⟩ := ord_110 b f s
      obtain ⟨-, -, -, e4⟩ := ord_110 b f s'
      rw [e1, e2, e3, e4]
      exact ⟨_, 1, 1, 2, by decide, by decide, by decide, (out_giveAll B f)⟩
    · obtain ⟨e1, e2, e3, -⟩ := ord_119 b f s
      obtain ⟨-, -, -, e4⟩ := ord_119 b f s'
      rw [e1, e2, e3, e4]
      exact ⟨_, 1, 1, 2, by decide, by decide, by decide, (out_way B f)⟩
def ZF (Z Z' : GS) : Prop := Z'.1 = Z.1 ∧ (∀ k, ¬ k = 15 → ¬ k = 16 → ¬ k = 17 → ¬ k = 19 → Z'.2.1 k = Z.2.1 k) ∧ (∀ k, ¬ k = 5 → Z'.2.2.1 k = Z.2.2.1 k) ∧ Z'.2.2.2 = Z.2.2.2
theorem ZF.refl (M : GS) : ZF M M := ⟨rfl, fun _ _ _ _ _ => rfl, fun _ _ => rfl, rfl⟩
theorem ZF.trans {C D E : GS} (h : ZF C D) (g : ZF D E) : ZF C E := ⟨g.1.trans h.1, fun k h1 h2 h3 h4 => (g.2.1 k h1 h2 h3 h4).trans (h.2.1 k h1 h2 h3 h4), fun k h1 => (g.2.2.1 k h1).trans (h.2.2.1 k h1), g.2.2.2.trans h.2.2.2⟩
theorem ZF.s15 {C D : GS} (h : ZF C D) (v : Int32) : ZF C (uS D 15 v) := h.trans ⟨rfl, fun k h1 _ _ _ => up_ne h1, fun _ _ => rfl, rfl⟩
theorem ZF.s16 {C D : GS} (h : ZF C D) (v : Int32) : ZF C (uS D 16 v) := h.trans ⟨rfl, fun k _ h1 _ _ => up_ne h1, fun _ _ => rfl, rfl⟩
theorem ZF.s17 {C D : GS} (h : ZF C D) (v : Int32) : ZF C (uS D 17 v) := h.trans ⟨rfl, fun k _ _ h1 _ => up_ne h1, fun _ _ => rfl, rfl⟩
theorem ZF.s19 {C D : GS} (h : ZF C D) (v : Int32) : ZF C (uS D 19 v) := h.trans ⟨rfl, fun k _ _ _ h1 => up_ne h1, fun _ _ => rfl, rfl⟩
theorem ZF.a5 {C D : GS} (h : ZF C D) (v : Nat → Int32) : ZF C (uA D 5 v) := h.trans ⟨rfl, fun _ _ _ _ _ => rfl, fun k h1 => up_ne h1, rfl⟩
theorem at_q {XX : GS} {n q : Nat} (hn : n ≤ 20) (hq : q < n) (h3 : XX.2.1 3 = nI n) : r_X4_kindAt XX (nI q) = XX.2.2.1 1 q ∧ r_X4_firstAt XX (nI q) = XX.2.2.1 2 q ∧ r_X4_secondAt XX (nI q) = XX.2.2.1 3 q := by
  have e : r_X4_has XX (nI q) = 1 := by
    unfold r_X4_has
    rw [if_neg (nI_pos (by omega)), h3, if_neg (nI_ge hq (by omega)), if_neg (geL (k := 20) (x := 20) rfl (by omega) (by omega))]
  have c : (nI q).toNatClampNeg = q := nI_clamp (by omega)
  unfold r_X4_kindAt r_X4_firstAt r_X4_secondAt
  rw [e, if_neg (by decide), if_neg (by decide), if_neg (by decide), c]
  exact ⟨rfl, rfl, rfl⟩
theorem exec_ok {n : Nat} (hn : n ≤ 20) : ∀ (j q : Nat) (bb : BD) (XX Z : GS), q + j = n → XX.2.1 3 = nI n → TT XX Z n → Bd bb (Z.2.2.1 5) → ∀ f, j + 2 ≤ f →
    (∃ (bb' : BD) (Z' : GS), lp_X7_run_51 f 0 (nI q) bb XX = some (0, nI n, bb', XX) ∧ lp_X8_run_141 j q Z = some (none, Z') ∧ Bd bb' (Z'.2.2.1 5) ∧ ZF Z Z' ∧ Z'.2.1 15 = Z.2.1 15 ∧ Z'.2.1 16 = Z.2.1 16) ∨
    (∃ (v a2 : Int32) (bb' : BD) (Z' : GS), (v = 1 ∨ v = 2) ∧ lp_X7_run_51 f 0 (nI q) bb XX = some (v, a2, bb', XX) ∧ lp_X8_run_141 j q Z = some (some 0, Z') ∧ (∀ i, i < 129 → Z'.2.2.1 5 i = Z.2.2.1 6 i) ∧ Z'.2.1 19 = 1 ∧ ZF Z Z' ∧ Z'.2.1 15 = Z.2.1 15 ∧ Z'.2.1 16 = Z.2.1 16) ∨
    (∃ (d1 d2 a2 : Int32) (bb' : BD) (Z' : GS), lp_X7_run_51 f 0 (nI q) bb XX = some (3, a2, bb', uS (uS XX 9 d1) 10 d2) ∧ lp_X8_run_141 j q Z = some (some 0, Z') ∧ (∀ i, i < 129 → Z'.2.2.1 5 i = Z.2.2.1 6 i) ∧ Z'.2.1 19 = 2 ∧ ZF Z Z' ∧ Z'.2.1 15 = d1 ∧ Z'.2.1 16 = d2) := by
  intro j
  have lpx : ∀ (f : Nat) (v a : Int32) (bb : BD) (Y : GS), ¬ v = 0 → lp_X7_run_51 (f + 1) v a bb Y = some (v, a, bb, Y) := fun f v a bb Y hv => by
    rw [lp_X7_run_51]
    by_cases c : Y.2.1 3 ≤ a
    · rw [if_pos c]
    · rw [if_neg c, if_neg hv]
  induction j with
  | zero =>
    intro q bb XX Z hq h3 T B f hf
    obtain ⟨f, rfl⟩ : ∃ g, f = g + 1 := ⟨f - 1, by omega⟩
    left
    have : q = n := by omega
    subst this
    exact ⟨bb, Z, by rw [lp_X7_run_51, h3, if_pos (nI_le (Nat.le_refl _) (by omega))], by rw [lp_X8_run_141], B, ZF.refl Z, rfl, rfl⟩
  | succ j ih =>
    intro q bb XX Z hq h3 T B f hf
    obtain ⟨f, rfl⟩ : ∃ g, f = g + 1 + 1 := ⟨f - 2, by omega⟩
    have hqn : q < n := by omega
    obtain ⟨t1, t2, t3, t4⟩ := T q hqn
    obtain ⟨k1, k2, k3⟩ := at_q hn hqn h3
    have D := does_eq (Z := Z) (q := q) (k := XX.2.2.1 1 q) (by omega) t1.symm t4
    rw [← t2] at D
    obtain ⟨r, n1, n2, n3, hn1, hn2, hn3, O⟩ := out_order B (k := XX.2.2.1 1 q) (f := XX.2.2.1 2 q) (s := XX.2.2.1 3 q) (s' := Z.2.2.1 11 (3 * q + 2)) t4 t3
    have L : lp_X7_run_51 (f + 1 + 1) 0 (nI q) bb XX = (if r_X7_judgeOrder bb (XX.2.2.1 1 q) (XX.2.2.1 2 q) (XX.2.2.1 3 q) = 0 then lp_X7_run_51 (f + 1) (r_X7_judgeOrder bb (XX.2.2.1 1 q) (XX.2.2.1 2 q) (XX.2.2.1 3 q)) (nI q + 1) (u_X7_carryOut bb (r_X4_kindAt (x_X7_judgeOrder XX bb (XX.2.2.1 1 q) (XX.2.2.1 2 q) (XX.2.2.1 3 q)) (nI q)) (r_X4_firstAt (x_X7_judgeOrder XX bb (XX.2.2.1 1 q) (XX.2.2.1 2 q) (XX.2.2.1 3 q)) (nI q)) (r_X4_secondAt (x_X7_judgeOrder XX bb (XX.2.2.1 1 q) (XX.2.2.1 2 q) (XX.2.2.1 3 q)) (nI q))) (x_X7_judgeOrder XX bb (XX.2.2.1 1 q) (XX.2.2.1 2 q) (XX.2.2.1 3 q)) else lp_X7_run_51 (f + 1) (r_X7_judgeOrder bb (XX.2.2.1 1 q) (XX.2.2.1 2 q) (XX.2.2.1 3 q)) (nI q + 1) bb (x_X7_judgeOrder XX bb (XX.2.2.1 1 q) (XX.2.2.1 2 q) (XX.2.2.1 3 q))) := by
      rw [lp_X7_run_51, h3, if_neg (nI_ge hqn (by omega)), if_pos rfl, k1, k2, k3]
    rw [L, lp_X8_run_141, D]
    generalize r_X7_judgeOrder bb (XX.2.2.1 1 q) (XX.2.2.1 2 q) (XX.2.2.1 3 q) = v at *
    rcases O with ⟨rfl, hx, hm⟩ | ⟨rfl, hx, hm⟩ | ⟨rfl, hx, hm⟩ | ⟨rfl, d1, d2, hd, hx, hm⟩
    · have hx' := hx XX
      dsimp only at hx'
      obtain ⟨g', B', m'⟩ := hm Z rfl
      have z0 : (uS (uA Z 5 g') 19 0).2.1 19 = 0 := uS_at
      rw [if_pos rfl, hx', k1, k2, k3, m', bnd2_some, if_pos z0, nI_1]
      have F1 : ZF Z (uS (uA Z 5 g') 19 0) := ((ZF.refl Z).a5 _).s19 _
      have B1 : Bd (u_X7_carryOut bb (XX.2.2.1 1 q) (XX.2.2.1 2 q) (XX.2.2.1 3 q)) ((uS (uA Z 5 g') 19 0).2.2.1 5) := by
        rw [show (uS (uA Z 5 g') 19 0).2.2.1 5 = g' from uA_at (X := Z)]; exact B'
      have T1 : TT XX (uS (uA Z 5 g') 19 0) n := T.same rfl (F1.2.2.1 11 (by decide))
      have e6 : (uS (uA Z 5 g') 19 0).2.2.1 6 = Z.2.2.1 6 := F1.2.2.1 6 (by decide)
      have e15 : (uS (uA Z 5 g') 19 0).2.1 15 = Z.2.1 15 := uS_ne (by decide)
      have e16 : (uS (uA Z 5 g') 19 0).2.1 16 = Z.2.1 16 := uS_ne (by decide)
      have I := ih (q + 1) _ XX _ (by omega) h3 T1 B1 (f + 1) (by omega)
      generalize uS (uA Z 5 g') 19 0 = Z1 at *
      rcases I with ⟨bb', Z', i1, i2, i3, i4, i5, i6⟩ | ⟨v, a2, bb', Z', i1, i2, i3, i4, i5, i6, i7, i8⟩ | ⟨d1, d2, a2, bb', Z', i1, i2, i3, i4, i5, i6, i7⟩
      · exact Or.inl ⟨bb', Z', i1, i2, i3, F1.trans i4, i5.trans e15, i6.trans e16⟩
      · exact Or.inr (Or.inl ⟨v, a2, bb', Z', i1, i2, i3, fun i hi => by rw [i4 i hi, e6], i5, F1.trans i6, i7.trans e15, i8.trans e16⟩)
      · exact Or.inr (Or.inr ⟨d1, d2, a2, bb', Z', i1, i2, fun i hi => by rw [i3 i hi, e6], i4, F1.trans i5, i6, i7⟩)
    · have hx' := hx XX
      dsimp only at hx'
      have m' := hm Z rfl
      have z0 : ¬ (uS (uS Z 19 n1) 17 0).2.1 19 = 0 := by rw [uS_ne (by decide), uS_at]; exact hn1
      have z1 : (uS (uS Z 19 n1) 17 0).2.1 17 = 0 := uS_at
      obtain ⟨h, w1, w2⟩ := kept_thrown (X := uS (uS (uS Z 19 n1) 17 0) 19 1) (v := 0) (by rw [uS_at]; decide)
      rw [if_neg (by decide), hx', m', bnd2_some, if_neg z0, if_pos z1, w1, bnd2_some, lpx _ _ _ _ _ (by decide)]
      exact Or.inr (Or.inl ⟨1, _, bb, _, Or.inl rfl, rfl, rfl, fun i hi => by rw [uA_at, w2 i hi]; rfl, up_self (f := (uS (uS Z 19 n1) 17 0).2.1) (k := 19) (v := 1), ((((ZF.refl Z).s19 _).s17 _).s19 _).a5 _, rfl, rfl⟩)
    · have hx' := hx XX
      dsimp only at hx'
      have m' := hm Z rfl
      have z0 : ¬ (uS (uS Z 19 n2) 17 0).2.1 19 = 0 := by rw [uS_ne (by decide), uS_at]; exact hn2
      have z1 : (uS (uS Z 19 n2) 17 0).2.1 17 = 0 := uS_at
      obtain ⟨h, w1, w2⟩ := kept_thrown (X := uS (uS (uS Z 19 n2) 17 0) 19 1) (v := 0) (by rw [uS_at]; decide)
      rw [if_neg (by decide), hx', m', bnd2_some, if_neg z0, if_pos z1, w1, bnd2_some, lpx _ _ _ _ _ (by decide)]
      exact Or.inr (Or.inl ⟨2, _, bb, _, Or.inr rfl, rfl, rfl, fun i hi => by rw [uA_at, w2 i hi]; rfl, up_self (f := (uS (uS Z 19 n2) 17 0).2.1) (k := 19) (v := 1), ((((ZF.refl Z).s19 _).s17 _).s19 _).a5 _, rfl, rfl⟩)
    · have hx' := hx XX
      dsimp only at hx'
      obtain ⟨g', m'⟩ := hm Z rfl
      have z0 : ¬ (uS (uS (uS (uS (uA Z 5 g') 15 d1) 16 d2) 19 n3) 17 1).2.1 19 = 0 := by rw [uS_ne (by decide), uS_at]; exact hn3
      have z1 : ¬ (uS (uS (uS (uS (uA Z 5 g') 15 d1) 16 d2) 19 n3) 17 1).2.1 17 = 0 := by rw [uS_at]; decide
      obtain ⟨h, w1, w2⟩ := kept_thrown (X := uS (uS (uS (uS (uS (uA Z 5 g') 15 d1) 16 d2) 19 n3) 17 1) 19 2) (v := 0) (by rw [uS_at]; decide)
      rw [if_neg (by decide), hx', m', bnd2_some, if_neg z0, if_neg z1, w1, bnd2_some, lpx _ _ _ _ _ (by decide)]
      refine Or.inr (Or.inr ⟨d1, d2, _, bb, _, rfl, rfl, fun i hi => ?_, up_self (f := (uS (uS (uS (uS (uA Z 5 g') 15 d1) 16 d2) 19 n3) 17 1).2.1) (k := 19) (v := 2), (((((((ZF.refl Z).a5 _).s15 _).s16 _).s19 _).s17 _).s19 _).a5 _, ?_, ?_⟩)
      · rw [uA_at, w2 i hi]
        show up Z.2.2.1 5 g' 6 i = _
        rw [up_ne (by decide)]
      · show up (up (up (up (up Z.2.1 15 d1) 16 d2) 19 n3) 17 1) 19 2 15 = _
        rw [up_ne (by decide), up_ne (by decide), up_ne (by decide), up_ne (by decide), up_self]
      · show up (up (up (up (up Z.2.1 15 d1) 16 d2) 19 n3) 17 1) 19 2 16 = _
        rw [up_ne (by decide), up_ne (by decide), up_ne (by decide), up_self]

/-! ===== p36: the law, 9: what z's calls promise ===== -/
section
variable (X : GS)
theorem c7_line {v : Int32} (hr : r_X7_line X (X.1 0) = v) : Ct 7 0 0 yX7_line (.code yX7_line cX7_line 1 (some (.int))) [.ref 0] (mkH X) (.inl (some (.int v))) (mkH (sLine X)) := by
  have h := s_X7_line X (X.1 0)
  rw [uB_eta, hr] at h
  exact h
theorem c7_greatest {v : Int32} (hr : r_X7_greatest (X.1 0) = v) (he : e_X7_greatest (X.1 0) = "") : Ct 6 1 6 yX7_greatest (.code yX7_greatest cX7_greatest 2 (some (.int))) [.ref 0] (mkH X) (.inl (some (.int v))) (mkH X) := by
  have h := s_X7_greatest X (X.1 0)
  rw [uB_eta, rT_0 he, hr] at h
  exact h
theorem c7_cuts {x v : Int32} (hr : r_X7_cuts (X.1 0) x = v) (he : e_X7_cuts (X.1 0) x = "") (hs : (lp_X7_cuts_29 x 64 0 ((r_X5_sizeAt (X.1 0) (r_X7_insistOnPiece (X.1 0) (r_X7_insistOnNeed x))) / 2)).isSome = true) : Ct 7 2 12 yX7_cuts (.code yX7_cuts cX7_cuts 6 (some (.int))) [.ref 0, .int x] (mkH X) (.inl (some (.int v))) (mkH X) := by
  have h := s_X7_cuts X (X.1 0) x (fun h9 => by rw [h9] at hs; cases hs)
  rw [uB_eta, rT_0 he, hr] at h
  exact h
theorem c7_fits {x v : Int32} (hr : r_X7_fits (X.1 0) x = v) (he : e_X7_fits x = "") : Ct 7 1 6 yX7_fits (.code yX7_fits cX7_fits 2 (some (.int))) [.ref 0, .int x] (mkH X) (.inl (some (.int v))) (mkH X) := by
  have h := s_X7_fits X (X.1 0) x
  rw [uB_eta, rT_0 he, hr] at h
  exact h
theorem c7_inTheWay {x v : Int32} (hr : r_X7_inTheWay (X.1 0) x = v) (he : e_X7_inTheWay x = "") : Ct 7 1 6 yX7_inTheWay (.code yX7_inTheWay cX7_inTheWay 2 (some (.int))) [.ref 0, .int x] (mkH X) (.inl (some (.int v))) (mkH X) := by
  have h := s_X7_inTheWay X (X.1 0) x
  rw [uB_eta, rT_0 he, hr] at h
  exact h
theorem c7_would {x v : Int32} (hr : r_X7_would (X.1 0) x = v) (he : e_X7_would (X.1 0) x = "") : Ct 7 2 12 yX7_would (.code yX7_would cX7_would 4 (some (.int))) [.ref 0, .int x] (mkH X) (.inl (some (.int v))) (mkH X) := by
  have h := s_X7_would X (X.1 0) x
  rw [uB_eta, rT_0 he, hr] at h
  exact h
theorem c7_ranked {x v : Int32} (hr : r_X7_ranked (X.1 0) x = v) (he : e_X7_ranked (X.1 0) x = "") : Ct 6 1 6 yX7_ranked (.code yX7_ranked cX7_ranked 3 (some (.int))) [.ref 0, .int x] (mkH X) (.inl (some (.int v))) (mkH X) := by
  have h := s_X7_ranked X (X.1 0) x
  rw [uB_eta, rT_0 he, hr] at h
  exact h
theorem c7_isWell {v : Int32} (hr : r_X7_isWell (X.1 0) = v) : Ct 7 0 0 yX7_isWell (.code yX7_isWell cX7_isWell 1 (some (.boolean))) [.ref 0] (mkH X) (.inl (some (.int v))) (mkH X) := by
  have h := s_X7_isWell X (X.1 0)
  rw [uB_eta, hr] at h
  exact h
theorem c7_restore {v : Int32} (hr : r_X7_restore X (X.1 0) = v) (he : e_X7_restore X = "") : Ct 6 1 6 yX7_restore (.code yX7_restore cX7_restore 1 (some (.int))) [.ref 0] (mkH X) (.inl (some (.int v))) (mkH (sRestore X)) := by
  have h := s_X7_restore X (X.1 0)
  rw [uB_eta, rT_0 he, hr] at h
  exact h
theorem c7_lentShare (hnan : vf_n32 (FP.fdiv (FP.i2f (r_X3_allSizes (X.1 0))) 1115684864)) : Ct 4 0 0 yX7_lentShare (.code yX7_lentShare cX7_lentShare 1 (some (.float))) [.ref 0] (mkH X) (.inl (some (.float (r_X7_lentShare (X.1 0))))) (mkH X) := by
  have h := s_X7_lentShare X (X.1 0) hnan
  rw [uB_eta] at h
  exact h
theorem c7_meanWaste (hnan : 0 < (X.1 0).1 3 → vf_n64 (FP.ddiv (FP.i2d (r_X3_allSizes (X.1 0) - r_X3_allAmounts (X.1 0))) (FP.i2d ((X.1 0).1 3)))) (he : e_X7_meanWaste (X.1 0) = "") : Ct 6 1 6 yX7_meanWaste (.code yX7_meanWaste cX7_meanWaste 2 (some (.double))) [.ref 0] (mkH X) (.inl (some (.double (r_X7_meanWaste (X.1 0))))) (mkH X) := by
  have h := s_X7_meanWaste X (X.1 0) hnan
  rw [uB_eta, rT_0 he] at h
  exact h
end

/-! want: its answers -/
theorem s_wantL_lt {M : mm_M} {f : Int32} {v w : Int64} {c : Nat} : ∀ {k j : Nat}, k ≤ c → s_wantL M f v w c k = some j → j < c
  | 0, j, _, h => by cases h
  | k + 1, j, hk, h => by
    unfold s_wantL at h
    split at h
    · cases h
      omega
    · exact s_wantL_lt (by omega) h
theorem s_wantR_in {M : mm_M} {f : Int32} {v w : Int64} {c k : Nat} (hc : c ≤ 20) (e : M.1 12 0 2 = nI c) (hk : k ≤ c) (h : 0 ≤ (s_wantR M f v w c k).1) : vp_in (s_wantR M f v w c k).1 20 := by
  unfold s_wantR at h ⊢
  split at h
  · rename_i j hj
    have hl := s_wantL_lt hk hj
    exact vp_in_nI (by omega) (by decide)
  · rename_i hj
    unfold s_wantN at h ⊢
    split at h
    · rename_i hlt
      rw [if_pos hlt]
      split at h
      · rename_i hb
        rw [if_pos hb]
        have e2 : (s_begM M c f v w).1 12 0 2 + 1 - 1 = nI c := by rw [(K4.begM (M := M) (f := f)).2.1, e, nI_1, nI_pred]
        show vp_in ((s_begM M c f v w).1 12 0 2 + 1 - 1) 20
        rw [e2]
        exact vp_in_nI hlt (by decide)
      · exact absurd (show (0 : Int32) ≤ -4 from h) (by decide)
    · exact absurd (show (0 : Int32) ≤ -7 from h) (by decide)
theorem kp_wantR {M : mm_M} {f : Int32} {v w : Int64} {c k : Nat} : KP M (s_wantR M f v w c k).2 := by
  unfold s_wantR
  split
  · exact KP.rf
  · unfold s_wantN
    split
    · split
      · exact K4.begM.1.sI (by decide)
      · exact K4.begM.1
    · exact KP.rf
theorem s_wantR22 {M : mm_M} {f : Int32} {v w : Int64} {c k : Nat} : (s_wantR M f v w c k).2.2.2 = M.2.2 := kp_wantR.1

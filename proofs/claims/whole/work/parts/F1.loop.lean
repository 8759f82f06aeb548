/-! the law: its loop (gF1.py) -/
abbrev tgL : List Nat := [236, 309, 334, 347, 360, 385, 422, 459, 484, 533, 582, 631, 680, 741, 790, 839, 912, 973, 1022, 1071, 1108, 1157, 1218, 1255, 1316, 1353, 1414, 1463, 1524, 1549, 1574, 1599, 1660, 1709, 1770, 1831, 1856, 1881, 1918, 1955, 1992, 2065, 2078, 2134, 2159]
section LP
variable {sc : mSc} {X : mX} {h : mH} {r : mR} {u : mU}
theorem fxd_L (i : Int) : ∀ (j : Nat) (v : mV), (lsL i)[j]? = some (some v) → fxd v := by
  intro j v hj
  match j, hj with
  | 0, hj => cases hj; exact (rfl : sg sScr = sScr)
  | 1, hj => cases hj; exact (rfl : sg 0 = 0)
  | 2, hj => cases hj; exact (rfl : sg 64 = 64)
  | 3, hj => cases hj; exact (rfl : sg 86 = 86)
  | 4, hj => cases hj; exact trivial
  | 5, hj => cases hj
  | 6, hj => cases hj
  | j + 7, hj => simp at hj
set_option maxRecDepth 100000 in
set_option maxHeartbeats 1000000 in
theorem ws_next {i : Int} (i0 : 0 ≤ i) (i9 : i + 6 ≤ sc.1) (hs : sc.1 ≤ 3072) (k : ∀ h2 r2, Cp h2 r2 → WPs sc (true, room_1) m_La_law X 23 (lsL (i + 6)) [] h2 r2 u) : ∀ h2 r2, CpS h2 r2 → WPs sc (true, room_1) m_La_law X 2172 (lsL i) [] h2 r2 u := by
  intro h2 r2 C
  refine WPs.row (wq_iinc (i := 4) (n := 6) (x := i) (q := 2175) rfl rfl rfl (Nat.le_of_ble_eq_true rfl) rfl (by omega) (by omega)) ?_
  refine WPs.row (wq_goto (tgt := 23) rfl rfl) ?_
  rcases C with C | C
  · exact k h2 r2 C
  · exact ws_sw (fxd_L (i + 6)) (k _ _ C)
theorem ws_sel {i : Int} {t : Nat} (ht : t ∈ tgL) (i0 : 0 ≤ i) (i9 : i + 6 ≤ sc.1) (hs : sc.1 ≤ 3072) (hu : u.1 + 1 ≤ 1112 ∧ u.2 + 6 ≤ 43168) (C : Cp h r) (k : ∀ h2 r2 u2, CpS h2 r2 → u2.1 ≤ u.1 + 1 → u2.2 ≤ u.2 + 6 → WPs sc (true, room_1) m_La_law X 2172 (lsL i) [] h2 r2 u2) : WPs sc (true, room_1) m_La_law X t (lsL i) [] h r u := by
  have hv : u.1 ≤ 1112 ∧ u.2 ≤ 43168 := ⟨by omega, by omega⟩
  have kk : ∀ h2 r2, CpS h2 r2 → WPs sc (true, room_1) m_La_law X 2172 (lsL i) [] h2 r2 u := fun h2 r2 c => k h2 r2 u c (by omega) (by omega)
  unfold tgL at ht
  rcases List.mem_cons.mp ht with rfl | ht
  · exact ws_case ca_feed (by decide) co_feed.1 co_feed.2 i0 i9 hs hv (two_feed _ _ _ _ _ C) kk
  rcases List.mem_cons.mp ht with rfl | ht
  · exact ws_case ca_desk (by decide) co_desk.1 co_desk.2 i0 i9 hs hv (two_desk _ C) kk
  rcases List.mem_cons.mp ht with rfl | ht
  · exact ws_case ca_fault (by decide) co_fault.1 co_fault.2 i0 i9 hs hv (two_fault C) kk
  rcases List.mem_cons.mp ht with rfl | ht
  · exact ws_case ca_where (by decide) co_where.1 co_where.2 i0 i9 hs hv (two_where C) kk
  rcases List.mem_cons.mp ht with rfl | ht
  · exact ws_case ca_about (by decide) co_about.1 co_about.2 i0 i9 hs hv (two_about _ C) kk
  rcases List.mem_cons.mp ht with rfl | ht
  · exact ws_case ca_spot (by decide) co_spot.1 co_spot.2 i0 i9 hs hv (two_spot _ _ C) kk
  rcases List.mem_cons.mp ht with rfl | ht
  · exact ws_case ca_departure (by decide) co_departure.1 co_departure.2 i0 i9 hs hv (two_departure _ _ C) kk
  rcases List.mem_cons.mp ht with rfl | ht
  · exact ws_case ca_ordered (by decide) co_ordered.1 co_ordered.2 i0 i9 hs hv (two_ordered _ C) kk
  rcases List.mem_cons.mp ht with rfl | ht
  · exact ws_case ca_arrives (by decide) co_arrives.1 co_arrives.2 i0 i9 hs hv (two_arrives _ _ _ C) kk
  rcases List.mem_cons.mp ht with rfl | ht
  · exact ws_case ca_changes (by decide) co_changes.1 co_changes.2 i0 i9 hs hv (two_changes _ _ _ C) kk
  rcases List.mem_cons.mp ht with rfl | ht
  · exact ws_case ca_leaves (by decide) co_leaves.1 co_leaves.2 i0 i9 hs hv (two_leaves _ _ _ C) kk
  rcases List.mem_cons.mp ht with rfl | ht
  · exact ws_case ca_rides (by decide) co_rides.1 co_rides.2 i0 i9 hs hv (two_rides _ _ _ C) kk
  rcases List.mem_cons.mp ht with rfl | ht
  · exact ws_case ca_ride (by decide) co_ride.1 co_ride.2 i0 i9 hs hv (two_ride _ _ _ _ C) kk
  rcases List.mem_cons.mp ht with rfl | ht
  · exact ws_case ca_stands (by decide) co_stands.1 co_stands.2 i0 i9 hs hv (two_stands _ _ _ C) kk
  rcases List.mem_cons.mp ht with rfl | ht
  · exact ws_case ca_trades (by decide) co_trades.1 co_trades.2 i0 i9 hs hv (two_trades _ _ _ C) kk
  rcases List.mem_cons.mp ht with rfl | ht
  · exact ws_case ca_trade (by decide) co_trade.1 co_trade.2 i0 i9 hs hv (two_trade _ _ _ _ _ C) kk
  rcases List.mem_cons.mp ht with rfl | ht
  · exact ws_case ca_within (by decide) co_within.1 co_within.2 i0 i9 hs hv (two_within _ _ _ _ C) kk
  rcases List.mem_cons.mp ht with rfl | ht
  · exact ws_case ca_latest (by decide) co_latest.1 co_latest.2 i0 i9 hs hv (two_latest _ _ _ C) kk
  rcases List.mem_cons.mp ht with rfl | ht
  · exact ws_case ca_reach (by decide) co_reach.1 co_reach.2 i0 i9 hs hv (two_reach _ _ _ C) kk
  rcases List.mem_cons.mp ht with rfl | ht
  · exact ws_case ca_farthest (by decide) co_farthest.1 co_farthest.2 i0 i9 hs hv (two_farthest _ _ C) kk
  rcases List.mem_cons.mp ht with rfl | ht
  · exact ws_case ca_meets (by decide) co_meets.1 co_meets.2 i0 i9 hs hv (two_meets _ _ _ C) kk
  rcases List.mem_cons.mp ht with rfl | ht
  · exact ws_case ca_round (by decide) co_round.1 co_round.2 i0 i9 hs hv (two_round _ _ _ _ C) kk
  rcases List.mem_cons.mp ht with rfl | ht
  · exact ws_case ca_steps (by decide) co_steps.1 co_steps.2 i0 i9 hs hv (two_steps _ _ C) kk
  rcases List.mem_cons.mp ht with rfl | ht
  · exact ws_case ca_step (by decide) co_step.1 co_step.2 i0 i9 hs hv (two_step _ _ _ _ C) kk
  rcases List.mem_cons.mp ht with rfl | ht
  · exact ws_case ca_quickest (by decide) co_quickest.1 co_quickest.2 i0 i9 hs hv (two_quickest _ _ C) kk
  rcases List.mem_cons.mp ht with rfl | ht
  · exact ws_case ca_spent (by decide) co_spent.1 co_spent.2 i0 i9 hs hv (two_spent _ _ _ _ C) kk
  rcases List.mem_cons.mp ht with rfl | ht
  · exact ws_case ca_others (by decide) co_others.1 co_others.2 i0 i9 hs hv (two_others _ _ _ C) kk
  rcases List.mem_cons.mp ht with rfl | ht
  · exact ws_case ca_other (by decide) co_other.1 co_other.2 i0 i9 hs hv (two_other _ _ _ _ C) kk
  rcases List.mem_cons.mp ht with rfl | ht
  · exact ws_case ca_pairs (by decide) co_pairs.1 co_pairs.2 i0 i9 hs hv (two_pairs _ C) kk
  rcases List.mem_cons.mp ht with rfl | ht
  · exact ws_case ca_hub (by decide) co_hub.1 co_hub.2 i0 i9 hs hv (two_hub _ C) kk
  rcases List.mem_cons.mp ht with rfl | ht
  · exact ws_case ca_slowest (by decide) co_slowest.1 co_slowest.2 i0 i9 hs hv (two_slowest _ C) kk
  rcases List.mem_cons.mp ht with rfl | ht
  · exact ws_case ca_needs (by decide) co_needs.1 co_needs.2 i0 i9 hs hv (two_needs _ _ _ _ C) kk
  rcases List.mem_cons.mp ht with rfl | ht
  · exact ws_case ca_vital (by decide) co_vital.1 co_vital.2 i0 i9 hs hv (two_vital _ _ _ C) kk
  rcases List.mem_cons.mp ht with rfl | ht
  · exact ws_case ca_slack (by decide) co_slack.1 co_slack.2 i0 i9 hs hv (two_slack _ _ _ _ C) kk
  rcases List.mem_cons.mp ht with rfl | ht
  · exact ws_case ca_why (by decide) co_why.1 co_why.2 i0 i9 hs hv (two_why _ _ _ _ C) kk
  rcases List.mem_cons.mp ht with rfl | ht
  · exact ws_case ca_cancel (by decide) co_cancel.1 co_cancel.2 i0 i9 hs hv (two_cancel _ C) kk
  rcases List.mem_cons.mp ht with rfl | ht
  · exact ws_case ca_run (by decide) co_run.1 co_run.2 i0 i9 hs hv (two_run _ C) kk
  rcases List.mem_cons.mp ht with rfl | ht
  · exact ws_case ca_delay (by decide) co_delay.1 co_delay.2 i0 i9 hs hv (two_delay _ _ C) kk
  rcases List.mem_cons.mp ht with rfl | ht
  · exact ws_case ca_change (by decide) co_change.1 co_change.2 i0 i9 hs hv (two_change _ _ C) kk
  rcases List.mem_cons.mp ht with rfl | ht
  · exact ws_case ca_hold (by decide) co_hold.1 co_hold.2 i0 i9 hs hv (two_hold _ _ C) kk
  rcases List.mem_cons.mp ht with rfl | ht
  · exact ws_case ca_extra (by decide) co_extra.1 co_extra.2 i0 i9 hs hv (two_extra _ _ _ _ _ C) kk
  rcases List.mem_cons.mp ht with rfl | ht
  · exact ws_case ca_undo (by decide) co_undo.1 co_undo.2 i0 i9 hs hv (two_undo C) kk
  rcases List.mem_cons.mp ht with rfl | ht
  · exact ws_still i0 i9 hs hu C (fun h2 r2 c => k h2 r2 _ c (Nat.le_refl _) (Nat.le_refl _))
  rcases List.mem_cons.mp ht with rfl | ht
  · exact ws_case ca_size (by decide) co_size.1 co_size.2 i0 i9 hs hv (two_size _ C) kk
  rcases List.mem_cons.mp ht with rfl | ht
  · exact ws_case ca_trouble (by decide) co_trouble.1 co_trouble.2 i0 i9 hs hv (two_trouble C) kk
  cases ht
/-- the law's end -/
def endX : mX := fun pc ls st h r u => pc = 2179 ∧ st = [vI 1] ∧ u.1 ≤ 1112 ∧ u.2 ≤ 43168
set_option maxRecDepth 100000 in
set_option maxHeartbeats 1000000 in
theorem ws_loop (hs : sc.1 ≤ 3072) : ∀ (M k : Nat) (h : mH) (r : mR) (u : mU), 600 - k = M → k ≤ 512 → Cp h r → u.1 ≤ 87 + k → u.2 ≤ 35500 + 6 * k → WPs sc (true, room_1) m_La_law endX 23 (lsL (6 * (k : Int))) [] h r u := by
  intro M
  induction M using Nat.strongRecOn with
  | ind M ih =>
    intro k h r u hM hk C u1 u2
    refine WPs.row (wq_iload (i := 4) (x := 6 * (k : Int)) (q := 25) rfl rfl rfl) ?_
    refine WPs.row (wq_aload_n (x := sScr) (kk := 0) (q := 26) rfl rfl rfl) ?_
    refine ws_len (q := 27) rfl rfl hs ?_
    refine WPs.row (wq_bipush (n := 6) (q := 29) rfl rfl rfl) ?_
    refine WPs.row (wq_isub (q := 30) rfl rfl (by omega) (by omega)) ?_
    by_cases z : (sc.1 : Int) - 6 < 6 * (k : Int)
    · refine WPs.at (pc' := 2178) (ls' := (lsL (6 * (k : Int)))) (st' := []) (h' := h) (r' := r) (u' := u) (wq_icmp_gt (q := 33) (tgt := 2178) rfl rfl rfl (fun _ => WP.exit ⟨rfl, rfl, rfl, rfl, rfl, rfl⟩) (fun y => absurd z y)) ?_
      refine WPs.row (wq_iconst (n := 1) (q := 2179) rfl rfl rfl) ?_
      exact WPs.exit ⟨rfl, rfl, by omega, by omega⟩
    · refine WPs.at (pc' := 33) (ls' := (lsL (6 * (k : Int)))) (st' := []) (h' := h) (r' := r) (u' := u) (wq_icmp_gt (q := 33) (tgt := 2178) rfl rfl rfl (fun y => absurd y z) (fun _ => WP.exit ⟨rfl, rfl, rfl, rfl, rfl, rfl⟩)) ?_
      have i9 : 6 * (k : Int) + 6 ≤ sc.1 := by omega
      have i0 : 0 ≤ 6 * (k : Int) := by omega
      have e : 6 * (k : Int) + 6 = 6 * ((k + 1 : Nat) : Int) := by omega
      have nx : ∀ h2 r2 u2, CpS h2 r2 → u2.1 ≤ u.1 + 1 → u2.2 ≤ u.2 + 6 → WPs sc (true, room_1) m_La_law endX 2172 (lsL (6 * (k : Int))) [] h2 r2 u2 := fun h2 r2 u2 c v1 v2 =>
        ws_next i0 i9 hs (fun h3 r3 c3 => by
          rw [e]
          exact ih (600 - (k + 1)) (by omega) (k + 1) h3 r3 u2 rfl (by omega) c3 (by omega) (by omega)) h2 r2 c
      refine WPs.row (wq_aload_n (x := sScr) (kk := 0) (q := 34) rfl rfl rfl) ?_
      refine WPs.row (wq_iload (i := 4) (x := 6 * (k : Int)) (q := 36) rfl rfl rfl) ?_
      refine ws_ld (q := 37) rfl rfl (by omega) (by omega) ?_
      refine WPs.row (wq_bipush (n := 63) (q := 39) rfl rfl rfl) ?_
      refine WPs.row (wq_iand (q := 40) rfl rfl) ?_
      refine WPs.step (Y := fun a b c d e f => (a = 2172 ∨ a ∈ tgL) ∧ b = lsL (6 * (k : Int)) ∧ c = [] ∧ d = h ∧ e = r ∧ f = u) (wq_tabL (tg := tgL) (td := 2172) rfl rfl rfl (fun _ => WP.exit ⟨Or.inl rfl, rfl, rfl, rfl, rfl, rfl⟩) (fun j t hj _ => WP.exit ⟨Or.inr (List.mem_of_getElem? hj), rfl, rfl, rfl, rfl, rfl⟩)) ?_
      rintro a _ _ h r u ⟨ha, rfl, rfl, rfl, rfl, rfl⟩
      rcases ha with rfl | ha
      · exact nx _ _ _ (Or.inl C) (by omega) (by omega)
      · exact ws_sel ha i0 i9 hs (by omega) C nx
end LP

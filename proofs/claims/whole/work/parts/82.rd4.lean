/-! LinkTimes$Reader: spots, lines, links -/
theorem dM_spot {h : mH} {R : mF} {g w : Int} (m : dM 13 h R) (h1 : 0 ≤ R 1 ∧ R 1 < 10) (h4 : 0 ≤ R 4) : dM 13 (x_addSpot h g w) (up (up (up R (5 + R 1) g) (15 + R 1) w) 1 (R 1 + 1)) := by
  obtain ⟨d0, d1, d2, d3, d4, d5, d6⟩ := m
  generalize hR : up (up (up R (5 + R 1) g) (15 + R 1) w) 1 (R 1 + 1) = R'
  have e1 : R' 1 = R 1 + 1 := by rw [← hR, up_s]
  have el : ∀ j, j ≠ 1 → j ≠ 15 + R 1 → j ≠ 5 + R 1 → R' j = R j := fun j x y z => by rw [← hR, up_n x, up_n y, up_n z]
  have ew : R' (15 + R 1) = w := by rw [← hR, up_n (by omega), up_s]
  have eg : R' (5 + R 1) = g := by rw [← hR, up_n (by omega), up_n (by omega), up_s]
  have e4 := el 4 (by omega) (by omega) (by omega)
  unfold x_addSpot
  rw [d1]
  refine ⟨?_, ?_, ?_, ?_, ?_, fun s s0 s1 => ?_, fun d q0 q1 => ?_⟩
  · rw [hup_j (by decide), hup_i (by decide), hup_i (by decide), el 0 (by omega) (by omega) (by omega)]; exact d0
  · rw [hup_s, e1]
  · rw [hup_j (by decide), hup_i (by decide), hup_i (by decide), el 2 (by omega) (by omega) (by omega)]; exact d2
  · rw [hup_j (by decide), hup_i (by decide), hup_i (by decide), el 3 (by omega) (by omega) (by omega)]; exact d3
  · rw [hup_j (by decide), hup_i (by decide), hup_i (by decide), e4]; exact d4
  · show hup (hup (hup h 14 (R 1) g) 15 (R 1) w) 13 1 (R 1 + 1) 14 s = _ ∧ hup (hup (hup h 14 (R 1) g) 15 (R 1) w) 13 1 (R 1 + 1) 15 s = _
    by_cases es : s = R 1
    · subst es
      refine ⟨?_, ?_⟩
      · rw [hup_i (by decide), hup_i (by decide), hup_s, eg]
      · rw [hup_i (by decide), hup_s, ew]
    · have z := d5 s s0 (by omega)
      refine ⟨?_, ?_⟩
      · rw [hup_i (by decide), hup_i (by decide), hup_j es, el (5 + s) (by omega) (by omega) (by omega)]; exact z.1
      · rw [hup_i (by decide), hup_j es, hup_i (by decide), el (15 + s) (by omega) (by omega) (by omega)]; exact z.2
  · have z := d6 d q0 (by omega)
    simp only [Nat.reduceAdd] at z ⊢
    simp only [hup_i (show ¬ 16 = 13 by decide), hup_i (show ¬ 16 = 14 by decide), hup_i (show ¬ 16 = 15 by decide), hup_i (show ¬ 17 = 13 by decide), hup_i (show ¬ 17 = 14 by decide), hup_i (show ¬ 17 = 15 by decide), hup_i (show ¬ 18 = 13 by decide), hup_i (show ¬ 18 = 14 by decide), hup_i (show ¬ 18 = 15 by decide), hup_i (show ¬ 19 = 13 by decide), hup_i (show ¬ 19 = 14 by decide), hup_i (show ¬ 19 = 15 by decide), hup_i (show ¬ 20 = 13 by decide), hup_i (show ¬ 20 = 14 by decide), hup_i (show ¬ 20 = 15 by decide), hup_i (show ¬ 21 = 13 by decide), hup_i (show ¬ 21 = 14 by decide), hup_i (show ¬ 21 = 15 by decide), hup_i (show ¬ 22 = 13 by decide), hup_i (show ¬ 22 = 14 by decide), hup_i (show ¬ 22 = 15 by decide), hup_i (show ¬ 23 = 13 by decide), hup_i (show ¬ 23 = 14 by decide), hup_i (show ¬ 23 = 15 by decide)]
    rw [el (25 + 8 * d) (by omega) (by omega) (by omega), el (25 + 8 * d + 1) (by omega) (by omega) (by omega), el (25 + 8 * d + 2) (by omega) (by omega) (by omega), el (25 + 8 * d + 3) (by omega) (by omega) (by omega), el (25 + 8 * d + 4) (by omega) (by omega) (by omega), el (25 + 8 * d + 5) (by omega) (by omega) (by omega), el (25 + 8 * d + 6) (by omega) (by omega) (by omega), el (25 + 8 * d + 7) (by omega) (by omega) (by omega)]
    exact z
/-- a field of the desk alone -/
theorem dM_fld {i : Nat} {h : mH} {R : mF} {k v : Int} (m : dM i h R) (hk : k = 0 ∨ k = 2 ∨ k = 3) : dM i (hup h i k v) (up R k v) := by
  obtain ⟨d0, d1, d2, d3, d4, d5, d6⟩ := m
  have el : ∀ j, h i j = R j → hup h i k v i j = up R k v j := fun j hj => by
    by_cases e : j = k
    · subst e; rw [hup_s, up_s]
    · rw [hup_j e, up_n e]; exact hj
  have e1 : up R k v 1 = R 1 := up_n (by omega)
  have e4 : up R k v 4 = R 4 := up_n (by omega)
  refine ⟨el 0 d0, el 1 d1, el 2 d2, el 3 d3, el 4 d4, fun s s0 s1 => ?_, fun d q0 q1 => ?_⟩
  · rw [hup_i (by omega), hup_i (by omega), up_n (by omega), up_n (by omega)]
    exact d5 s s0 (by omega)
  · rw [hup_i (by omega), hup_i (by omega), hup_i (by omega), hup_i (by omega), hup_i (by omega), hup_i (by omega), hup_i (by omega), hup_i (by omega), up_n (by omega), up_n (by omega), up_n (by omega), up_n (by omega), up_n (by omega), up_n (by omega), up_n (by omega), up_n (by omega)]
    exact d6 d q0 (by omega)
theorem xad_e {i : Nat} {h : mH} {l a b t w k : Int} : (∀ j, j ≠ 4 → x_addDep i h l a b t w k i j = h i j) ∧ x_addDep i h l a b t w k i 4 = h i 4 + 1 ∧ (∀ j, x_addDep i h l a b t w k (i + 1) j = h (i + 1) j ∧ x_addDep i h l a b t w k (i + 2) j = h (i + 2) j) ∧ (∀ d c, d ≠ h i 4 → x_addDep i h l a b t w k c d = h c d ∨ c = i) ∧ x_addDep i h l a b t w k (i + 3) (h i 4) = l ∧ x_addDep i h l a b t w k (i + 4) (h i 4) = a ∧ x_addDep i h l a b t w k (i + 5) (h i 4) = b ∧ x_addDep i h l a b t w k (i + 6) (h i 4) = t ∧ x_addDep i h l a b t w k (i + 7) (h i 4) = w ∧ x_addDep i h l a b t w k (i + 8) (h i 4) = 0 ∧ x_addDep i h l a b t w k (i + 9) (h i 4) = k ∧ x_addDep i h l a b t w k (i + 10) (h i 4) = 0 := by
  unfold x_addDep
  refine ⟨fun j hj => ?_, ?_, fun j => ⟨?_, ?_⟩, fun d c hd => ?_, ?_, ?_, ?_, ?_, ?_, ?_, ?_, ?_⟩
  · rw [hup_j hj, hup_i (by omega), hup_i (by omega), hup_i (by omega), hup_i (by omega), hup_i (by omega), hup_i (by omega), hup_i (by omega), hup_i (by omega)]
  · rw [hup_s]
  · rw [hup_i (by omega), hup_i (by omega), hup_i (by omega), hup_i (by omega), hup_i (by omega), hup_i (by omega), hup_i (by omega), hup_i (by omega), hup_i (by omega)]
  · rw [hup_i (by omega), hup_i (by omega), hup_i (by omega), hup_i (by omega), hup_i (by omega), hup_i (by omega), hup_i (by omega), hup_i (by omega), hup_i (by omega)]
  · by_cases e : c = i
    · exact Or.inr e
    · left
      rw [hup_i e, hup_j hd, hup_j hd, hup_j hd, hup_j hd, hup_j hd, hup_j hd, hup_j hd, hup_j hd]
  · rw [hup_i (by omega), hup_i (by omega), hup_i (by omega), hup_i (by omega), hup_i (by omega), hup_i (by omega), hup_i (by omega), hup_i (by omega), hup_s]
  · rw [hup_i (by omega), hup_i (by omega), hup_i (by omega), hup_i (by omega), hup_i (by omega), hup_i (by omega), hup_i (by omega), hup_s]
  · rw [hup_i (by omega), hup_i (by omega), hup_i (by omega), hup_i (by omega), hup_i (by omega), hup_i (by omega), hup_s]
  · rw [hup_i (by omega), hup_i (by omega), hup_i (by omega), hup_i (by omega), hup_i (by omega), hup_s]
  · rw [hup_i (by omega), hup_i (by omega), hup_i (by omega), hup_i (by omega), hup_s]
  · rw [hup_i (by omega), hup_i (by omega), hup_i (by omega), hup_s]
  · rw [hup_i (by omega), hup_i (by omega), hup_s]
  · rw [hup_i (by omega), hup_s]
theorem dM_add {i : Nat} {h : mH} {R : mF} {l a b t w k : Int} (m : dM i h R) (h4 : 0 ≤ R 4) (h1 : R 1 ≤ 10) : dM i (x_addDep i h l a b t w k) (add1 R l a b t w k) := by
  obtain ⟨d0, d1, d2, d3, d4, d5, d6⟩ := m
  obtain ⟨x0, x4, xs, xd, y3, y4, y5, y6, y7, y8, y9, y10⟩ := xad_e (i := i) (h := h) (l := l) (a := a) (b := b) (t := t) (w := w) (k := k)
  obtain ⟨el, e4, f0, f1, f2, f3, f4, f5, f6, f7⟩ := add1_e (R := R) (l := l) (a := a) (b := b) (t := t) (w := w) (k := k) h4
  generalize x_addDep i h l a b t w k = h' at *
  generalize add1 R l a b t w k = R' at *
  have e1 := el 1 (by omega) (by omega)
  refine ⟨?_, ?_, ?_, ?_, ?_, fun s s0 s1 => ?_, fun d q0 q1 => ?_⟩
  · rw [x0 0 (by decide), el 0 (by omega) (by omega)]; exact d0
  · rw [x0 1 (by decide), e1]; exact d1
  · rw [x0 2 (by decide), el 2 (by omega) (by omega)]; exact d2
  · rw [x0 3 (by decide), el 3 (by omega) (by omega)]; exact d3
  · rw [x4, e4, d4]
  · rw [(xs s).1, (xs s).2, el (5 + s) (by omega) (by omega), el (15 + s) (by omega) (by omega)]
    exact d5 s s0 (by omega)
  · by_cases e : d = R 4
    · subst e
      rw [d4] at y3 y4 y5 y6 y7 y8 y9 y10
      rw [y3, y4, y5, y6, y7, y8, y9, y10, f0, f1, f2, f3, f4, f5, f6, f7]
      exact ⟨rfl, rfl, rfl, rfl, rfl, rfl, rfl, rfl⟩
    · have hd : d ≠ h i 4 := by rw [d4]; exact e
      have cc : ∀ c : Nat, c ≠ 0 → h' (i + c) d = h (i + c) d := fun c hc => (xd d (i + c) hd).resolve_right (by omega)
      rw [cc 3 (by decide), cc 4 (by decide), cc 5 (by decide), cc 6 (by decide), cc 7 (by decide), cc 8 (by decide), cc 9 (by decide), cc 10 (by decide), el (25 + 8 * d) (by omega) (by omega), el (25 + 8 * d + 1) (by omega) (by omega), el (25 + 8 * d + 2) (by omega) (by omega), el (25 + 8 * d + 3) (by omega) (by omega), el (25 + 8 * d + 4) (by omega) (by omega), el (25 + 8 * d + 5) (by omega) (by omega), el (25 + 8 * d + 6) (by omega) (by omega), el (25 + 8 * d + 7) (by omega) (by omega)]
      exact d6 d q0 (by omega)
theorem rdM_spot {T : mF} {n p1 p3 w : Int} {st : pS} {h : mH} (hM : rdM T n h st) (hV : PV T n st) (h1 : st.1 1 < 10) : rdM T n (x_addSpot (hup h 25 (h 13 1) (c27 T n p1)) (c10 T n p3) w) (sSp T n st p1 p3 w) := by
  have b1 := hV.1.2.1
  have b4 := hV.1.2.2.2.2.1
  have d1 := hM.1.2.1
  have f : fr [25] h (hup h 25 (h 13 1) (c27 T n p1)) := fr.rf.up (by decide)
  have f2 : fr [13, 14, 15] (hup h 25 (h 13 1) (c27 T n p1)) (x_addSpot (hup h 25 (h 13 1) (c27 T n p1)) (c10 T n p3) w) := ((fr.rf.up (by decide)).up (by decide)).up (by decide)
  refine ⟨dM_spot (hM.1.fr f (by decide)) ⟨b1.1, h1⟩ b4.1, fun s s0 s1 => ?_, fun s s0 s1 => ?_⟩
  · have s1' : s < up (up (up st.1 (5 + st.1 1) (c10 T n p3)) (15 + st.1 1) w) 1 (st.1 1 + 1) 1 := s1
    rw [up_s] at s1'
    rw [f2.at 25 s (by decide), d1]
    show _ = c27 T n (up st.2.1 (st.1 1) p1 s)
    by_cases es : s = st.1 1
    · subst es; rw [hup_s, up_s]
    · rw [hup_j es, up_n es]; exact hM.2.1 s s0 (by omega)
  · have s1' : s < up (up (up st.1 (5 + st.1 1) (c10 T n p3)) (15 + st.1 1) w) 1 (st.1 1 + 1) 2 := s1
    rw [up_n (by decide), up_n (by omega), up_n (by omega)] at s1'
    rw [f2.at 26 s (by decide), f.at 26 s (by decide)]
    exact hM.2.2 s s0 s1'
theorem rdF_g {S : List Nat} {h h1 h2 : mH} (f : rdF h h1) (f2 : fr S h1 h2) (hS : ∀ i ∈ S, i ∈ rlC) (h24 : 24 ∉ S) : rdF h h2 := ⟨f.1.trans f2 hS, by rw [f2 24 h24]; exact f.2⟩
set_option maxRecDepth 100000 in
set_option maxHeartbeats 1000000 in
theorem Re_readSpotB (T : mF) (n p1 p3 q w : Int) (st : pS) (x : pX) (h : mH) (r : mR) (h0 : mH) (hrde : r.1 24 4 = some 13) (hM : rdM T n h0 st) (hV : PV T n st) (hz : st.1 1 < 10) (ex : x = (0, 0, q, sSp T n st p1 p3 w)) (hF : rdF h h0) (hk : tkd T n q h0) (g0 : h0 24 0 = h 24 0) (g1 : h0 24 1 = h 24 1) : WP (true, rm 9) m_Re_readSpot (rt m_Re_readSpot (rm 9) (lnQ T n x h r)) 78 [some (vR 24), some (vI (c27 T n p1)), some (vI (c10 T n p3)), some (vI w)] [] h0 r (0, 0) := by
  have b1 := hV.1.2.1
  have d1 := hM.1.2.1
  have d1' : hup h0 25 (h0 13 1) (c27 T n p1) 13 1 = h0 13 1 := hup_i (by decide)
  have f2 : fr [13, 14, 15, 25] h0 (x_addSpot (hup h0 25 (h0 13 1) (c27 T n p1)) (c10 T n p3) w) := (((fr.rf.up (by decide)).up (by decide)).up (by decide)).up (by decide)
  refine wq_aload_n (kk := 0) (q := 79) rfl rfl rfl ?_
  refine wq_getF (q := 82) f_Re_9 rfl rfl (Nat.le_of_ble_eq_true rfl) rfl rfl rfl ?_
  refine wq_aload_n (kk := 0) (q := 83) rfl rfl rfl ?_
  refine wq_getR (q := 86) f_Re_22 rfl rfl (Or.inl ⟨rfl, Nat.le_of_ble_eq_true rfl⟩) hrde rfl rfl ?_
  refine wq_getI (kz := 1) (q := 89) rfl f_Re_83 rfl rfl (Or.inl ⟨rfl, Nat.le_of_ble_eq_true rfl⟩) rfl rfl ?_
  refine wq_iload_n (kk := 1) (q := 90) rfl rfl rfl ?_
  refine wq_iast (q := 91) rfl (Or.inl ⟨rfl, Nat.le_of_ble_eq_true rfl⟩) rfl rfl (by first | omega | (simp [hup]; omega)) (by first | omega | (simp [hup]; omega)) ?_
  refine wq_aload_n (kk := 0) (q := 92) rfl rfl rfl ?_
  refine wq_getR (q := 95) f_Re_22 rfl rfl (Or.inl ⟨rfl, Nat.le_of_ble_eq_true rfl⟩) hrde rfl rfl ?_
  refine wq_iload_n (kk := 2) (q := 96) rfl rfl rfl ?_
  refine wq_iload_n (kk := 3) (q := 97) rfl rfl rfl ?_
  refine wq_callV (q := 100) (m' := m_De_addSpot) (R' := rm 1) (As := [_, _]) rfl rfl l_Re_129 vm_De_addSpot rfl rfl rfl (Or.inl ⟨rfl, Nat.le_of_ble_eq_true rfl⟩) (Nat.le_of_ble_eq_true rfl) (Nat.le_of_ble_eq_true rfl) (Nat.le_refl _) (Nat.le_refl _) (Nat.le_of_ble_eq_true rfl) (De_addSpot_ok (c10 T n p3) w _ r (by omega) (by omega)) rfl ?_
  rintro rv h1 r ⟨rfl, rfl, rfl⟩ -
  refine wq_iconst (n := 1) (q := 101) rfl rfl rfl ?_
  refine wq_zret rfl rfl (Nat.le_refl _) (Nat.le_refl _) (by omega) (lnQ.y ex (rdF_g hF f2 (by decide) (by decide)) ?_ (rdM_spot hM hV hz) ?_ ?_)
  · unfold tkd
    rw [f2 24 (by decide)]
    exact hk
  · rw [f2 24 (by decide)]; exact g0
  · rw [f2 24 (by decide)]; exact g1
set_option maxRecDepth 100000 in
set_option maxHeartbeats 1000000 in
theorem Re_readSpot_ok (T : mF) (n p : Int) (st : pS) (h : mH) (r : mR) (hrde : r.1 24 4 = some 13) (hS : rdS T n p h) (hk : tkd T n p h) (hM : rdM T n h st) (hV : PV T n st) (hz : st.1 1 < 10) : Meets true (rm 9) m_Re_readSpot [vR 24] h r (lnQ T n (pSpot T n p st) h r) := by
  obtain ⟨s1, p1⟩ := tkd_nx hS hk
  refine ⟨ok_Re_readSpot, Nat.le_of_ble_eq_true rfl, ?_⟩
  refine wq_aload_n (kk := 0) (q := 1) rfl rfl rfl ?_
  refine wq_callV (q := 4) (m' := m_Re_expectNewName) (R' := rm 8) (As := []) rfl rfl l_Re_122 vm_Re_expectNewName rfl rfl rfl (Or.inl ⟨rfl, Nat.le_of_ble_eq_true rfl⟩) (Nat.le_of_ble_eq_true rfl) (Nat.le_of_ble_eq_true rfl) (Nat.le_refl _) (Nat.le_refl _) (Nat.le_of_ble_eq_true rfl) (Re_expectNewName_ok T n _ st h r hrde s1 p1 hM hV) rfl ?_
  rintro rv h1 r ⟨rfl, rfl, e1⟩ -
  obtain ⟨s2, p2⟩ := exp1_nx s1 e1
  have g1 := rdF_f rdF.rf e1.1 (by decide)
  have m1 := rdM_f hM e1.1.1
  refine wq_cif_ne (tgt := 9) (q := 7) rfl rfl rfl (fun c4 => ?_) (fun c4 => ?_)
  · skip
    refine wq_aload_n (kk := 0) (q := 10) rfl rfl rfl ?_
    refine wq_getI (kz := 13) (q := 13) rfl f_Re_119 rfl rfl (Or.inl ⟨rfl, Nat.le_of_ble_eq_true rfl⟩) rfl rfl ?_
    have v1 := xA_0 c4
    rw [e1.2.1.2.2.2.1 v1.1.1]
    refine wq_istore_n (kk := 1) (q := 14) rfl rfl (Nat.le_of_ble_eq_true rfl) rfl ?_
    refine wq_aload_n (kk := 0) (q := 15) rfl rfl rfl ?_
    refine wq_ldcs (j := 5) (q := 17) (by decide) (Nat.le_of_ble_eq_true rfl) rfl rfl ?_
    refine wq_callV (q := 20) (m' := m_Re_expectWord) (R' := rm 7) (As := [_]) rfl rfl l_Re_113 vm_Re_expectWord rfl rfl rfl (Or.inl ⟨rfl, Nat.le_of_ble_eq_true rfl⟩) (Nat.le_of_ble_eq_true rfl) (Nat.le_of_ble_eq_true rfl) (Nat.le_refl _) (Nat.le_refl _) (Nat.le_of_ble_eq_true rfl) (Re_expectWord_ok 5 (by decide) T n _ h1 r s2 p2) rfl ?_
    rintro rv h2 r ⟨rfl, rfl, e2⟩ -
    obtain ⟨s3, p3⟩ := exp1_nx s2 e2
    have g2 := rdF_f g1 e2.1 (by decide)
    have m2 := rdM_f m1 e2.1.1
    refine wq_cif_eq (tgt := 33) (q := 23) rfl rfl rfl (fun c20 => ?_) (fun c20 => ?_)
    · skip
      refine wq_iconst (n := 0) (q := 34) rfl rfl rfl ?_
      first
      | exact wq_zret rfl rfl (Nat.le_refl _) (Nat.le_refl _) (by omega) (lnQ.n (by unfold pSpot pSpot1; rw [ch_y c4, ch_y (xW_0 c20), ch_n c30]) c30 g3 (e3.2.2.2 c30))
      | exact wq_zret rfl rfl (Nat.le_refl _) (Nat.le_refl _) (by omega) (lnQ.n (by unfold pSpot pSpot1; rw [ch_y c4, ch_n (xW_n c20)]) (xW_n c20) g2 (e2.2.2.2 (xW_n c20)))
    · skip
      refine wq_aload_n (kk := 0) (q := 24) rfl rfl rfl ?_
      refine wq_iconst (n := 0) (q := 25) rfl rfl rfl ?_
      refine wq_bipush (n := 99) (q := 27) rfl rfl rfl ?_
      refine wq_callV (q := 30) (m' := m_Re_expectWhole) (R' := rm 4) (As := [_, _]) rfl rfl l_Re_116 vm_Re_expectWhole rfl rfl rfl (Or.inl ⟨rfl, Nat.le_of_ble_eq_true rfl⟩) (Nat.le_of_ble_eq_true rfl) (Nat.le_of_ble_eq_true rfl) (Nat.le_refl _) (Nat.le_refl _) (Nat.le_of_ble_eq_true rfl) (Re_expectWhole_ok 0 99 T n _ h2 r s3 p3) rfl ?_
      rintro rv h3 r ⟨rfl, rfl, e3⟩ -
      obtain ⟨s4, p4⟩ := exp1_nx s3 e3
      have g3 := rdF_f g2 e3.1 (by decide)
      have m3 := rdM_f m2 e3.1.1
      refine wq_cif_ne (tgt := 35) (q := 33) rfl rfl rfl (fun c30 => ?_) (fun c30 => ?_)
      · skip
        refine wq_aload_n (kk := 0) (q := 36) rfl rfl rfl ?_
        refine wq_getI (kz := 13) (q := 39) rfl f_Re_119 rfl rfl (Or.inl ⟨rfl, Nat.le_of_ble_eq_true rfl⟩) rfl rfl ?_
        have v3 := xN_0 c30
        rw [e3.2.1.2.2.2.2 v3.1]
        have x1 := lift0 e1 c4 rfl rfl
        have x2 := lift0 e2 (xW_0 c20) x1.1 x1.2
        have x3 := lift0 e3 c30 x2.1 x2.2
        refine wq_istore_n (kk := 2) (q := 40) rfl rfl (Nat.le_of_ble_eq_true rfl) rfl ?_
        refine wq_bipush (n := -2) (q := 42) rfl rfl rfl ?_
        refine wq_istore_n (kk := 3) (q := 43) rfl rfl (Nat.le_of_ble_eq_true rfl) rfl ?_
        refine wq_aload_n (kk := 0) (q := 44) rfl rfl rfl ?_
        refine wq_callV (q := 47) (m' := m_Re_advance) (R' := rm 3) (As := []) rfl rfl l_Re_67 vm_Re_advance rfl rfl rfl (Or.inl ⟨rfl, Nat.le_of_ble_eq_true rfl⟩) (Nat.le_of_ble_eq_true rfl) (Nat.le_of_ble_eq_true rfl) (Nat.le_refl _) (Nat.le_refl _) (Nat.le_of_ble_eq_true rfl) (rdS.adv s4 p4) rfl ?_
        rintro rv h4 r ⟨rfl, rfl, f4, k4, t4⟩ -
        have s4' := rdS_f s4 f4 (by decide)
        have g4 := rdF_f g3 f4 (by decide)
        have m4 := rdM_f m3 f4.1
        have x4 : h4 24 0 = h 24 0 ∧ h4 24 1 = h 24 1 := ⟨by rw [f4.2 0 (by decide)]; exact x3.1, by rw [f4.2 1 (by decide)]; exact x3.2⟩
        obtain ⟨s5, p5⟩ := tkd_nx s4' k4
        refine wq_aload_n (kk := 0) (q := 48) rfl rfl rfl ?_
        refine wq_ldcs (j := 6) (q := 50) (by decide) (Nat.le_of_ble_eq_true rfl) rfl rfl ?_
        refine wq_callV (q := 53) (m' := m_Re_isWord) (R' := rm 6) (As := [_]) rfl rfl l_Re_71 vm_Re_isWord rfl rfl rfl (Or.inl ⟨rfl, Nat.le_of_ble_eq_true rfl⟩) (Nat.le_of_ble_eq_true rfl) (Nat.le_of_ble_eq_true rfl) (Nat.le_refl _) (Nat.le_refl _) (Nat.le_of_ble_eq_true rfl) (Re_isWord_ok 6 (by decide) T n _ h4 r t4 s4.2.2.1 s4.2.2.2.1 s4.2.2.2.2 k4) rfl ?_
        rintro rv h4 r ⟨rfl, rfl, rfl⟩ -
        refine wq_cif_eq (tgt := 78) (q := 56) rfl rfl rfl (fun c53 => ?_) (fun c53 => ?_)
        · skip
          refine Re_readSpotB T n _ _ _ _ st _ h r h4 hrde m4 hV hz ?_ g4 k4 x4.1 x4.2
          unfold pSpot pSpot1 pSpot4
          rw [ch_y c4, ch_y (xW_0 c20), ch_y c30, if_pos (bI_f c53)]
        · skip
          refine wq_aload_n (kk := 0) (q := 57) rfl rfl rfl ?_
          refine wq_iconst (n := 0) (q := 58) rfl rfl rfl ?_
          refine wq_sipush (n := 999) (q := 61) rfl rfl rfl ?_
          refine wq_callV (q := 64) (m' := m_Re_expectWhole) (R' := rm 4) (As := [_, _]) rfl rfl l_Re_116 vm_Re_expectWhole rfl rfl rfl (Or.inl ⟨rfl, Nat.le_of_ble_eq_true rfl⟩) (Nat.le_of_ble_eq_true rfl) (Nat.le_of_ble_eq_true rfl) (Nat.le_refl _) (Nat.le_refl _) (Nat.le_of_ble_eq_true rfl) (Re_expectWhole_ok 0 999 T n _ h4 r s5 p5) rfl ?_
          rintro rv h5 r ⟨rfl, rfl, e5⟩ -
          obtain ⟨s6, p6⟩ := exp1_nx s5 e5
          have g5 := rdF_f g4 e5.1 (by decide)
          have m5 := rdM_f m4 e5.1.1
          refine wq_cif_ne (tgt := 69) (q := 67) rfl rfl rfl (fun c64 => ?_) (fun c64 => ?_)
          · skip
            refine wq_aload_n (kk := 0) (q := 70) rfl rfl rfl ?_
            refine wq_getI (kz := 13) (q := 73) rfl f_Re_119 rfl rfl (Or.inl ⟨rfl, Nat.le_of_ble_eq_true rfl⟩) rfl rfl ?_
            rw [e5.2.1.2.2.2.2 (xN_0 c64).1]
            have x5 := lift0 e5 c64 x4.1 x4.2
            refine wq_istore_n (kk := 3) (q := 74) rfl rfl (Nat.le_of_ble_eq_true rfl) rfl ?_
            refine wq_aload_n (kk := 0) (q := 75) rfl rfl rfl ?_
            refine wq_callV (q := 78) (m' := m_Re_advance) (R' := rm 3) (As := []) rfl rfl l_Re_67 vm_Re_advance rfl rfl rfl (Or.inl ⟨rfl, Nat.le_of_ble_eq_true rfl⟩) (Nat.le_of_ble_eq_true rfl) (Nat.le_of_ble_eq_true rfl) (Nat.le_refl _) (Nat.le_refl _) (Nat.le_of_ble_eq_true rfl) (rdS.adv s6 p6) rfl ?_
            rintro rv h6 r ⟨rfl, rfl, f6, k6, t6⟩ -
            have g6 := rdF_f g5 f6 (by decide)
            have m6 := rdM_f m5 f6.1
            refine Re_readSpotB T n _ _ _ _ st _ h r h6 hrde m6 hV hz ?_ g6 k6 (by rw [f6.2 0 (by decide)]; exact x5.1) (by rw [f6.2 1 (by decide)]; exact x5.2)
            unfold pSpot pSpot1 pSpot4
            rw [ch_y c4, ch_y (xW_0 c20), ch_y c30, if_neg (by rw [bI_t c53]; decide), ch_y c64]
          · skip
            refine wq_iconst (n := 0) (q := 68) rfl rfl rfl ?_
            exact wq_zret rfl rfl (Nat.le_refl _) (Nat.le_refl _) (by omega) (lnQ.n (by unfold pSpot pSpot1 pSpot4; rw [ch_y c4, ch_y (xW_0 c20), ch_y c30, if_neg (by rw [bI_t c53]; decide), ch_n c64]) c64 g5 (e5.2.2.2 c64))
      · skip
        refine wq_iconst (n := 0) (q := 34) rfl rfl rfl ?_
        first
        | exact wq_zret rfl rfl (Nat.le_refl _) (Nat.le_refl _) (by omega) (lnQ.n (by unfold pSpot pSpot1; rw [ch_y c4, ch_y (xW_0 c20), ch_n c30]) c30 g3 (e3.2.2.2 c30))
        | exact wq_zret rfl rfl (Nat.le_refl _) (Nat.le_refl _) (by omega) (lnQ.n (by unfold pSpot pSpot1; rw [ch_y c4, ch_n (xW_n c20)]) (xW_n c20) g2 (e2.2.2.2 (xW_n c20)))
  · skip
    refine wq_iconst (n := 0) (q := 8) rfl rfl rfl ?_
    exact wq_zret rfl rfl (Nat.le_refl _) (Nat.le_refl _) (by omega) (lnQ.n (by unfold pSpot pSpot1; rw [ch_n c4]) c4 g1 (e1.2.2.2 c4))

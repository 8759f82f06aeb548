/-! LinkTimes$Reader: names of lines, links -/
set_option maxRecDepth 100000 in
set_option maxHeartbeats 1000000 in
theorem Re_readName_ok (T : mF) (n p : Int) (st : pS) (h : mH) (r : mR) (hrde : r.1 24 4 = some 13) (hS : rdS T n p h) (hk : tkd T n p h) (hM : rdM T n h st) (hV : PV T n st) (hz : st.1 2 < 8) : Meets true (rm 9) m_Re_readName [vR 24] h r (lnQ T n (pLine T n p st) h r) := by
  obtain ⟨s1, p1⟩ := tkd_nx hS hk
  have b2 := hV.1.2.2.1
  refine ⟨ok_Re_readName, Nat.le_of_ble_eq_true rfl, ?_⟩
  refine wq_aload_n (kk := 0) (q := 1) rfl rfl rfl ?_
  refine wq_callV (q := 4) (m' := m_Re_expectNewName) (R' := rm 8) (As := []) rfl rfl l_Re_122 vm_Re_expectNewName rfl rfl rfl (Or.inl ⟨rfl, Nat.le_of_ble_eq_true rfl⟩) (Nat.le_of_ble_eq_true rfl) (Nat.le_of_ble_eq_true rfl) (Nat.le_refl _) (Nat.le_refl _) (Nat.le_of_ble_eq_true rfl) (Re_expectNewName_ok T n _ st h r hrde s1 p1 hM hV) rfl ?_
  rintro rv h1 r ⟨rfl, rfl, e1⟩ -
  obtain ⟨s2, p2⟩ := exp1_nx s1 e1
  have g1 := rdF_f rdF.rf e1.1 (by decide)
  have m1 := rdM_f hM e1.1.1
  have d2 := m1.1.2.2.1
  refine wq_cif_ne (tgt := 9) (q := 7) rfl rfl rfl (fun c4 => ?_) (fun c4 => ?_)
  · skip
    refine wq_aload_n (kk := 0) (q := 10) rfl rfl rfl ?_
    refine wq_getF (q := 13) f_Re_15 rfl rfl (Nat.le_of_ble_eq_true rfl) rfl rfl rfl ?_
    refine wq_aload_n (kk := 0) (q := 14) rfl rfl rfl ?_
    refine wq_getR (q := 17) f_Re_22 rfl rfl (Or.inl ⟨rfl, Nat.le_of_ble_eq_true rfl⟩) hrde rfl rfl ?_
    refine wq_getI (kz := 2) (q := 20) rfl f_Re_95 rfl rfl (Or.inl ⟨rfl, Nat.le_of_ble_eq_true rfl⟩) rfl rfl ?_
    refine wq_aload_n (kk := 0) (q := 21) rfl rfl rfl ?_
    refine wq_getI (kz := 13) (q := 24) rfl f_Re_119 rfl rfl (Or.inl ⟨rfl, Nat.le_of_ble_eq_true rfl⟩) rfl rfl ?_
    have v1 := xA_0 c4
    have x1 := lift0 e1 c4 rfl rfl
    rw [e1.2.1.2.2.2.1 v1.1.1]
    refine wq_iast (q := 25) rfl (Or.inl ⟨rfl, Nat.le_of_ble_eq_true rfl⟩) rfl rfl (by first | omega | (simp [hup]; omega)) (by first | omega | (simp [hup]; omega)) ?_
    refine wq_aload_n (kk := 0) (q := 26) rfl rfl rfl ?_
    refine wq_getR (q := 29) f_Re_22 rfl rfl (Or.inl ⟨rfl, Nat.le_of_ble_eq_true rfl⟩) hrde rfl rfl ?_
    refine wq_dup (q := 30) rfl rfl rfl ?_
    refine wq_getI (kz := 2) (q := 33) rfl f_Re_95 rfl rfl (Or.inl ⟨rfl, Nat.le_of_ble_eq_true rfl⟩) rfl rfl ?_
    refine wq_iconst (n := 1) (q := 34) rfl rfl rfl ?_
    refine wq_iadd (q := 35) rfl rfl (by first | omega | (simp [hup]; omega)) (by first | omega | (simp [hup]; omega)) ?_
    refine wq_putI (kz := 2) (q := 38) rfl f_Re_95 rfl rfl rfl (Or.inl ⟨rfl, Nat.le_of_ble_eq_true rfl⟩) rfl rfl ?_
    have eA : hup h1 26 (h1 13 2) (c27 T n (tE T n p)) 13 2 = h1 13 2 := hup_i (by decide)
    rw [eA, d2]
    have f2 : fr [13, 26] h1 (hup (hup h1 26 (st.1 2) (c27 T n (tE T n p))) 13 2 (st.1 2 + 1)) := (fr.rf.up (by decide)).up (by decide)
    have f3 : fr [26] h1 (hup h1 26 (st.1 2) (c27 T n (tE T n p))) := fr.rf.up (by decide)
    have m2 : rdM T n (hup (hup h1 26 (st.1 2) (c27 T n (tE T n p))) 13 2 (st.1 2 + 1)) (up st.1 2 (st.1 2 + 1), st.2.1, up st.2.2 (st.1 2) (tE T n p)) := by
      refine ⟨dM_fld (m1.1.fr f3 (by decide)) (Or.inr (Or.inl rfl)), fun s s0 s1 => ?_, fun s s0 s1 => ?_⟩
      · have s1' : s < up st.1 2 (st.1 2 + 1) 1 := s1
        rw [up_n (by decide)] at s1'
        rw [f2.at 25 s (by decide)]
        exact m1.2.1 s s0 s1'
      · have s1' : s < up st.1 2 (st.1 2 + 1) 2 := s1
        rw [up_s] at s1'
        rw [hup_i (by decide)]
        show _ = c27 T n (up st.2.2 (st.1 2) (tE T n p) s)
        by_cases es : s = st.1 2
        · rw [es, hup_s, up_s]
        · rw [hup_j es, up_n es]; exact m1.2.2 s s0 (by omega)
    have g2 := rdF_g g1 f2 (by decide) (by decide)
    have s3 : rdS T n (tE T n (tE T n p)) (hup (hup h1 26 (st.1 2) (c27 T n (tE T n p))) 13 2 (st.1 2 + 1)) := s2
    refine wq_aload_n (kk := 0) (q := 39) rfl rfl rfl ?_
    refine wq_callV (q := 42) (m' := m_Re_advance) (R' := rm 3) (As := []) rfl rfl l_Re_67 vm_Re_advance rfl rfl rfl (Or.inl ⟨rfl, Nat.le_of_ble_eq_true rfl⟩) (Nat.le_of_ble_eq_true rfl) (Nat.le_of_ble_eq_true rfl) (Nat.le_refl _) (Nat.le_refl _) (Nat.le_of_ble_eq_true rfl) (rdS.adv s3 p2) rfl ?_
    rintro rv h3 r ⟨rfl, rfl, f4, k4, -⟩ -
    refine wq_iconst (n := 1) (q := 43) rfl rfl rfl ?_
    refine wq_zret rfl rfl (Nat.le_refl _) (Nat.le_refl _) (by omega) (lnQ.y (by unfold pLine; rw [ch_y c4]) (rdF_f g2 f4 (by decide)) k4 (rdM_f m2 f4.1) ?_ ?_)
    · rw [f4.2 0 (by decide)]; exact x1.1
    · rw [f4.2 1 (by decide)]; exact x1.2
  · skip
    refine wq_iconst (n := 0) (q := 8) rfl rfl rfl ?_
    exact wq_zret rfl rfl (Nat.le_refl _) (Nat.le_refl _) (by omega) (lnQ.n (by unfold pLine; rw [ch_n c4]) c4 g1 (e1.2.2.2 c4))
abbrev edF : List Int := [0, 1, 7, 8, 9, 10, 11, 12, 13]
/-- what readEnds() finds -/
abbrev enQ (T : mF) (n p1 p2 p3 : Int) (st : pS) (h : mH) (r : mR) : mP := fun rv h1 r1 => r1 = r ∧ f24 edF h h1 ∧
  ((rv = some (vI 1) ∧ (xU T n p1 (fdL T n st p1) = 0 ∧ xU T n p2 (fdS T n st p2) = 0 ∧ xU T n p3 (fdS T n st p3) = 0 ∧ fdS T n st p3 ≠ fdS T n st p2) ∧ tkd T n p3 h1 ∧ h1 24 7 = fdL T n st p1 ∧ h1 24 8 = fdS T n st p2 ∧ h1 24 9 = fdS T n st p3 ∧ h1 24 0 = h 24 0 ∧ h1 24 1 = h 24 1) ∨
   (rv = some (vI 0) ∧ ∃ k pl, k ≠ 0 ∧ ft h1 k pl ∧ pLink1 T n p1 p2 p3 st = (k, pl, 0, st)))
theorem f24_e {T : mF} {n p k : Int} {h h0 h1 : mH} (f : f24 edF h0 h) (he : exp1 T n p h h1 k) : f24 edF h0 h1 := f.tr (he.1.mono (by decide)) (fun _ z => z)
theorem exp1_u {T : mF} {n p k j v : Int} {h h1 : mH} (he : exp1 T n p h h1 k) (hj : j = 7 ∨ j = 8 ∨ j = 9) : tkd T n p (hup h1 24 j v) ∧ hup h1 24 j v 24 0 = h1 24 0 ∧ hup h1 24 j v 24 1 = h1 24 1 := by
  refine ⟨?_, hup_j (by omega), hup_j (by omega)⟩
  unfold tkd
  rw [hup_j (show ¬ (10 : Int) = j by omega), hup_j (show ¬ (11 : Int) = j by omega), hup_j (show ¬ (12 : Int) = j by omega), hup_j (show ¬ (13 : Int) = j by omega)]
  exact he.2.1
set_option maxRecDepth 100000 in
set_option maxHeartbeats 2000000 in
theorem Re_readEnds_ok (T : mF) (n p : Int) (st : pS) (h : mH) (r : mR) (hrde : r.1 24 4 = some 13) (hS : rdS T n p h) (hk : tkd T n p h) (hM : rdM T n h st) (hV : PV T n st) : Meets true (rm 9) m_Re_readEnds [vR 24] h r (enQ T n (tE T n p) (tE T n (tE T n p)) (tE T n (tE T n (tE T n p))) st h r) := by
  obtain ⟨s1, p1⟩ := tkd_nx hS hk
  have b1 := hV.1.2.1
  have b2 := hV.1.2.2.1
  have d1 := hM.1.2.1
  have d2 := hM.1.2.2.1
  have hb := fun q => fd_b (T := T) (n := n) (p := q) hV
  refine ⟨ok_Re_readEnds, Nat.le_of_ble_eq_true rfl, ?_⟩
  refine wq_aload_n (kk := 0) (q := 1) rfl rfl rfl ?_
  refine wq_aload_n (kk := 0) (q := 2) rfl rfl rfl ?_
  refine wq_aload_n (kk := 0) (q := 3) rfl rfl rfl ?_
  refine wq_getF (q := 6) f_Re_15 rfl rfl (Nat.le_of_ble_eq_true rfl) rfl rfl rfl ?_
  refine wq_aload_n (kk := 0) (q := 7) rfl rfl rfl ?_
  refine wq_getR (q := 10) f_Re_22 rfl rfl (Or.inl ⟨rfl, Nat.le_of_ble_eq_true rfl⟩) hrde rfl rfl ?_
  refine wq_getI (kz := 2) (q := 13) rfl f_Re_95 rfl rfl (Or.inl ⟨rfl, Nat.le_of_ble_eq_true rfl⟩) rfl rfl ?_
  refine wq_callV (q := 16) (m' := m_Re_expectTold) (R' := rm 8) (As := [_, _]) rfl rfl l_Re_133 vm_Re_expectTold rfl rfl rfl (Or.inl ⟨rfl, Nat.le_of_ble_eq_true rfl⟩) (Nat.le_of_ble_eq_true rfl) (Nat.le_of_ble_eq_true rfl) (Nat.le_refl _) (Nat.le_refl _) (Nat.le_of_ble_eq_true rfl) (Re_expectTold_ok 26 8 _ (fdL T n st (tE T n p)) (Or.inr ⟨rfl, rfl⟩) T n _ h r s1 p1 (by omega) (by omega) (fun _ => by rw [d2]; exact fdx_c (fun i i0 i1 => by rw [hM.2.2 i i0 i1]))) rfl ?_
  rintro rv h1 r ⟨v, rfl, rfl, e1, v1, v1'⟩ -
  obtain ⟨s2, p2⟩ := exp1_nx s1 e1
  have f1 := f24_e f24.rf e1
  refine wq_putI (kz := 7) (q := 19) rfl f_Re_137 rfl rfl rfl (Or.inl ⟨rfl, Nat.le_of_ble_eq_true rfl⟩) rfl rfl ?_
  refine wq_aload_n (kk := 0) (q := 20) rfl rfl rfl ?_
  refine wq_getI (kz := 7) (q := 23) rfl f_Re_137 rfl rfl (Or.inl ⟨rfl, Nat.le_of_ble_eq_true rfl⟩) rfl rfl ?_
  refine wq_iconst (n := -1) (q := 24) rfl rfl rfl ?_
  refine wq_icmp_ne (tgt := 29) (q := 27) rfl rfl rfl (fun c24 => ?_) (fun c24 => ?_)
  · skip
    rw [hup_s] at c24
    have k1 : xU T n (tE T n p) (fdL T n st (tE T n p)) = 0 := Classical.byContradiction (fun z => c24 (v1' z))
    have w1 := v1 k1
    have f2 := f1.up (k := 7) (v := v) (by decide)
    have s2' : rdS T n (tE T n (tE T n p)) (hup h1 24 7 v) := s2
    have p2' : hup h1 24 7 v 24 12 = tE T n (tE T n p) := p2
    have x1 := lift0 e1 k1 rfl rfl
    have m2 := rdM_f hM f2.1
    have d1' : hup h1 24 7 v 13 1 = st.1 1 := m2.1.2.1
    refine wq_aload_n (kk := 0) (q := 30) rfl rfl rfl ?_
    refine wq_aload_n (kk := 0) (q := 31) rfl rfl rfl ?_
    refine wq_aload_n (kk := 0) (q := 32) rfl rfl rfl ?_
    refine wq_getF (q := 35) f_Re_9 rfl rfl (Nat.le_of_ble_eq_true rfl) rfl rfl rfl ?_
    refine wq_aload_n (kk := 0) (q := 36) rfl rfl rfl ?_
    refine wq_getR (q := 39) f_Re_22 rfl rfl (Or.inl ⟨rfl, Nat.le_of_ble_eq_true rfl⟩) hrde rfl rfl ?_
    refine wq_getI (kz := 1) (q := 42) rfl f_Re_83 rfl rfl (Or.inl ⟨rfl, Nat.le_of_ble_eq_true rfl⟩) rfl rfl ?_
    refine wq_callV (q := 45) (m' := m_Re_expectTold) (R' := rm 8) (As := [_, _]) rfl rfl l_Re_133 vm_Re_expectTold rfl rfl rfl (Or.inl ⟨rfl, Nat.le_of_ble_eq_true rfl⟩) (Nat.le_of_ble_eq_true rfl) (Nat.le_of_ble_eq_true rfl) (Nat.le_refl _) (Nat.le_refl _) (Nat.le_of_ble_eq_true rfl) (Re_expectTold_ok 25 10 _ (fdS T n st (tE T n (tE T n p))) (Or.inl ⟨rfl, rfl⟩) T n _ _ r s2' p2' (by rw [d1']; omega) (by rw [d1']; omega) (fun _ => by rw [d1']; exact fdx_c (fun i i0 i1 => by rw [m2.2.1 i i0 i1]))) rfl ?_
    rintro rv h2 r ⟨v', rfl, rfl, e2, v2, v2'⟩ -
    obtain ⟨s3, p3⟩ := exp1_nx s2' e2
    have f3 := f24_e f2 e2
    refine wq_putI (kz := 8) (q := 48) rfl f_Re_140 rfl rfl rfl (Or.inl ⟨rfl, Nat.le_of_ble_eq_true rfl⟩) rfl rfl ?_
    refine wq_aload_n (kk := 0) (q := 49) rfl rfl rfl ?_
    refine wq_getI (kz := 8) (q := 52) rfl f_Re_140 rfl rfl (Or.inl ⟨rfl, Nat.le_of_ble_eq_true rfl⟩) rfl rfl ?_
    refine wq_iconst (n := -1) (q := 53) rfl rfl rfl ?_
    refine wq_icmp_ne (tgt := 58) (q := 56) rfl rfl rfl (fun c53 => ?_) (fun c53 => ?_)
    · skip
      rw [hup_s] at c53
      have k2 : xU T n (tE T n (tE T n p)) (fdS T n st (tE T n (tE T n p))) = 0 := Classical.byContradiction (fun z => c53 (v2' z))
      have w2 := v2 k2
      have f4 := f3.up (k := 8) (v := v') (by decide)
      have s3' : rdS T n (tE T n (tE T n (tE T n p))) (hup h2 24 8 v') := s3
      have p3' : hup h2 24 8 v' 24 12 = tE T n (tE T n (tE T n p)) := p3
      have x2 := lift0 e2 k2 (a := h 24 0) (b := h 24 1) (by rw [hup_j (by decide)]; exact x1.1) (by rw [hup_j (by decide)]; exact x1.2)
      have m3 := rdM_f hM f4.1
      have d1'' : hup h2 24 8 v' 13 1 = st.1 1 := m3.1.2.1
      have y7 : h2 24 7 = v := by rw [e2.1.2 7 (by decide), hup_s]
      refine wq_aload_n (kk := 0) (q := 59) rfl rfl rfl ?_
      refine wq_aload_n (kk := 0) (q := 60) rfl rfl rfl ?_
      refine wq_aload_n (kk := 0) (q := 61) rfl rfl rfl ?_
      refine wq_getF (q := 64) f_Re_9 rfl rfl (Nat.le_of_ble_eq_true rfl) rfl rfl rfl ?_
      refine wq_aload_n (kk := 0) (q := 65) rfl rfl rfl ?_
      refine wq_getR (q := 68) f_Re_22 rfl rfl (Or.inl ⟨rfl, Nat.le_of_ble_eq_true rfl⟩) hrde rfl rfl ?_
      refine wq_getI (kz := 1) (q := 71) rfl f_Re_83 rfl rfl (Or.inl ⟨rfl, Nat.le_of_ble_eq_true rfl⟩) rfl rfl ?_
      refine wq_callV (q := 74) (m' := m_Re_expectTold) (R' := rm 8) (As := [_, _]) rfl rfl l_Re_133 vm_Re_expectTold rfl rfl rfl (Or.inl ⟨rfl, Nat.le_of_ble_eq_true rfl⟩) (Nat.le_of_ble_eq_true rfl) (Nat.le_of_ble_eq_true rfl) (Nat.le_refl _) (Nat.le_refl _) (Nat.le_of_ble_eq_true rfl) (Re_expectTold_ok 25 10 _ (fdS T n st (tE T n (tE T n (tE T n p)))) (Or.inl ⟨rfl, rfl⟩) T n _ _ r s3' p3' (by rw [d1'']; omega) (by rw [d1'']; omega) (fun _ => by rw [d1'']; exact fdx_c (fun i i0 i1 => by rw [m3.2.1 i i0 i1]))) rfl ?_
      rintro rv h3 r ⟨v'', rfl, rfl, e3, v3, v3'⟩ -
      have f5 := f24_e f4 e3
      refine wq_putI (kz := 9) (q := 77) rfl f_Re_143 rfl rfl rfl (Or.inl ⟨rfl, Nat.le_of_ble_eq_true rfl⟩) rfl rfl ?_
      refine wq_aload_n (kk := 0) (q := 78) rfl rfl rfl ?_
      refine wq_getI (kz := 9) (q := 81) rfl f_Re_143 rfl rfl (Or.inl ⟨rfl, Nat.le_of_ble_eq_true rfl⟩) rfl rfl ?_
      refine wq_iconst (n := -1) (q := 82) rfl rfl rfl ?_
      refine wq_icmp_ne (tgt := 87) (q := 85) rfl rfl rfl (fun c82 => ?_) (fun c82 => ?_)
      · skip
        rw [hup_s] at c82
        have k3 : xU T n (tE T n (tE T n (tE T n p))) (fdS T n st (tE T n (tE T n (tE T n p)))) = 0 := Classical.byContradiction (fun z => c82 (v3' z))
        have w3 := v3 k3
        have y8 : h3 24 8 = v' := by rw [e3.1.2 8 (by decide), hup_s]
        have y7' : h3 24 7 = v := by rw [e3.1.2 7 (by decide), hup_j (by decide)]; exact y7
        have x3 := lift0 e3 k3 (a := h 24 0) (b := h 24 1) (by rw [hup_j (by decide)]; exact x2.1) (by rw [hup_j (by decide)]; exact x2.2)
        have t3 := exp1_u (v := v'') e3 (Or.inr (Or.inr rfl))
        refine wq_aload_n (kk := 0) (q := 88) rfl rfl rfl ?_
        refine wq_getI (kz := 9) (q := 91) rfl f_Re_143 rfl rfl (Or.inl ⟨rfl, Nat.le_of_ble_eq_true rfl⟩) rfl rfl ?_
        refine wq_aload_n (kk := 0) (q := 92) rfl rfl rfl ?_
        refine wq_getI (kz := 8) (q := 95) rfl f_Re_140 rfl rfl (Or.inl ⟨rfl, Nat.le_of_ble_eq_true rfl⟩) rfl rfl ?_
        refine wq_icmp_ne (tgt := 106) (q := 98) rfl rfl rfl (fun c95 => ?_) (fun c95 => ?_)
        · skip
          refine wq_iconst (n := 1) (q := 107) rfl rfl rfl ?_
          refine wq_goto (tgt := 111) rfl rfl ?_
          rw [hup_s, hup_j (show ¬ (8 : Int) = 9 by decide), y8] at c95
          refine wq_zret rfl rfl (Nat.le_refl _) (Nat.le_refl _) (by omega) ⟨rfl, f5.up (by decide), Or.inl ⟨rfl, ⟨k1, k2, k3, by omega⟩, t3.1, ?_, ?_, ?_, ?_, ?_⟩⟩
          · rw [hup_j (by decide), y7']; exact w1
          · rw [hup_j (by decide), y8]; exact w2
          · rw [hup_s]; exact w3
          · rw [hup_j (by decide)]; exact x3.1
          · rw [hup_j (by decide)]; exact x3.2
        · skip
          refine wq_aload_n (kk := 0) (q := 99) rfl rfl rfl ?_
          refine wq_iconst (n := 3) (q := 100) rfl rfl rfl ?_
          refine wq_callV (q := 103) (m' := m_Re_fail) (R' := rm 1) (As := [_]) rfl rfl l_Re_57 vm_Re_fail rfl rfl rfl (Or.inl ⟨rfl, Nat.le_of_ble_eq_true rfl⟩) (Nat.le_of_ble_eq_true rfl) (Nat.le_of_ble_eq_true rfl) (Nat.le_refl _) (Nat.le_refl _) (Nat.le_of_ble_eq_true rfl) (Re_fail_ok 3 _ _) rfl ?_
          rintro rv h4 r ⟨rfl, rfl, rfl⟩ -
          rw [hup_s, hup_j (show ¬ (8 : Int) = 9 by decide), y8] at c95
          have k4 : (if fdS T n st (tE T n (tE T n (tE T n p))) = fdS T n st (tE T n (tE T n p)) then (3 : Int) else 0) = 3 := if_pos (by omega)
          refine wq_if_eq (tgt := 110) (q := 106) rfl rfl rfl (fun _ => ?_) (fun z => absurd rfl z)
          refine wq_iconst (n := 0) (q := 111) rfl rfl rfl ?_
          refine wq_zret rfl rfl (Nat.le_refl _) (Nat.le_refl _) (by omega) ⟨rfl, ((f5.up (by decide)).up (by decide)).up (by decide), Or.inr ⟨rfl, 3, tS T n (tE T n (tE T n (tE T n p))), by decide, ⟨?_, ?_⟩, by unfold pLink1; rw [ch_y k1, ch_y k2, ch_y k3, k4, ch_n (by decide)]⟩⟩
          · rw [hup_j (by decide), hup_s]
          · rw [hup_s]; exact t3.1.2.1
      · skip
        refine wq_iconst (n := 0) (q := 86) rfl rfl rfl ?_
        rw [hup_s] at c82
        have k3 : xU T n (tE T n (tE T n (tE T n p))) (fdS T n st (tE T n (tE T n (tE T n p)))) ≠ 0 := fun z => by have y := v3 z; have := (xU_0 z).2; omega
        refine wq_zret rfl rfl (Nat.le_refl _) (Nat.le_refl _) (by omega) ⟨rfl, f5.up (by decide), Or.inr ⟨rfl, _, _, k3, ?_, by unfold pLink1; rw [ch_y k1, ch_y k2, ch_n k3]⟩⟩
        have := e3.2.2.2 k3
        exact ⟨by rw [hup_j (by decide)]; exact this.1, by rw [hup_j (by decide)]; exact this.2⟩
    · skip
      refine wq_iconst (n := 0) (q := 57) rfl rfl rfl ?_
      rw [hup_s] at c53
      have k2 : xU T n (tE T n (tE T n p)) (fdS T n st (tE T n (tE T n p))) ≠ 0 := fun z => by have y := v2 z; have := (xU_0 z).2; omega
      refine wq_zret rfl rfl (Nat.le_refl _) (Nat.le_refl _) (by omega) ⟨rfl, f3.up (by decide), Or.inr ⟨rfl, _, _, k2, ?_, by unfold pLink1; rw [ch_y k1, ch_n k2]⟩⟩
      have := e2.2.2.2 k2
      exact ⟨by rw [hup_j (by decide)]; exact this.1, by rw [hup_j (by decide)]; exact this.2⟩
  · skip
    refine wq_iconst (n := 0) (q := 28) rfl rfl rfl ?_
    rw [hup_s] at c24
    have k1 : xU T n (tE T n p) (fdL T n st (tE T n p)) ≠ 0 := fun z => by have y := v1 z; have := (xU_0 z).2; omega
    refine wq_zret rfl rfl (Nat.le_refl _) (Nat.le_refl _) (by omega) ⟨rfl, f1.up (by decide), Or.inr ⟨rfl, _, _, k1, ?_, by unfold pLink1; rw [ch_n k1]⟩⟩
    have := e1.2.2.2 k1
    exact ⟨by rw [hup_j (by decide)]; exact this.1, by rw [hup_j (by decide)]; exact this.2⟩

/-! LinkTimes$Reader: a line, all lines -/
set_option maxRecDepth 100000 in
set_option maxHeartbeats 2000000 in
theorem Re_readLine_ok (T : mF) (n p : Int) (st : pS) (h : mH) (r : mR) (hrde : r.1 24 4 = some 13) (hS : rdS T n p h) (hp : h 24 12 = p) (hM : rdM T n h st) (hV : PV T n st) : Meets true (rm 10) m_Re_readLine [vR 24] h r (lnQ T n (pL T n p st) h r) := by
  have b0 := hV.1.1
  refine ⟨ok_Re_readLine, Nat.le_of_ble_eq_true rfl, ?_⟩
  refine wq_aload_n (kk := 0) (q := 1) rfl rfl rfl ?_
  refine wq_callV (q := 4) (m' := m_Re_advance) (R' := rm 3) (As := []) rfl rfl l_Re_67 vm_Re_advance rfl rfl rfl (Or.inl ⟨rfl, Nat.le_of_ble_eq_true rfl⟩) (Nat.le_of_ble_eq_true rfl) (Nat.le_of_ble_eq_true rfl) (Nat.le_refl _) (Nat.le_refl _) (Nat.le_of_ble_eq_true rfl) (hS.adv hp) rfl ?_
  rintro rv h1 r ⟨rfl, rfl, f1, k1, t1⟩ -
  have s1 := rdS_f hS f1 (by decide)
  have m1 := rdM_f hM f1.1
  have d0 := m1.1.1
  refine wq_aload_n (kk := 0) (q := 5) rfl rfl rfl ?_
  refine wq_ldcs (j := 0) (q := 7) (by decide) (Nat.le_of_ble_eq_true rfl) rfl rfl ?_
  refine wq_callV (q := 10) (m' := m_Re_isWord) (R' := rm 6) (As := [_]) rfl rfl l_Re_71 vm_Re_isWord rfl rfl rfl (Or.inl ⟨rfl, Nat.le_of_ble_eq_true rfl⟩) (Nat.le_of_ble_eq_true rfl) (Nat.le_of_ble_eq_true rfl) (Nat.le_refl _) (Nat.le_refl _) (Nat.le_of_ble_eq_true rfl) (Re_isWord_ok 0 (by decide) T n p h1 r t1 hS.2.2.1 hS.2.2.2.1 hS.2.2.2.2 k1) rfl ?_
  rintro rv h1 r ⟨rfl, rfl, rfl⟩ -
  refine wq_cif_eq (tgt := 36) (q := 13) rfl rfl rfl (fun c10 => ?_) (fun c10 => ?_)
  · skip
    refine wq_aload_n (kk := 0) (q := 37) rfl rfl rfl ?_
    refine wq_ldcs (j := 1) (q := 39) (by decide) (Nat.le_of_ble_eq_true rfl) rfl rfl ?_
    refine wq_callV (q := 42) (m' := m_Re_isWord) (R' := rm 6) (As := [_]) rfl rfl l_Re_71 vm_Re_isWord rfl rfl rfl (Or.inl ⟨rfl, Nat.le_of_ble_eq_true rfl⟩) (Nat.le_of_ble_eq_true rfl) (Nat.le_of_ble_eq_true rfl) (Nat.le_refl _) (Nat.le_refl _) (Nat.le_of_ble_eq_true rfl) (Re_isWord_ok 1 (by decide) T n p h1 r t1 hS.2.2.1 hS.2.2.2.1 hS.2.2.2.2 k1) rfl ?_
    rintro rv h1 r ⟨rfl, rfl, rfl⟩ -
    refine wq_cif_eq (tgt := 74) (q := 45) rfl rfl rfl (fun c42 => ?_) (fun c42 => ?_)
    · skip
      refine wq_aload_n (kk := 0) (q := 75) rfl rfl rfl ?_
      refine wq_ldcs (j := 2) (q := 77) (by decide) (Nat.le_of_ble_eq_true rfl) rfl rfl ?_
      refine wq_callV (q := 80) (m' := m_Re_isWord) (R' := rm 6) (As := [_]) rfl rfl l_Re_71 vm_Re_isWord rfl rfl rfl (Or.inl ⟨rfl, Nat.le_of_ble_eq_true rfl⟩) (Nat.le_of_ble_eq_true rfl) (Nat.le_of_ble_eq_true rfl) (Nat.le_refl _) (Nat.le_refl _) (Nat.le_of_ble_eq_true rfl) (Re_isWord_ok 2 (by decide) T n p h1 r t1 hS.2.2.1 hS.2.2.2.1 hS.2.2.2.2 k1) rfl ?_
      rintro rv h1 r ⟨rfl, rfl, rfl⟩ -
      refine wq_cif_eq (tgt := 112) (q := 83) rfl rfl rfl (fun c80 => ?_) (fun c80 => ?_)
      · skip
        refine wq_aload_n (kk := 0) (q := 113) rfl rfl rfl ?_
        refine wq_ldcs (j := 3) (q := 115) (by decide) (Nat.le_of_ble_eq_true rfl) rfl rfl ?_
        refine wq_callV (q := 118) (m' := m_Re_isWord) (R' := rm 6) (As := [_]) rfl rfl l_Re_71 vm_Re_isWord rfl rfl rfl (Or.inl ⟨rfl, Nat.le_of_ble_eq_true rfl⟩) (Nat.le_of_ble_eq_true rfl) (Nat.le_of_ble_eq_true rfl) (Nat.le_refl _) (Nat.le_refl _) (Nat.le_of_ble_eq_true rfl) (Re_isWord_ok 3 (by decide) T n p h1 r t1 hS.2.2.1 hS.2.2.2.1 hS.2.2.2.2 k1) rfl ?_
        rintro rv h1 r ⟨rfl, rfl, rfl⟩ -
        refine wq_cif_eq (tgt := 157) (q := 121) rfl rfl rfl (fun c118 => ?_) (fun c118 => ?_)
        · skip
          refine wq_aload_n (kk := 0) (q := 158) rfl rfl rfl ?_
          refine wq_iconst (n := 1) (q := 159) rfl rfl rfl ?_
          refine wq_callV (q := 162) (m' := m_Re_fail) (R' := rm 1) (As := [_]) rfl rfl l_Re_57 vm_Re_fail rfl rfl rfl (Or.inl ⟨rfl, Nat.le_of_ble_eq_true rfl⟩) (Nat.le_of_ble_eq_true rfl) (Nat.le_of_ble_eq_true rfl) (Nat.le_refl _) (Nat.le_refl _) (Nat.le_of_ble_eq_true rfl) (Re_fail_ok 1 _ _) rfl ?_
          rintro rv h2 r ⟨rfl, rfl, rfl⟩ -
          have ex : pL T n p st = (1, tS T n p, 0, st) := by unfold pL; rw [if_neg (by rw [bI_f c10]; decide), if_neg (by rw [bI_f c42]; decide), if_neg (by rw [bI_f c80]; decide), if_neg (by rw [bI_f c118]; decide)]
          refine wq_zret rfl rfl (Nat.le_refl _) (Nat.le_refl _) (by omega) (lnQ.n ex (by decide) (rdF_u (rdF_u (rdF_f rdF.rf f1 (by decide)) (by decide) (by decide)) (by decide) (by decide)) ⟨?_, ?_⟩)
          · rw [hup_j (by decide), hup_s]
          · rw [hup_s]; exact k1.2.1
        · skip
          refine wq_aload_n (kk := 0) (q := 122) rfl rfl rfl ?_
          refine wq_aload_n (kk := 0) (q := 123) rfl rfl rfl ?_
          refine wq_getR (q := 126) f_Re_22 rfl rfl (Or.inl ⟨rfl, Nat.le_of_ble_eq_true rfl⟩) hrde rfl rfl ?_
          refine wq_getI (kz := 3) (q := 129) rfl f_Re_103 rfl rfl (Or.inl ⟨rfl, Nat.le_of_ble_eq_true rfl⟩) rfl rfl ?_
          refine wq_bipush (n := 12) (q := 131) rfl rfl rfl ?_
          refine wq_callV (q := 134) (m' := m_Re_hasRoom) (R' := rm 2) (As := [_, _]) rfl rfl l_Re_86 vm_Re_hasRoom rfl rfl rfl (Or.inl ⟨rfl, Nat.le_of_ble_eq_true rfl⟩) (Nat.le_of_ble_eq_true rfl) (Nat.le_of_ble_eq_true rfl) (Nat.le_refl _) (Nat.le_refl _) (Nat.le_of_ble_eq_true rfl) (Re_hasRoom_ok T n p st.1 _ 12 h1 r hrde k1 d0) rfl ?_
          rintro rv h2 r2 ⟨rfl, rfl, x1, x2⟩ -
          have dk : h1 13 3 = st.1 3 := m1.1.2.2.2.1
          rw [dk] at x1 x2 ⊢
          refine wq_cif_eq (tgt := 155) (q := 137) rfl rfl rfl (fun c134 => ?_) (fun c134 => ?_)
          · skip
            have x3 := x2 c134
            exact wq_iconst (n := 0) (q := 156) rfl rfl rfl (wq_zret rfl rfl (Nat.le_refl _) (Nat.le_refl _) (by omega) (lnQ.n (k := xR st.1 (st.1 3) 12) (pl := tS T n p) (q := 0) (st := st) (by unfold pL; rw [if_neg (by rw [bI_f c10]; decide), if_neg (by rw [bI_f c42]; decide), if_neg (by rw [bI_f c80]; decide), if_pos (bI_t c118), ch_n c134]) c134 (rdF_f (rdF_f rdF.rf f1 (by decide)) x3.1 (by decide)) x3.2))
          · skip
            have x3 := x1 c134
            subst x3
            have x4 := xR_0 c134
            refine wq_aload_n (kk := 0) (q := 138) rfl rfl rfl ?_
            refine wq_callV (q := 141) (m' := m_Re_readEnds) (R' := rm 9) (As := []) rfl rfl l_Re_106 vm_Re_readEnds rfl rfl rfl (Or.inl ⟨rfl, Nat.le_of_ble_eq_true rfl⟩) (Nat.le_of_ble_eq_true rfl) (Nat.le_of_ble_eq_true rfl) (Nat.le_refl _) (Nat.le_refl _) (Nat.le_of_ble_eq_true rfl) (Re_readEnds_ok T n p st h2 r2 hrde s1 k1 m1 hV) rfl ?_
            rintro rv h3 r3 ⟨rfl, f3, ⟨rfl, ⟨y1, y2, y3, y4⟩, k3, y7, y8, y9, z0, z1⟩ | ⟨rfl, k, pl, hk0, hft, ex⟩⟩ -
            · refine wq_if_eq (tgt := 155) (q := 144) rfl rfl rfl (fun z => absurd z (by decide)) (fun _ => ?_)
              have v1 := (fd_b hV).2 (xU_0 y1).2
              have v2 := (fd_b hV).1 (xU_0 y2).2
              have v3 := (fd_b hV).1 (xU_0 y3).2
              have q1 := tE_p (T := T) hS.2.2.2.1 hS.2.2.2.2
              have q2 := tE_p (T := T) q1.1 q1.2.1
              have q3 := tE_p (T := T) q2.1 q2.2.1
              have s3 : rdS T n (tE T n (tE T n (tE T n p))) h3 := by
                have s3' := rdS_f s1 f3 (by decide)
                exact ⟨s3'.1, s3'.2.1, s3'.2.2.1, q3.1, q3.2.1⟩
              have m3 := rdM_f m1 f3.1
              refine wq_aload_n (kk := 0) (q := 145) rfl rfl rfl ?_
              refine wq_callV (q := 148) (m' := m_Re_readTimes) (R' := rm 8) (As := []) rfl rfl l_Re_109 vm_Re_readTimes rfl rfl rfl (Or.inl ⟨rfl, Nat.le_of_ble_eq_true rfl⟩) (Nat.le_of_ble_eq_true rfl) (Nat.le_of_ble_eq_true rfl) (Nat.le_refl _) (Nat.le_refl _) (Nat.le_of_ble_eq_true rfl) (Re_readTimes_ok T n _ _ _ _ st h3 r3 hrde s3 k3 m3 hV x4.1 x4.2 y7 y8 y9 v1 v2 v3 (fun z => y4 z.symm)) rfl ?_
              rintro rv h4 r4 hq -
              have ex : pL T n p st = pTimes T n (tE T n (tE T n (tE T n p))) (fdL T n st (tE T n p)) (fdS T n st (tE T n (tE T n p))) (fdS T n st (tE T n (tE T n (tE T n p)))) st := by unfold pL pLink pLink1; rw [if_neg (by rw [bI_f c10]; decide), if_neg (by rw [bI_f c42]; decide), if_neg (by rw [bI_f c80]; decide), if_pos (bI_t c118), ch_y c134, ch_y y1, ch_y y2, ch_y y3, if_neg y4, ch_y rfl]
              obtain ⟨rfl, hF, hc⟩ := hq
              have g4 : rdF h h4 := ⟨(f1.1.mono (by decide)).trans ((f3.1.mono (by decide)).trans hF.1 (fun _ z => z)) (fun _ z => z), hF.2.trans ((f3.2 3 (by decide)).trans (f1.2 3 (by decide)))⟩
              rcases hc with ⟨x0, rfl, r1', r2', r3', r4'⟩ | ⟨x0, rfl, hr⟩
              · refine wq_if_eq (tgt := 155) (q := 151) rfl rfl rfl (fun z => absurd z (by decide)) (fun _ => ?_)
                refine wq_iconst (n := 1) (q := 152) rfl rfl rfl ?_
                refine wq_goto (tgt := 156) rfl rfl ?_
                rw [ex]
                exact wq_zret rfl rfl (Nat.le_refl _) (Nat.le_refl _) (by omega) ⟨rfl, g4, Or.inl ⟨x0, rfl, r1', r2', (r3'.trans z0).trans (f1.2 0 (by decide)), (r4'.trans z1).trans (f1.2 1 (by decide))⟩⟩
              · refine wq_if_eq (tgt := 155) (q := 151) rfl rfl rfl (fun _ => ?_) (fun z => absurd rfl z)
                refine wq_iconst (n := 0) (q := 156) rfl rfl rfl ?_
                rw [ex]
                exact wq_zret rfl rfl (Nat.le_refl _) (Nat.le_refl _) (by omega) ⟨rfl, g4, Or.inr ⟨x0, rfl, hr⟩⟩
            · refine wq_if_eq (tgt := 155) (q := 144) rfl rfl rfl (fun _ => ?_) (fun z => absurd rfl z)
              refine wq_iconst (n := 0) (q := 156) rfl rfl rfl ?_
              exact wq_zret rfl rfl (Nat.le_refl _) (Nat.le_refl _) (by omega) (lnQ.n (by unfold pL pLink; rw [if_neg (by rw [bI_f c10]; decide), if_neg (by rw [bI_f c42]; decide), if_neg (by rw [bI_f c80]; decide), if_pos (bI_t c118), ch_y c134]; exact ex) hk0 (rdF_f (rdF_f rdF.rf f1 (by decide)) f3 (by decide)) hft)
      · skip
        refine wq_aload_n (kk := 0) (q := 84) rfl rfl rfl ?_
        refine wq_aload_n (kk := 0) (q := 85) rfl rfl rfl ?_
        refine wq_getR (q := 88) f_Re_22 rfl rfl (Or.inl ⟨rfl, Nat.le_of_ble_eq_true rfl⟩) hrde rfl rfl ?_
        refine wq_getI (kz := 2) (q := 91) rfl f_Re_95 rfl rfl (Or.inl ⟨rfl, Nat.le_of_ble_eq_true rfl⟩) rfl rfl ?_
        refine wq_bipush (n := 8) (q := 93) rfl rfl rfl ?_
        refine wq_callV (q := 96) (m' := m_Re_hasRoom) (R' := rm 2) (As := [_, _]) rfl rfl l_Re_86 vm_Re_hasRoom rfl rfl rfl (Or.inl ⟨rfl, Nat.le_of_ble_eq_true rfl⟩) (Nat.le_of_ble_eq_true rfl) (Nat.le_of_ble_eq_true rfl) (Nat.le_refl _) (Nat.le_refl _) (Nat.le_of_ble_eq_true rfl) (Re_hasRoom_ok T n p st.1 _ 8 h1 r hrde k1 d0) rfl ?_
        rintro rv h2 r2 ⟨rfl, rfl, x1, x2⟩ -
        have dk : h1 13 2 = st.1 2 := m1.1.2.2.1
        rw [dk] at x1 x2 ⊢
        refine wq_cif_eq (tgt := 110) (q := 99) rfl rfl rfl (fun c96 => ?_) (fun c96 => ?_)
        · skip
          have x3 := x2 c96
          exact wq_iconst (n := 0) (q := 111) rfl rfl rfl (wq_zret rfl rfl (Nat.le_refl _) (Nat.le_refl _) (by omega) (lnQ.n (k := xR st.1 (st.1 2) 8) (pl := tS T n p) (q := 0) (st := st) (by unfold pL; rw [if_neg (by rw [bI_f c10]; decide), if_neg (by rw [bI_f c42]; decide), if_pos (bI_t c80), ch_n c96]) c96 (rdF_f (rdF_f rdF.rf f1 (by decide)) x3.1 (by decide)) x3.2))
        · skip
          have x3 := x1 c96
          subst x3
          have x4 := xR_0 c96
          refine wq_aload_n (kk := 0) (q := 100) rfl rfl rfl ?_
          refine wq_callV (q := 103) (m' := m_Re_readName) (R' := rm 9) (As := []) rfl rfl l_Re_98 vm_Re_readName rfl rfl rfl (Or.inl ⟨rfl, Nat.le_of_ble_eq_true rfl⟩) (Nat.le_of_ble_eq_true rfl) (Nat.le_of_ble_eq_true rfl) (Nat.le_refl _) (Nat.le_refl _) (Nat.le_of_ble_eq_true rfl) (Re_readName_ok T n p st h2 r2 hrde s1 k1 m1 hV x4.2) rfl ?_
          rintro rv h3 r3 hq -
          have ex : pL T n p st = pLine T n p st := by unfold pL; rw [if_neg (by rw [bI_f c10]; decide), if_neg (by rw [bI_f c42]; decide), if_pos (bI_t c80), ch_y c96]
          have hq' := lnQ_av ex f1 hq
          obtain ⟨rfl, hF, ⟨x0, rfl, hr⟩ | ⟨x0, rfl, hr⟩⟩ := hq'
          · refine wq_if_eq (tgt := 110) (q := 106) rfl rfl rfl (fun z => absurd z (by decide)) (fun _ => ?_)
            refine wq_iconst (n := 1) (q := 107) rfl rfl rfl ?_
            refine wq_goto (tgt := 111) rfl rfl ?_
            exact wq_zret rfl rfl (Nat.le_refl _) (Nat.le_refl _) (by omega) ⟨rfl, hF, Or.inl ⟨x0, rfl, hr⟩⟩
          · refine wq_if_eq (tgt := 110) (q := 106) rfl rfl rfl (fun _ => ?_) (fun z => absurd rfl z)
            refine wq_iconst (n := 0) (q := 111) rfl rfl rfl ?_
            exact wq_zret rfl rfl (Nat.le_refl _) (Nat.le_refl _) (by omega) ⟨rfl, hF, Or.inr ⟨x0, rfl, hr⟩⟩
    · skip
      refine wq_aload_n (kk := 0) (q := 46) rfl rfl rfl ?_
      refine wq_aload_n (kk := 0) (q := 47) rfl rfl rfl ?_
      refine wq_getR (q := 50) f_Re_22 rfl rfl (Or.inl ⟨rfl, Nat.le_of_ble_eq_true rfl⟩) hrde rfl rfl ?_
      refine wq_getI (kz := 1) (q := 53) rfl f_Re_83 rfl rfl (Or.inl ⟨rfl, Nat.le_of_ble_eq_true rfl⟩) rfl rfl ?_
      refine wq_bipush (n := 10) (q := 55) rfl rfl rfl ?_
      refine wq_callV (q := 58) (m' := m_Re_hasRoom) (R' := rm 2) (As := [_, _]) rfl rfl l_Re_86 vm_Re_hasRoom rfl rfl rfl (Or.inl ⟨rfl, Nat.le_of_ble_eq_true rfl⟩) (Nat.le_of_ble_eq_true rfl) (Nat.le_of_ble_eq_true rfl) (Nat.le_refl _) (Nat.le_refl _) (Nat.le_of_ble_eq_true rfl) (Re_hasRoom_ok T n p st.1 _ 10 h1 r hrde k1 d0) rfl ?_
      rintro rv h2 r2 ⟨rfl, rfl, x1, x2⟩ -
      have dk : h1 13 1 = st.1 1 := m1.1.2.1
      rw [dk] at x1 x2 ⊢
      refine wq_cif_eq (tgt := 72) (q := 61) rfl rfl rfl (fun c58 => ?_) (fun c58 => ?_)
      · skip
        have x3 := x2 c58
        exact wq_iconst (n := 0) (q := 73) rfl rfl rfl (wq_zret rfl rfl (Nat.le_refl _) (Nat.le_refl _) (by omega) (lnQ.n (k := xR st.1 (st.1 1) 10) (pl := tS T n p) (q := 0) (st := st) (by unfold pL; rw [if_neg (by rw [bI_f c10]; decide), if_pos (bI_t c42), ch_n c58]) c58 (rdF_f (rdF_f rdF.rf f1 (by decide)) x3.1 (by decide)) x3.2))
      · skip
        have x3 := x1 c58
        subst x3
        have x4 := xR_0 c58
        refine wq_aload_n (kk := 0) (q := 62) rfl rfl rfl ?_
        refine wq_callV (q := 65) (m' := m_Re_readSpot) (R' := rm 9) (As := []) rfl rfl l_Re_90 vm_Re_readSpot rfl rfl rfl (Or.inl ⟨rfl, Nat.le_of_ble_eq_true rfl⟩) (Nat.le_of_ble_eq_true rfl) (Nat.le_of_ble_eq_true rfl) (Nat.le_refl _) (Nat.le_refl _) (Nat.le_of_ble_eq_true rfl) (Re_readSpot_ok T n p st h2 r2 hrde s1 k1 m1 hV x4.2) rfl ?_
        rintro rv h3 r3 hq -
        have ex : pL T n p st = pSpot T n p st := by unfold pL; rw [if_neg (by rw [bI_f c10]; decide), if_pos (bI_t c42), ch_y c58]
        have hq' := lnQ_av ex f1 hq
        obtain ⟨rfl, hF, ⟨x0, rfl, hr⟩ | ⟨x0, rfl, hr⟩⟩ := hq'
        · refine wq_if_eq (tgt := 72) (q := 68) rfl rfl rfl (fun z => absurd z (by decide)) (fun _ => ?_)
          refine wq_iconst (n := 1) (q := 69) rfl rfl rfl ?_
          refine wq_goto (tgt := 73) rfl rfl ?_
          exact wq_zret rfl rfl (Nat.le_refl _) (Nat.le_refl _) (by omega) ⟨rfl, hF, Or.inl ⟨x0, rfl, hr⟩⟩
        · refine wq_if_eq (tgt := 72) (q := 68) rfl rfl rfl (fun _ => ?_) (fun z => absurd rfl z)
          refine wq_iconst (n := 0) (q := 73) rfl rfl rfl ?_
          exact wq_zret rfl rfl (Nat.le_refl _) (Nat.le_refl _) (by omega) ⟨rfl, hF, Or.inr ⟨x0, rfl, hr⟩⟩
  · skip
    refine wq_aload_n (kk := 0) (q := 14) rfl rfl rfl ?_
    refine wq_getR (q := 17) f_Re_22 rfl rfl (Or.inl ⟨rfl, Nat.le_of_ble_eq_true rfl⟩) hrde rfl rfl ?_
    refine wq_getI (kz := 0) (q := 20) rfl f_Re_75 rfl rfl (Or.inl ⟨rfl, Nat.le_of_ble_eq_true rfl⟩) rfl rfl ?_
    refine wq_if_le (tgt := 31) (q := 23) rfl rfl rfl (fun c20 => ?_) (fun c20 => ?_)
    · skip
      refine wq_aload_n (kk := 0) (q := 32) rfl rfl rfl ?_
      refine wq_callV (q := 35) (m' := m_Re_readSpan) (R' := rm 8) (As := []) rfl rfl l_Re_78 vm_Re_readSpan rfl rfl rfl (Or.inl ⟨rfl, Nat.le_of_ble_eq_true rfl⟩) (Nat.le_of_ble_eq_true rfl) (Nat.le_of_ble_eq_true rfl) (Nat.le_refl _) (Nat.le_refl _) (Nat.le_of_ble_eq_true rfl) (Re_readSpan_ok T n p st h1 r hrde s1 k1 m1 hV (by omega)) rfl ?_
      rintro rv h2 r2 hq -
      have ex : pL T n p st = pSpan T n p st := by unfold pL; rw [if_pos (bI_t c10), if_neg (by omega)]
      have hq' := lnQ_av ex f1 hq
      obtain ⟨rfl, hF, ⟨x0, rfl, hr⟩ | ⟨x0, rfl, hr⟩⟩ := hq'
      · exact wq_zret rfl rfl (Nat.le_refl _) (Nat.le_refl _) (by omega) ⟨rfl, hF, Or.inl ⟨x0, rfl, hr⟩⟩
      · exact wq_zret rfl rfl (Nat.le_refl _) (Nat.le_refl _) (by omega) ⟨rfl, hF, Or.inr ⟨x0, rfl, hr⟩⟩
    · skip
      refine wq_aload_n (kk := 0) (q := 24) rfl rfl rfl ?_
      refine wq_iconst (n := 3) (q := 25) rfl rfl rfl ?_
      refine wq_callV (q := 28) (m' := m_Re_fail) (R' := rm 1) (As := [_]) rfl rfl l_Re_57 vm_Re_fail rfl rfl rfl (Or.inl ⟨rfl, Nat.le_of_ble_eq_true rfl⟩) (Nat.le_of_ble_eq_true rfl) (Nat.le_of_ble_eq_true rfl) (Nat.le_refl _) (Nat.le_refl _) (Nat.le_of_ble_eq_true rfl) (Re_fail_ok 3 _ _) rfl ?_
      rintro rv h2 r ⟨rfl, rfl, rfl⟩ -
      have ex : pL T n p st = (3, tS T n p, 0, st) := by unfold pL; rw [if_pos (bI_t c10), if_pos (by omega)]
      refine wq_goto (tgt := 35) rfl rfl ?_
      refine wq_zret rfl rfl (Nat.le_refl _) (Nat.le_refl _) (by omega) (lnQ.n ex (by decide) (rdF_u (rdF_u (rdF_f rdF.rf f1 (by decide)) (by decide) (by decide)) (by decide) (by decide)) ⟨?_, ?_⟩)
      · rw [hup_j (by decide), hup_s]
      · rw [hup_s]; exact k1.2.1

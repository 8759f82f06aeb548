/-! LinkTimesModel: a link, a line -/
set_option maxRecDepth 100000 in
set_option maxHeartbeats 1000000 in
theorem Mo_namesF_ok (c : Nat) (m k to f : Int) (hc : c = 70 ∧ m = 10 ∨ c = 71 ∧ m = 8) (T : mF) (n p : Int) (h : mH) (r : mR) (hS : rdR T n p h) (hk : tkR T n p h) (k0 : 0 ≤ k) (k1 : k ≤ m) (t0 : 0 ≤ to ∧ to < 7) (hf : Nm T n p → fdx (h c) k (c32 T n p) = f) : Meets true (rm 8) m_Mo_namesLink [vR 64, vR c, vI k, vI to] h r (srQ (xU T n p f) (tS T n p) [64, 72] h r (fun h1 => h1 = hup h 72 to f)) := by
  have e13 := hk.1
  refine ⟨ok_Mo_namesLink, Nat.le_of_ble_eq_true rfl, ?_⟩
  refine wq_aload_n (kk := 0) (q := 1) rfl rfl rfl ?_
  refine wq_callV (q := 4) (m' := m_Mo_isName) (R' := rm 7) (As := []) rfl rfl l_Mo_154 vm_Mo_isName rfl rfl rfl (Or.inl ⟨rfl, Nat.le_of_ble_eq_true rfl⟩) (Nat.le_of_ble_eq_true rfl) (Nat.le_of_ble_eq_true rfl) (Nat.le_refl _) (Nat.le_refl _) (Nat.le_of_ble_eq_true rfl) (Mo_isName_ok T n p h r hS hk) rfl ?_
  rintro rv h1 r ⟨rfl, rfl, e1⟩ -
  refine wq_cif_ne (tgt := 9) (q := 7) rfl rfl rfl (fun c4 => ?_) (fun c4 => ?_)
  · skip
    rw [okE_y e1 c4]
    have hf := hf c4
    refine wq_aload_n (kk := 0) (q := 10) rfl rfl rfl ?_
    refine wq_getF (q := 13) f_Mo_36 rfl rfl (Nat.le_of_ble_eq_true rfl) rfl rfl rfl ?_
    refine wq_iload_n (kk := 3) (q := 14) rfl rfl rfl ?_
    refine wq_aload_n (kk := 1) (q := 15) rfl rfl rfl ?_
    refine wq_iload_n (kk := 2) (q := 16) rfl rfl rfl ?_
    refine wq_aload_n (kk := 0) (q := 17) rfl rfl rfl ?_
    refine wq_callV (q := 20) (m' := m_Mo_spelt) (R' := rm 1) (As := []) rfl rfl l_Mo_158 vm_Mo_spelt rfl rfl rfl (Or.inl ⟨rfl, Nat.le_of_ble_eq_true rfl⟩) (Nat.le_of_ble_eq_true rfl) (Nat.le_of_ble_eq_true rfl) (Nat.le_refl _) (Nat.le_refl _) (Nat.le_of_ble_eq_true rfl) (Mo_spelt_ok T n p h r hS hk c4.1) rfl ?_
    rintro rv h r ⟨rfl, rfl, rfl⟩ -
    refine wq_callS (q := 23) (m' := m_Mo_placeOf) (R' := rm 1) (As := [_, _, _]) rfl rfl l_Mo_162 sm_Mo_placeOf rfl (Nat.le_of_ble_eq_true rfl) (Nat.le_of_ble_eq_true rfl) (Nat.le_refl _) (Nat.le_refl _) (Nat.le_of_ble_eq_true rfl) (Mo_placeOf_ok c m k _ hc h r k0 k1) rfl ?_
    rintro rv h r ⟨rfl, rfl, rfl⟩ -
    rw [hf]
    refine wq_iast (q := 24) rfl (Or.inl ⟨rfl, Nat.le_of_ble_eq_true rfl⟩) rfl rfl (by first | omega | (simp [hup]; omega)) (by first | omega | (simp [hup]; omega)) ?_
    have f2 : f64 erF [64, 72] h (hup h 72 to f) := f64.rf.uc (by decide) (by decide)
    refine wq_aload_n (kk := 0) (q := 25) rfl rfl rfl ?_
    refine wq_getF (q := 28) f_Mo_36 rfl rfl (Nat.le_of_ble_eq_true rfl) rfl rfl rfl ?_
    refine wq_iload_n (kk := 3) (q := 29) rfl rfl rfl ?_
    refine wq_iald (q := 30) rfl (Or.inl ⟨rfl, Nat.le_of_ble_eq_true rfl⟩) rfl rfl (by first | omega | (simp [hup]; omega)) (by first | omega | (simp [hup]; omega)) ?_
    rw [hup_s]
    refine wq_iconst (n := -1) (q := 31) rfl rfl rfl ?_
    refine wq_icmp_ne (tgt := 42) (q := 34) rfl rfl rfl (fun c31 => ?_) (fun c31 => ?_)
    · skip
      refine wq_iconst (n := 1) (q := 43) rfl rfl rfl ?_
      refine wq_goto (tgt := 47) rfl rfl ?_
      first
      | exact c39.elim
      | exact wq_zret rfl rfl (Nat.le_refl _) (Nat.le_refl _) (by omega) (srQ.y (xU_y c4 (by assumption)) f2 rfl)
      | (rw [xU_2 c4 c31]
         exact wq_zret rfl rfl (Nat.le_refl _) (Nat.le_refl _) (by omega) (srQ.e (by decide) f2 (by decide) (by rw [hup_i (by decide)]; exact e13)))
    · skip
      refine wq_aload_n (kk := 0) (q := 35) rfl rfl rfl ?_
      refine wq_iconst (n := 2) (q := 36) rfl rfl rfl ?_
      refine wq_callV (q := 39) (m' := m_Mo_errs) (R' := rm 1) (As := [_]) rfl rfl l_Mo_130 vm_Mo_errs rfl rfl rfl (Or.inl ⟨rfl, Nat.le_of_ble_eq_true rfl⟩) (Nat.le_of_ble_eq_true rfl) (Nat.le_of_ble_eq_true rfl) (Nat.le_refl _) (Nat.le_refl _) (Nat.le_of_ble_eq_true rfl) (Mo_errsF_ok 2 _ r) rfl ?_
      rintro rv h2 r ⟨rfl, rfl, rfl⟩ -
      refine wq_cif_eq (tgt := 46) (q := 42) rfl rfl rfl (fun c39 => ?_) (fun c39 => ?_)
      · skip
        refine wq_iconst (n := 0) (q := 47) rfl rfl rfl ?_
        first
        | exact c39.elim
        | exact wq_zret rfl rfl (Nat.le_refl _) (Nat.le_refl _) (by omega) (srQ.y (xU_y c4 (by assumption)) f2 rfl)
        | (rw [xU_2 c4 c31]
           exact wq_zret rfl rfl (Nat.le_refl _) (Nat.le_refl _) (by omega) (srQ.e (by decide) f2 (by decide) (by rw [hup_i (by decide)]; exact e13)))
      · skip
        refine wq_iconst (n := 1) (q := 43) rfl rfl rfl ?_
        refine wq_goto (tgt := 47) rfl rfl ?_
        first
        | exact c39.elim
        | exact wq_zret rfl rfl (Nat.le_refl _) (Nat.le_refl _) (by omega) (srQ.y (xU_y c4 (by assumption)) f2 rfl)
        | (rw [xU_2 c4 c31]
           exact wq_zret rfl rfl (Nat.le_refl _) (Nat.le_refl _) (by omega) (srQ.e (by decide) f2 (by decide) (by rw [hup_i (by decide)]; exact e13)))
  · skip
    refine wq_iconst (n := 0) (q := 8) rfl rfl rfl ?_
    rw [okE_n e1 c4, xU_1 c4]
    exact wq_zret rfl rfl (Nat.le_refl _) (Nat.le_refl _) (by omega) (srQ.e (by decide) f64.rf (by decide) e13)
set_option maxRecDepth 100000 in
set_option maxHeartbeats 4000000 in
theorem Mo_readLink_ok (T : mF) (n p : Int) (st : pS) (h : mH) (r : mR) (hS : rdR T n p h) (hk : tkR T n p h) (h5 : tK T n p ≠ 5) (hM : mrR T n h st) (hV : PV T n st) : Meets true (rm 9) m_Mo_readLink [vR 64] h r (lnR T n (ch st (xR st.1 (st.1 3) 12) (tS T n p) (pLink T n p st)) h r) := by
  have b0 := hV.1.1
  have b1 := hV.1.2.1
  have b2 := hV.1.2.2.1
  have m1 := hM.2.1.n.1
  have m2 := hM.2.1.n.2.1
  have m3 := hM.2.1.n.2.2.1
  have bz : st.1 0 = 0 → st.1 3 < 12 := fun z => by have := (hV.1.2.2.2.2.2.1 z).2.2.1; omega
  obtain ⟨p1, e1⟩ : ∃ z, tE T n p = z := ⟨_, rfl⟩
  obtain ⟨p2, e2⟩ : ∃ z, tE T n p1 = z := ⟨_, rfl⟩
  obtain ⟨p3, e3⟩ : ∃ z, tE T n p2 = z := ⟨_, rfl⟩
  have es : pLink T n p st = ch st (xU T n p1 (fdL T n st p1)) (tS T n p1) (ch st (xU T n p2 (fdS T n st p2)) (tS T n p2) (ch st (xU T n p3 (fdS T n st p3)) (tS T n p3) (ch st (if fdS T n st p3 = fdS T n st p2 then 3 else 0) (tS T n p3) (pTimes T n p3 (fdL T n st p1) (fdS T n st p2) (fdS T n st p3) st)))) := by
    unfold pLink pLink1
    rw [e1, e2, e3]
  have q0 := hS.2.2.2
  have q1 := tE_p (T := T) q0.1 q0.2
  rw [e1] at q1
  have q2 := tE_p (T := T) q1.1 q1.2.1
  rw [e2] at q2
  have q3 := tE_p (T := T) q2.1 q2.2.1
  rw [e3] at q3
  have SS : ∀ (q : Int) (h' : mH), 0 ≤ q → q ≤ n → f64 erF [64, 72] h h' → rdR T n q h' := fun q h' c d f => by
    have z := rdR_f hS f (by decide) (by decide)
    exact ⟨z.1, z.2.1, z.2.2.1, c, d⟩
  have GG : ∀ (h' : mH), f64 erF [64, 72] h h' → f64 rrF rrC h h' := fun h' f => f.mono (by decide) (by decide)
  have MM : ∀ (h' : mH), f64 erF [64, 72] h h' → mrR T n h' st := fun h' f => mrR_f hM f (by decide) (by decide) (by decide) (by decide)
  refine ⟨ok_Mo_readLink, Nat.le_of_ble_eq_true rfl, ?_⟩
  refine wq_aload_n (kk := 0) (q := 1) rfl rfl rfl ?_
  refine wq_aload_n (kk := 0) (q := 2) rfl rfl rfl ?_
  refine wq_getF (q := 5) f_Mo_20 rfl rfl (Nat.le_of_ble_eq_true rfl) rfl rfl rfl ?_
  refine wq_iconst (n := 3) (q := 6) rfl rfl rfl ?_
  refine wq_iald (q := 7) rfl (Or.inl ⟨rfl, Nat.le_of_ble_eq_true rfl⟩) rfl rfl (by first | omega | (simp [hup]; omega)) (by first | omega | (simp [hup]; omega)) ?_
  refine wq_bipush (n := 12) (q := 9) rfl rfl rfl ?_
  refine wq_icmp_ge (tgt := 16) (q := 12) rfl rfl rfl (fun c9 => ?_) (fun c9 => ?_)
  · skip
    refine wq_iconst (n := 0) (q := 17) rfl rfl rfl ?_
    refine wq_callV (q := 20) (m' := m_Mo_begins) (R' := rm 3) (As := [_]) rfl rfl l_Mo_176 vm_Mo_begins rfl rfl rfl (Or.inl ⟨rfl, Nat.le_of_ble_eq_true rfl⟩) (Nat.le_of_ble_eq_true rfl) (Nat.le_of_ble_eq_true rfl) (Nat.le_refl _) (Nat.le_refl _) (Nat.le_of_ble_eq_true rfl) (Mo_beginsX_ok _ (st.1 3) 12 st.1 T n p h r hS hk h5 (by omega) b0.1 bz hM.1) rfl ?_
    rintro rv h1 r ⟨rfl, rfl, f1, y1, a1⟩ -
    rw [e1] at a1
    have g1 : f64 erF [64, 72] h h1 := f1.mono (by decide) (by decide)
    refine wq_cif_eq (tgt := 41) (q := 23) rfl rfl rfl (fun c20 => ?_) (fun c20 => ?_)
    · skip
      refine wq_iconst (n := 0) (q := 42) rfl rfl rfl ?_
      first
      | (obtain ⟨c, d⟩ := y2 c38
         exact wq_zret rfl rfl (Nat.le_refl _) (Nat.le_refl _) (by omega) (lnR.n ((ch_y c20).trans (es.trans (ch_n c38))) c38 (GG _ g2) c d))
      | (obtain ⟨c, d⟩ := y1 c20
         exact wq_zret rfl rfl (Nat.le_refl _) (Nat.le_refl _) (by omega) (lnR.n (ch_n c20) c20 (GG _ g1) c d))
    · skip
      obtain ⟨k1, -⟩ := a1 c20
      obtain ⟨hz, hk3⟩ := xR_0 c20
      have n1 : h1 67 2 = st.1 2 := (MM _ g1).2.1.n.2.1
      refine wq_aload_n (kk := 0) (q := 24) rfl rfl rfl ?_
      refine wq_aload_n (kk := 0) (q := 25) rfl rfl rfl ?_
      refine wq_getF (q := 28) f_Mo_33 rfl rfl (Nat.le_of_ble_eq_true rfl) rfl rfl rfl ?_
      refine wq_aload_n (kk := 0) (q := 29) rfl rfl rfl ?_
      refine wq_getF (q := 32) f_Mo_20 rfl rfl (Nat.le_of_ble_eq_true rfl) rfl rfl rfl ?_
      refine wq_iconst (n := 2) (q := 33) rfl rfl rfl ?_
      refine wq_iald (q := 34) rfl (Or.inl ⟨rfl, Nat.le_of_ble_eq_true rfl⟩) rfl rfl (by first | omega | (simp [hup]; omega)) (by first | omega | (simp [hup]; omega)) ?_
      refine wq_iconst (n := 0) (q := 35) rfl rfl rfl ?_
      refine wq_callV (q := 38) (m' := m_Mo_namesLink) (R' := rm 8) (As := [_, _, _]) rfl rfl l_Mo_191 vm_Mo_namesLink rfl rfl rfl (Or.inl ⟨rfl, Nat.le_of_ble_eq_true rfl⟩) (Nat.le_of_ble_eq_true rfl) (Nat.le_of_ble_eq_true rfl) (Nat.le_refl _) (Nat.le_refl _) (Nat.le_of_ble_eq_true rfl) (Mo_namesF_ok 71 8 _ 0 (fdL T n st p1) (Or.inr ⟨rfl, rfl⟩) T n p1 h1 r (SS _ _ q1.1 q1.2.1 g1) k1 (by omega) (by omega) (by omega) (fun z => fdL_R (MM _ g1) hV q1.2.1 z.1)) rfl ?_
      rintro rv h2 r ⟨rfl, rfl, f2, y2, a2⟩ -
      have g2 : f64 erF [64, 72] h h2 := g1.tr f2 (fun _ z => z) (fun _ z => z)
      refine wq_cif_ne (tgt := 43) (q := 41) rfl rfl rfl (fun c38 => ?_) (fun c38 => ?_)
      · skip
        have v2 := xU_0 c38
        have k2 : tkR T n p1 h2 := by
          rw [a2 c38]
          exact tkR_f (S := []) k1 (f64.rf.uc (C := [72]) (by decide) (by decide)) (by decide) (by decide) (by decide) (by decide)
        have l0 : h2 72 0 = fdL T n st p1 := by rw [a2 c38, hup_s]
        refine wq_aload_n (kk := 0) (q := 44) rfl rfl rfl ?_
        refine wq_callV (q := 47) (m' := m_Mo_goesOn) (R' := rm 2) (As := []) rfl rfl l_Mo_134 vm_Mo_goesOn rfl rfl rfl (Or.inl ⟨rfl, Nat.le_of_ble_eq_true rfl⟩) (Nat.le_of_ble_eq_true rfl) (Nat.le_of_ble_eq_true rfl) (Nat.le_refl _) (Nat.le_refl _) (Nat.le_of_ble_eq_true rfl) (Mo_goesOn_ok T n p2 h2 r (SS _ _ q2.1 q2.2.1 g2) (tkR_q k2 (by rw [v2.1.1]; decide) e2)) rfl ?_
        rintro rv h3 r ⟨rfl, rfl, f3, k3⟩ -
        have g3 : f64 erF [64, 72] h h3 := g2.tr f3 (by decide) (by decide)
        have n3 : h3 67 1 = st.1 1 := (MM _ g3).2.1.n.1
        refine wq_aload_n (kk := 0) (q := 48) rfl rfl rfl ?_
        refine wq_aload_n (kk := 0) (q := 49) rfl rfl rfl ?_
        refine wq_getF (q := 52) f_Mo_29 rfl rfl (Nat.le_of_ble_eq_true rfl) rfl rfl rfl ?_
        refine wq_aload_n (kk := 0) (q := 53) rfl rfl rfl ?_
        refine wq_getF (q := 56) f_Mo_20 rfl rfl (Nat.le_of_ble_eq_true rfl) rfl rfl rfl ?_
        refine wq_iconst (n := 1) (q := 57) rfl rfl rfl ?_
        refine wq_iald (q := 58) rfl (Or.inl ⟨rfl, Nat.le_of_ble_eq_true rfl⟩) rfl rfl (by first | omega | (simp [hup]; omega)) (by first | omega | (simp [hup]; omega)) ?_
        refine wq_iconst (n := 1) (q := 59) rfl rfl rfl ?_
        refine wq_callV (q := 62) (m' := m_Mo_namesLink) (R' := rm 8) (As := [_, _, _]) rfl rfl l_Mo_191 vm_Mo_namesLink rfl rfl rfl (Or.inl ⟨rfl, Nat.le_of_ble_eq_true rfl⟩) (Nat.le_of_ble_eq_true rfl) (Nat.le_of_ble_eq_true rfl) (Nat.le_refl _) (Nat.le_refl _) (Nat.le_of_ble_eq_true rfl) (Mo_namesF_ok 70 10 _ 1 (fdS T n st p2) (Or.inl ⟨rfl, rfl⟩) T n p2 h3 r (SS _ _ q2.1 q2.2.1 g3) k3 (by omega) (by omega) (by omega) (fun z => fdS_R (MM _ g3) hV q2.2.1 z.1)) rfl ?_
        rintro rv h4 r ⟨rfl, rfl, f4, y4, a4⟩ -
        have g4 : f64 erF [64, 72] h h4 := g3.tr f4 (fun _ z => z) (fun _ z => z)
        refine wq_cif_ne (tgt := 67) (q := 65) rfl rfl rfl (fun c62 => ?_) (fun c62 => ?_)
        · skip
          have v4 := xU_0 c62
          have k4 : tkR T n p2 h4 := by
            rw [a4 c62]
            exact tkR_f (S := []) k3 (f64.rf.uc (C := [72]) (by decide) (by decide)) (by decide) (by decide) (by decide) (by decide)
          have l1 : h4 72 1 = fdS T n st p2 := by rw [a4 c62, hup_s]
          have l01 : h4 72 0 = fdL T n st p1 := by rw [a4 c62, hup_j (by decide), f3.1 72 (by decide)]; exact l0
          refine wq_aload_n (kk := 0) (q := 68) rfl rfl rfl ?_
          refine wq_callV (q := 71) (m' := m_Mo_goesOn) (R' := rm 2) (As := []) rfl rfl l_Mo_134 vm_Mo_goesOn rfl rfl rfl (Or.inl ⟨rfl, Nat.le_of_ble_eq_true rfl⟩) (Nat.le_of_ble_eq_true rfl) (Nat.le_of_ble_eq_true rfl) (Nat.le_refl _) (Nat.le_refl _) (Nat.le_of_ble_eq_true rfl) (Mo_goesOn_ok T n p3 h4 r (SS _ _ q3.1 q3.2.1 g4) (tkR_q k4 (by rw [v4.1.1]; decide) e3)) rfl ?_
          rintro rv h5' r ⟨rfl, rfl, f5, k5⟩ -
          have g5 : f64 erF [64, 72] h h5' := g4.tr f5 (by decide) (by decide)
          have n5 : h5' 67 1 = st.1 1 := (MM _ g5).2.1.n.1
          refine wq_aload_n (kk := 0) (q := 72) rfl rfl rfl ?_
          refine wq_aload_n (kk := 0) (q := 73) rfl rfl rfl ?_
          refine wq_getF (q := 76) f_Mo_29 rfl rfl (Nat.le_of_ble_eq_true rfl) rfl rfl rfl ?_
          refine wq_aload_n (kk := 0) (q := 77) rfl rfl rfl ?_
          refine wq_getF (q := 80) f_Mo_20 rfl rfl (Nat.le_of_ble_eq_true rfl) rfl rfl rfl ?_
          refine wq_iconst (n := 1) (q := 81) rfl rfl rfl ?_
          refine wq_iald (q := 82) rfl (Or.inl ⟨rfl, Nat.le_of_ble_eq_true rfl⟩) rfl rfl (by first | omega | (simp [hup]; omega)) (by first | omega | (simp [hup]; omega)) ?_
          refine wq_iconst (n := 2) (q := 83) rfl rfl rfl ?_
          refine wq_callV (q := 86) (m' := m_Mo_namesLink) (R' := rm 8) (As := [_, _, _]) rfl rfl l_Mo_191 vm_Mo_namesLink rfl rfl rfl (Or.inl ⟨rfl, Nat.le_of_ble_eq_true rfl⟩) (Nat.le_of_ble_eq_true rfl) (Nat.le_of_ble_eq_true rfl) (Nat.le_refl _) (Nat.le_refl _) (Nat.le_of_ble_eq_true rfl) (Mo_namesF_ok 70 10 _ 2 (fdS T n st p3) (Or.inl ⟨rfl, rfl⟩) T n p3 h5' r (SS _ _ q3.1 q3.2.1 g5) k5 (by omega) (by omega) (by omega) (fun z => fdS_R (MM _ g5) hV q3.2.1 z.1)) rfl ?_
          rintro rv h6 r ⟨rfl, rfl, f6, y6, a6⟩ -
          have g6 : f64 erF [64, 72] h h6 := g5.tr f6 (fun _ z => z) (fun _ z => z)
          refine wq_cif_ne (tgt := 91) (q := 89) rfl rfl rfl (fun c86 => ?_) (fun c86 => ?_)
          · skip
            have v6 := xU_0 c86
            have k6 : tkR T n p3 h6 := by
              rw [a6 c86]
              exact tkR_f (S := []) k5 (f64.rf.uc (C := [72]) (by decide) (by decide)) (by decide) (by decide) (by decide) (by decide)
            have l2 : h6 72 2 = fdS T n st p3 := by rw [a6 c86, hup_s]
            have l11 : h6 72 1 = fdS T n st p2 := by rw [a6 c86, hup_j (by decide), f5.1 72 (by decide)]; exact l1
            have l02 : h6 72 0 = fdL T n st p1 := by rw [a6 c86, hup_j (by decide), f5.1 72 (by decide)]; exact l01
            refine wq_aload_n (kk := 0) (q := 92) rfl rfl rfl ?_
            refine wq_getF (q := 95) f_Mo_36 rfl rfl (Nat.le_of_ble_eq_true rfl) rfl rfl rfl ?_
            refine wq_iconst (n := 1) (q := 96) rfl rfl rfl ?_
            refine wq_iald (q := 97) rfl (Or.inl ⟨rfl, Nat.le_of_ble_eq_true rfl⟩) rfl rfl (by first | omega | (simp [hup]; omega)) (by first | omega | (simp [hup]; omega)) ?_
            refine wq_aload_n (kk := 0) (q := 98) rfl rfl rfl ?_
            refine wq_getF (q := 101) f_Mo_36 rfl rfl (Nat.le_of_ble_eq_true rfl) rfl rfl rfl ?_
            refine wq_iconst (n := 2) (q := 102) rfl rfl rfl ?_
            refine wq_iald (q := 103) rfl (Or.inl ⟨rfl, Nat.le_of_ble_eq_true rfl⟩) rfl rfl (by first | omega | (simp [hup]; omega)) (by first | omega | (simp [hup]; omega)) ?_
            refine wq_icmp_ne (tgt := 112) (q := 106) rfl rfl rfl (fun c103 => ?_) (fun c103 => ?_)
            · skip
              have kk : (if fdS T n st p3 = fdS T n st p2 then (3 : Int) else 0) = 0 := if_neg (by omega)
              exact Mo_linkT T n p3 (fdL T n st p1) (fdS T n st p2) (fdS T n st p3) st _ h r h6 (GG _ g6) (SS _ _ q3.1 q3.2.1 g6) k6 (by rw [v6.1.1]; decide) (MM _ g6) hV hz hk3 l02 l11 l2 ((fd_b hV).2 v2.2) ((fd_b hV).1 v4.2) ((fd_b hV).1 v6.2) (by omega) ((ch_y c20).trans (es.trans ((ch_y c38).trans ((ch_y c62).trans ((ch_y c86).trans (ch_y kk))))))
            · skip
              refine wq_aload_n (kk := 0) (q := 107) rfl rfl rfl ?_
              refine wq_iconst (n := 3) (q := 108) rfl rfl rfl ?_
              refine wq_callV (q := 111) (m' := m_Mo_errs) (R' := rm 1) (As := [_]) rfl rfl l_Mo_130 vm_Mo_errs rfl rfl rfl (Or.inl ⟨rfl, Nat.le_of_ble_eq_true rfl⟩) (Nat.le_of_ble_eq_true rfl) (Nat.le_of_ble_eq_true rfl) (Nat.le_refl _) (Nat.le_refl _) (Nat.le_of_ble_eq_true rfl) (Mo_errs_ok 3 h6 r) rfl ?_
              rintro rv h7 r ⟨rfl, rfl, rfl⟩ -
              have kk : (if fdS T n st p3 = fdS T n st p2 then (3 : Int) else 0) = 3 := if_pos (by omega)
              rw [kk] at es
              exact wq_zret rfl rfl (Nat.le_refl _) (Nat.le_refl _) (by omega) (lnR.e ((ch_y c20).trans (es.trans ((ch_y c38).trans ((ch_y c62).trans ((ch_y c86).trans (ch_n (by decide))))))) (by decide) (GG _ g6) k6.1)
          · skip
            refine wq_iconst (n := 0) (q := 90) rfl rfl rfl ?_
            obtain ⟨c, d⟩ := y6 c86
            exact wq_zret rfl rfl (Nat.le_refl _) (Nat.le_refl _) (by omega) (lnR.n ((ch_y c20).trans (es.trans ((ch_y c38).trans ((ch_y c62).trans (ch_n c86))))) c86 (GG _ g6) c d)
        · skip
          refine wq_iconst (n := 0) (q := 66) rfl rfl rfl ?_
          obtain ⟨c, d⟩ := y4 c62
          exact wq_zret rfl rfl (Nat.le_refl _) (Nat.le_refl _) (by omega) (lnR.n ((ch_y c20).trans (es.trans ((ch_y c38).trans (ch_n c62)))) c62 (GG _ g4) c d)
      · skip
        refine wq_iconst (n := 0) (q := 42) rfl rfl rfl ?_
        first
        | (obtain ⟨c, d⟩ := y2 c38
           exact wq_zret rfl rfl (Nat.le_refl _) (Nat.le_refl _) (by omega) (lnR.n ((ch_y c20).trans (es.trans (ch_n c38))) c38 (GG _ g2) c d))
        | (obtain ⟨c, d⟩ := y1 c20
           exact wq_zret rfl rfl (Nat.le_refl _) (Nat.le_refl _) (by omega) (lnR.n (ch_n c20) c20 (GG _ g1) c d))
  · skip
    refine wq_iconst (n := 1) (q := 13) rfl rfl rfl ?_
    refine wq_goto (tgt := 17) rfl rfl ?_
    refine wq_callV (q := 20) (m' := m_Mo_begins) (R' := rm 3) (As := [_]) rfl rfl l_Mo_176 vm_Mo_begins rfl rfl rfl (Or.inl ⟨rfl, Nat.le_of_ble_eq_true rfl⟩) (Nat.le_of_ble_eq_true rfl) (Nat.le_of_ble_eq_true rfl) (Nat.le_refl _) (Nat.le_refl _) (Nat.le_of_ble_eq_true rfl) (Mo_beginsX_ok _ (st.1 3) 12 st.1 T n p h r hS hk h5 (by omega) b0.1 bz hM.1) rfl ?_
    rintro rv h1 r ⟨rfl, rfl, f1, y1, a1⟩ -
    rw [e1] at a1
    have g1 : f64 erF [64, 72] h h1 := f1.mono (by decide) (by decide)
    refine wq_cif_eq (tgt := 41) (q := 23) rfl rfl rfl (fun c20 => ?_) (fun c20 => ?_)
    · skip
      refine wq_iconst (n := 0) (q := 42) rfl rfl rfl ?_
      first
      | (obtain ⟨c, d⟩ := y2 c38
         exact wq_zret rfl rfl (Nat.le_refl _) (Nat.le_refl _) (by omega) (lnR.n ((ch_y c20).trans (es.trans (ch_n c38))) c38 (GG _ g2) c d))
      | (obtain ⟨c, d⟩ := y1 c20
         exact wq_zret rfl rfl (Nat.le_refl _) (Nat.le_refl _) (by omega) (lnR.n (ch_n c20) c20 (GG _ g1) c d))
    · skip
      obtain ⟨k1, -⟩ := a1 c20
      obtain ⟨hz, hk3⟩ := xR_0 c20
      have n1 : h1 67 2 = st.1 2 := (MM _ g1).2.1.n.2.1
      refine wq_aload_n (kk := 0) (q := 24) rfl rfl rfl ?_
      refine wq_aload_n (kk := 0) (q := 25) rfl rfl rfl ?_
      refine wq_getF (q := 28) f_Mo_33 rfl rfl (Nat.le_of_ble_eq_true rfl) rfl rfl rfl ?_
      refine wq_aload_n (kk := 0) (q := 29) rfl rfl rfl ?_
      refine wq_getF (q := 32) f_Mo_20 rfl rfl (Nat.le_of_ble_eq_true rfl) rfl rfl rfl ?_
      refine wq_iconst (n := 2) (q := 33) rfl rfl rfl ?_
      refine wq_iald (q := 34) rfl (Or.inl ⟨rfl, Nat.le_of_ble_eq_true rfl⟩) rfl rfl (by first | omega | (simp [hup]; omega)) (by first | omega | (simp [hup]; omega)) ?_
      refine wq_iconst (n := 0) (q := 35) rfl rfl rfl ?_
      refine wq_callV (q := 38) (m' := m_Mo_namesLink) (R' := rm 8) (As := [_, _, _]) rfl rfl l_Mo_191 vm_Mo_namesLink rfl rfl rfl (Or.inl ⟨rfl, Nat.le_of_ble_eq_true rfl⟩) (Nat.le_of_ble_eq_true rfl) (Nat.le_of_ble_eq_true rfl) (Nat.le_refl _) (Nat.le_refl _) (Nat.le_of_ble_eq_true rfl) (Mo_namesF_ok 71 8 _ 0 (fdL T n st p1) (Or.inr ⟨rfl, rfl⟩) T n p1 h1 r (SS _ _ q1.1 q1.2.1 g1) k1 (by omega) (by omega) (by omega) (fun z => fdL_R (MM _ g1) hV q1.2.1 z.1)) rfl ?_
      rintro rv h2 r ⟨rfl, rfl, f2, y2, a2⟩ -
      have g2 : f64 erF [64, 72] h h2 := g1.tr f2 (fun _ z => z) (fun _ z => z)
      refine wq_cif_ne (tgt := 43) (q := 41) rfl rfl rfl (fun c38 => ?_) (fun c38 => ?_)
      · skip
        have v2 := xU_0 c38
        have k2 : tkR T n p1 h2 := by
          rw [a2 c38]
          exact tkR_f (S := []) k1 (f64.rf.uc (C := [72]) (by decide) (by decide)) (by decide) (by decide) (by decide) (by decide)
        have l0 : h2 72 0 = fdL T n st p1 := by rw [a2 c38, hup_s]
        refine wq_aload_n (kk := 0) (q := 44) rfl rfl rfl ?_
        refine wq_callV (q := 47) (m' := m_Mo_goesOn) (R' := rm 2) (As := []) rfl rfl l_Mo_134 vm_Mo_goesOn rfl rfl rfl (Or.inl ⟨rfl, Nat.le_of_ble_eq_true rfl⟩) (Nat.le_of_ble_eq_true rfl) (Nat.le_of_ble_eq_true rfl) (Nat.le_refl _) (Nat.le_refl _) (Nat.le_of_ble_eq_true rfl) (Mo_goesOn_ok T n p2 h2 r (SS _ _ q2.1 q2.2.1 g2) (tkR_q k2 (by rw [v2.1.1]; decide) e2)) rfl ?_
        rintro rv h3 r ⟨rfl, rfl, f3, k3⟩ -
        have g3 : f64 erF [64, 72] h h3 := g2.tr f3 (by decide) (by decide)
        have n3 : h3 67 1 = st.1 1 := (MM _ g3).2.1.n.1
        refine wq_aload_n (kk := 0) (q := 48) rfl rfl rfl ?_
        refine wq_aload_n (kk := 0) (q := 49) rfl rfl rfl ?_
        refine wq_getF (q := 52) f_Mo_29 rfl rfl (Nat.le_of_ble_eq_true rfl) rfl rfl rfl ?_
        refine wq_aload_n (kk := 0) (q := 53) rfl rfl rfl ?_
        refine wq_getF (q := 56) f_Mo_20 rfl rfl (Nat.le_of_ble_eq_true rfl) rfl rfl rfl ?_
        refine wq_iconst (n := 1) (q := 57) rfl rfl rfl ?_
        refine wq_iald (q := 58) rfl (Or.inl ⟨rfl, Nat.le_of_ble_eq_true rfl⟩) rfl rfl (by first | omega | (simp [hup]; omega)) (by first | omega | (simp [hup]; omega)) ?_
        refine wq_iconst (n := 1) (q := 59) rfl rfl rfl ?_
        refine wq_callV (q := 62) (m' := m_Mo_namesLink) (R' := rm 8) (As := [_, _, _]) rfl rfl l_Mo_191 vm_Mo_namesLink rfl rfl rfl (Or.inl ⟨rfl, Nat.le_of_ble_eq_true rfl⟩) (Nat.le_of_ble_eq_true rfl) (Nat.le_of_ble_eq_true rfl) (Nat.le_refl _) (Nat.le_refl _) (Nat.le_of_ble_eq_true rfl) (Mo_namesF_ok 70 10 _ 1 (fdS T n st p2) (Or.inl ⟨rfl, rfl⟩) T n p2 h3 r (SS _ _ q2.1 q2.2.1 g3) k3 (by omega) (by omega) (by omega) (fun z => fdS_R (MM _ g3) hV q2.2.1 z.1)) rfl ?_
        rintro rv h4 r ⟨rfl, rfl, f4, y4, a4⟩ -
        have g4 : f64 erF [64, 72] h h4 := g3.tr f4 (fun _ z => z) (fun _ z => z)
        refine wq_cif_ne (tgt := 67) (q := 65) rfl rfl rfl (fun c62 => ?_) (fun c62 => ?_)
        · skip
          have v4 := xU_0 c62
          have k4 : tkR T n p2 h4 := by
            rw [a4 c62]
            exact tkR_f (S := []) k3 (f64.rf.uc (C := [72]) (by decide) (by decide)) (by decide) (by decide) (by decide) (by decide)
          have l1 : h4 72 1 = fdS T n st p2 := by rw [a4 c62, hup_s]
          have l01 : h4 72 0 = fdL T n st p1 := by rw [a4 c62, hup_j (by decide), f3.1 72 (by decide)]; exact l0
          refine wq_aload_n (kk := 0) (q := 68) rfl rfl rfl ?_
          refine wq_callV (q := 71) (m' := m_Mo_goesOn) (R' := rm 2) (As := []) rfl rfl l_Mo_134 vm_Mo_goesOn rfl rfl rfl (Or.inl ⟨rfl, Nat.le_of_ble_eq_true rfl⟩) (Nat.le_of_ble_eq_true rfl) (Nat.le_of_ble_eq_true rfl) (Nat.le_refl _) (Nat.le_refl _) (Nat.le_of_ble_eq_true rfl) (Mo_goesOn_ok T n p3 h4 r (SS _ _ q3.1 q3.2.1 g4) (tkR_q k4 (by rw [v4.1.1]; decide) e3)) rfl ?_
          rintro rv h5' r ⟨rfl, rfl, f5, k5⟩ -
          have g5 : f64 erF [64, 72] h h5' := g4.tr f5 (by decide) (by decide)
          have n5 : h5' 67 1 = st.1 1 := (MM _ g5).2.1.n.1
          refine wq_aload_n (kk := 0) (q := 72) rfl rfl rfl ?_
          refine wq_aload_n (kk := 0) (q := 73) rfl rfl rfl ?_
          refine wq_getF (q := 76) f_Mo_29 rfl rfl (Nat.le_of_ble_eq_true rfl) rfl rfl rfl ?_
          refine wq_aload_n (kk := 0) (q := 77) rfl rfl rfl ?_
          refine wq_getF (q := 80) f_Mo_20 rfl rfl (Nat.le_of_ble_eq_true rfl) rfl rfl rfl ?_
          refine wq_iconst (n := 1) (q := 81) rfl rfl rfl ?_
          refine wq_iald (q := 82) rfl (Or.inl ⟨rfl, Nat.le_of_ble_eq_true rfl⟩) rfl rfl (by first | omega | (simp [hup]; omega)) (by first | omega | (simp [hup]; omega)) ?_
          refine wq_iconst (n := 2) (q := 83) rfl rfl rfl ?_
          refine wq_callV (q := 86) (m' := m_Mo_namesLink) (R' := rm 8) (As := [_, _, _]) rfl rfl l_Mo_191 vm_Mo_namesLink rfl rfl rfl (Or.inl ⟨rfl, Nat.le_of_ble_eq_true rfl⟩) (Nat.le_of_ble_eq_true rfl) (Nat.le_of_ble_eq_true rfl) (Nat.le_refl _) (Nat.le_refl _) (Nat.le_of_ble_eq_true rfl) (Mo_namesF_ok 70 10 _ 2 (fdS T n st p3) (Or.inl ⟨rfl, rfl⟩) T n p3 h5' r (SS _ _ q3.1 q3.2.1 g5) k5 (by omega) (by omega) (by omega) (fun z => fdS_R (MM _ g5) hV q3.2.1 z.1)) rfl ?_
          rintro rv h6 r ⟨rfl, rfl, f6, y6, a6⟩ -
          have g6 : f64 erF [64, 72] h h6 := g5.tr f6 (fun _ z => z) (fun _ z => z)
          refine wq_cif_ne (tgt := 91) (q := 89) rfl rfl rfl (fun c86 => ?_) (fun c86 => ?_)
          · skip
            have v6 := xU_0 c86
            have k6 : tkR T n p3 h6 := by
              rw [a6 c86]
              exact tkR_f (S := []) k5 (f64.rf.uc (C := [72]) (by decide) (by decide)) (by decide) (by decide) (by decide) (by decide)
            have l2 : h6 72 2 = fdS T n st p3 := by rw [a6 c86, hup_s]
            have l11 : h6 72 1 = fdS T n st p2 := by rw [a6 c86, hup_j (by decide), f5.1 72 (by decide)]; exact l1
            have l02 : h6 72 0 = fdL T n st p1 := by rw [a6 c86, hup_j (by decide), f5.1 72 (by decide)]; exact l01
            refine wq_aload_n (kk := 0) (q := 92) rfl rfl rfl ?_
            refine wq_getF (q := 95) f_Mo_36 rfl rfl (Nat.le_of_ble_eq_true rfl) rfl rfl rfl ?_
            refine wq_iconst (n := 1) (q := 96) rfl rfl rfl ?_
            refine wq_iald (q := 97) rfl (Or.inl ⟨rfl, Nat.le_of_ble_eq_true rfl⟩) rfl rfl (by first | omega | (simp [hup]; omega)) (by first | omega | (simp [hup]; omega)) ?_
            refine wq_aload_n (kk := 0) (q := 98) rfl rfl rfl ?_
            refine wq_getF (q := 101) f_Mo_36 rfl rfl (Nat.le_of_ble_eq_true rfl) rfl rfl rfl ?_
            refine wq_iconst (n := 2) (q := 102) rfl rfl rfl ?_
            refine wq_iald (q := 103) rfl (Or.inl ⟨rfl, Nat.le_of_ble_eq_true rfl⟩) rfl rfl (by first | omega | (simp [hup]; omega)) (by first | omega | (simp [hup]; omega)) ?_
            refine wq_icmp_ne (tgt := 112) (q := 106) rfl rfl rfl (fun c103 => ?_) (fun c103 => ?_)
            · skip
              have kk : (if fdS T n st p3 = fdS T n st p2 then (3 : Int) else 0) = 0 := if_neg (by omega)
              exact Mo_linkT T n p3 (fdL T n st p1) (fdS T n st p2) (fdS T n st p3) st _ h r h6 (GG _ g6) (SS _ _ q3.1 q3.2.1 g6) k6 (by rw [v6.1.1]; decide) (MM _ g6) hV hz hk3 l02 l11 l2 ((fd_b hV).2 v2.2) ((fd_b hV).1 v4.2) ((fd_b hV).1 v6.2) (by omega) ((ch_y c20).trans (es.trans ((ch_y c38).trans ((ch_y c62).trans ((ch_y c86).trans (ch_y kk))))))
            · skip
              refine wq_aload_n (kk := 0) (q := 107) rfl rfl rfl ?_
              refine wq_iconst (n := 3) (q := 108) rfl rfl rfl ?_
              refine wq_callV (q := 111) (m' := m_Mo_errs) (R' := rm 1) (As := [_]) rfl rfl l_Mo_130 vm_Mo_errs rfl rfl rfl (Or.inl ⟨rfl, Nat.le_of_ble_eq_true rfl⟩) (Nat.le_of_ble_eq_true rfl) (Nat.le_of_ble_eq_true rfl) (Nat.le_refl _) (Nat.le_refl _) (Nat.le_of_ble_eq_true rfl) (Mo_errs_ok 3 h6 r) rfl ?_
              rintro rv h7 r ⟨rfl, rfl, rfl⟩ -
              have kk : (if fdS T n st p3 = fdS T n st p2 then (3 : Int) else 0) = 3 := if_pos (by omega)
              rw [kk] at es
              exact wq_zret rfl rfl (Nat.le_refl _) (Nat.le_refl _) (by omega) (lnR.e ((ch_y c20).trans (es.trans ((ch_y c38).trans ((ch_y c62).trans ((ch_y c86).trans (ch_n (by decide))))))) (by decide) (GG _ g6) k6.1)
          · skip
            refine wq_iconst (n := 0) (q := 90) rfl rfl rfl ?_
            obtain ⟨c, d⟩ := y6 c86
            exact wq_zret rfl rfl (Nat.le_refl _) (Nat.le_refl _) (by omega) (lnR.n ((ch_y c20).trans (es.trans ((ch_y c38).trans ((ch_y c62).trans (ch_n c86))))) c86 (GG _ g6) c d)
        · skip
          refine wq_iconst (n := 0) (q := 66) rfl rfl rfl ?_
          obtain ⟨c, d⟩ := y4 c62
          exact wq_zret rfl rfl (Nat.le_refl _) (Nat.le_refl _) (by omega) (lnR.n ((ch_y c20).trans (es.trans ((ch_y c38).trans (ch_n c62)))) c62 (GG _ g4) c d)
      · skip
        refine wq_iconst (n := 0) (q := 42) rfl rfl rfl ?_
        first
        | (obtain ⟨c, d⟩ := y2 c38
           exact wq_zret rfl rfl (Nat.le_refl _) (Nat.le_refl _) (by omega) (lnR.n ((ch_y c20).trans (es.trans (ch_n c38))) c38 (GG _ g2) c d))
        | (obtain ⟨c, d⟩ := y1 c20
           exact wq_zret rfl rfl (Nat.le_refl _) (Nat.le_refl _) (by omega) (lnR.n (ch_n c20) c20 (GG _ g1) c d))

/-! LinkTimesModel: spot -/
theorem sp_fin {T : mF} {n p1 p3 w : Int} {h h5 : mH} {st : pS} (hM : mrR T n h st) (b1 : 0 ≤ st.1 1 ∧ st.1 1 < 10) (e19 : h5 64 19 = h 64 19) (e67 : h5 67 = up (up (up (h 67) (5 + st.1 1) (c10 T n p3)) (15 + st.1 1) w) 1 (st.1 1 + 1)) (e70 : h5 70 = up (h 70) (st.1 1) (c32 T n p1)) (e71 : h5 71 = h 71) : mrR T n h5 (sSp T n st p1 p3 w) := by
  unfold sSp
  refine mrR_i ?_ ?_ (fun s s0 s1 => ?_) (fun s s0 s1 => ?_)
  · rw [up_n (by decide), up_n (by omega), up_n (by omega), e19]
    exact hM.1
  · rw [e67]
    exact eM_sp hM.2.1 b1
  · rw [up_s] at s1
    rw [e70]
    by_cases e : s = st.1 1
    · subst e; rw [up_s, up_s]
    · rw [up_n e, up_n e]; exact hM.2.2.1 s s0 (by omega)
  · rw [up_n (by decide), up_n (by omega), up_n (by omega)] at s1
    rw [e71]
    exact hM.2.2.2 s s0 s1
set_option maxRecDepth 100000 in
set_option maxHeartbeats 2000000 in
theorem Mo_readSpot_ok (T : mF) (n p : Int) (st : pS) (h : mH) (r : mR) (hS : rdR T n p h) (hk : tkR T n p h) (h5 : tK T n p ≠ 5) (hM : mrR T n h st) (hV : PV T n st) : Meets true (rm 9) m_Mo_readSpot [vR 64] h r (lnR T n (ch st (xR st.1 (st.1 1) 10) (tS T n p) (pSpot T n p st)) h r) := by
  have e13 := hk.1
  have nx := tkR_nx hS hk h5
  have m1 := hM.2.1.n.1
  have b0 := hV.1.1
  have b1 := hV.1.2.1
  have bz : st.1 0 = 0 → st.1 1 < 10 := fun z => by have := (hV.1.2.2.2.2.2.1 z).1; omega
  have es : pSpot T n p st = ch st (xA T n st (tE T n p)) (tS T n (tE T n p)) (ch st (xx (xW T n (tE T n (tE T n p)) 5) (xN T n (tE T n (tE T n (tE T n p))) 0 99)) (xp (xW T n (tE T n (tE T n p)) 5) (tS T n (tE T n (tE T n p))) (tS T n (tE T n (tE T n (tE T n p))))) (pSpot4 T n (tE T n p) (tE T n (tE T n (tE T n p))) (tE T n (tE T n (tE T n (tE T n p)))) st)) := by
    unfold pSpot pSpot1
    rw [ch_xx (a := xW T n (tE T n (tE T n p)) 5)]
  refine ⟨ok_Mo_readSpot, Nat.le_of_ble_eq_true rfl, ?_⟩
  refine wq_aload_n (kk := 0) (q := 1) rfl rfl rfl ?_
  refine wq_getF (q := 4) f_Mo_20 rfl rfl (Nat.le_of_ble_eq_true rfl) rfl rfl rfl ?_
  refine wq_iconst (n := 1) (q := 5) rfl rfl rfl ?_
  refine wq_iald (q := 6) rfl (Or.inl ⟨rfl, Nat.le_of_ble_eq_true rfl⟩) rfl rfl (by first | omega | (simp [hup]; omega)) (by first | omega | (simp [hup]; omega)) ?_
  rw [m1]
  refine wq_istore_n (kk := 1) (q := 7) rfl rfl (Nat.le_of_ble_eq_true rfl) rfl ?_
  refine wq_aload_n (kk := 0) (q := 8) rfl rfl rfl ?_
  refine wq_iload_n (kk := 1) (q := 9) rfl rfl rfl ?_
  refine wq_bipush (n := 10) (q := 11) rfl rfl rfl ?_
  refine wq_icmp_ge (tgt := 18) (q := 14) rfl rfl rfl (fun c11 => ?_) (fun c11 => ?_)
  · skip
    refine wq_iconst (n := 0) (q := 19) rfl rfl rfl ?_
    refine wq_callV (q := 22) (m' := m_Mo_begins) (R' := rm 3) (As := [_]) rfl rfl l_Mo_176 vm_Mo_begins rfl rfl rfl (Or.inl ⟨rfl, Nat.le_of_ble_eq_true rfl⟩) (Nat.le_of_ble_eq_true rfl) (Nat.le_of_ble_eq_true rfl) (Nat.le_refl _) (Nat.le_refl _) (Nat.le_of_ble_eq_true rfl) (Mo_beginsX_ok _ (st.1 1) 10 st.1 T n p h r hS hk h5 (by omega) b0.1 bz hM.1) rfl ?_
    rintro rv h1 r ⟨rfl, rfl, f1, y1, a1⟩ -
    refine wq_cif_eq (tgt := 52) (q := 25) rfl rfl rfl (fun c22 => ?_) (fun c22 => ?_)
    · skip
      refine wq_iconst (n := 0) (q := 53) rfl rfl rfl ?_
      first
      | (obtain ⟨a, b⟩ := y3 c49
         exact wq_zret rfl rfl (Nat.le_refl _) (Nat.le_refl _) (by omega) (lnR.n ((ch_y c22).trans (es.trans ((ch_y c34).trans (ch_n c49)))) c49 (((f1.mono (by decide) (by decide)).tr f2 (by decide) (by decide)).tr f3 (by decide) (by decide)) a b))
      | (obtain ⟨a, b⟩ := y2 c34
         exact wq_zret rfl rfl (Nat.le_refl _) (Nat.le_refl _) (by omega) (lnR.n ((ch_y c22).trans (es.trans (ch_n c34))) c34 ((f1.mono (by decide) (by decide)).tr f2 (by decide) (by decide)) a b))
      | (obtain ⟨a, b⟩ := y1 c22
         exact wq_zret rfl rfl (Nat.le_refl _) (Nat.le_refl _) (by omega) (lnR.n (ch_n c22) c22 (f1.mono (by decide) (by decide)) a b))
    · skip
      obtain ⟨k1, g1⟩ := a1 c22
      have hM1 := mrR_f hM g1 (by decide) (by decide) (by decide) (by decide)
      have hS1 := rdR_f nx.1 g1 (by decide) (by decide)
      have hc := (xR_0 c22).2
      refine wq_aload_n (kk := 0) (q := 26) rfl rfl rfl ?_
      refine wq_aload_n (kk := 0) (q := 27) rfl rfl rfl ?_
      refine wq_getF (q := 30) f_Mo_29 rfl rfl (Nat.le_of_ble_eq_true rfl) rfl rfl rfl ?_
      refine wq_iload_n (kk := 1) (q := 31) rfl rfl rfl ?_
      refine wq_callV (q := 34) (m' := m_Mo_takesNew) (R' := rm 8) (As := [_, _]) rfl rfl l_Mo_180 vm_Mo_takesNew rfl rfl rfl (Or.inl ⟨rfl, Nat.le_of_ble_eq_true rfl⟩) (Nat.le_of_ble_eq_true rfl) (Nat.le_of_ble_eq_true rfl) (Nat.le_refl _) (Nat.le_refl _) (Nat.le_of_ble_eq_true rfl) (Mo_takes70_ok T n (tE T n p) st h1 r hS1 k1 hM1 hV _ (by omega)) rfl ?_
      rintro rv h2 r ⟨rfl, rfl, f2, y2, a2⟩ -
      refine wq_cif_eq (tgt := 52) (q := 37) rfl rfl rfl (fun c34 => ?_) (fun c34 => ?_)
      · skip
        refine wq_iconst (n := 0) (q := 53) rfl rfl rfl ?_
        first
        | (obtain ⟨a, b⟩ := y3 c49
           exact wq_zret rfl rfl (Nat.le_refl _) (Nat.le_refl _) (by omega) (lnR.n ((ch_y c22).trans (es.trans ((ch_y c34).trans (ch_n c49)))) c49 (((f1.mono (by decide) (by decide)).tr f2 (by decide) (by decide)).tr f3 (by decide) (by decide)) a b))
        | (obtain ⟨a, b⟩ := y2 c34
           exact wq_zret rfl rfl (Nat.le_refl _) (Nat.le_refl _) (by omega) (lnR.n ((ch_y c22).trans (es.trans (ch_n c34))) c34 ((f1.mono (by decide) (by decide)).tr f2 (by decide) (by decide)) a b))
        | (obtain ⟨a, b⟩ := y1 c22
           exact wq_zret rfl rfl (Nat.le_refl _) (Nat.le_refl _) (by omega) (lnR.n (ch_n c22) c22 (f1.mono (by decide) (by decide)) a b))
      · skip
        obtain ⟨k2, e2⟩ := a2 c34
        have nx2 := tkR_nx hS1 k1 (by rw [(xA_0 c34).1.1]; decide)
        have hS2 := rdR_f nx2.1 f2 (by decide) (by decide)
        refine wq_aload_n (kk := 0) (q := 38) rfl rfl rfl ?_
        refine wq_ldcs (j := 5) (q := 40) (by decide) (Nat.le_of_ble_eq_true rfl) rfl rfl ?_
        refine wq_iconst (n := 5) (q := 41) rfl rfl rfl ?_
        refine wq_iload_n (kk := 1) (q := 42) rfl rfl rfl ?_
        refine wq_iadd (q := 43) rfl rfl (by first | omega | (simp [hup]; omega)) (by first | omega | (simp [hup]; omega)) ?_
        refine wq_iconst (n := 0) (q := 44) rfl rfl rfl ?_
        refine wq_bipush (n := 99) (q := 46) rfl rfl rfl ?_
        refine wq_callV (q := 49) (m' := m_Mo_after) (R' := rm 7) (As := [_, _, _, _]) rfl rfl l_Mo_172 vm_Mo_after rfl rfl rfl (Or.inl ⟨rfl, Nat.le_of_ble_eq_true rfl⟩) (Nat.le_of_ble_eq_true rfl) (Nat.le_of_ble_eq_true rfl) (Nat.le_refl _) (Nat.le_refl _) (Nat.le_of_ble_eq_true rfl) (Mo_after_ok 5 (by decide) (5 + st.1 1) 0 99 T n (tE T n (tE T n p)) h2 r hS2 k2 (by omega)) rfl ?_
        rintro rv h3 r ⟨rfl, rfl, f3, y3, a3⟩ -
        refine wq_cif_ne (tgt := 54) (q := 52) rfl rfl rfl (fun c49 => ?_) (fun c49 => ?_)
        · skip
          obtain ⟨k3, e3⟩ := a3 c49
          obtain ⟨w3, n3⟩ := xx_0 c49
          have q2 := tE_p (T := T) hS2.2.2.2.1 hS2.2.2.2.2
          have q3 := tE_p (T := T) q2.1 q2.2.1
          have hS3 : rdR T n (tE T n (tE T n (tE T n (tE T n p)))) h3 := by
            have z := rdR_f hS2 f3 (by decide) (by decide)
            exact ⟨z.1, z.2.1, z.2.2.1, q3.1, q3.2.1⟩
          have F3 : f64 rrF rrC h h3 := ((f1.mono (by decide) (by decide)).tr f2 (by decide) (by decide)).tr f3 (by decide) (by decide)
          have e67 : h3 67 = up (h 67) (5 + st.1 1) (c10 T n (tE T n (tE T n (tE T n p)))) := by rw [e3, f2.1 67 (by decide), g1.1 67 (by decide)]
          have e70 : h3 70 = up (h 70) (st.1 1) (c32 T n (tE T n p)) := by rw [f3.1 70 (by decide), e2, g1.1 70 (by decide)]
          have e71 : h3 71 = h 71 := by rw [f3.1 71 (by decide), f2.1 71 (by decide), g1.1 71 (by decide)]
          have e19 : h3 64 19 = h 64 19 := by rw [f3.2 19 (by decide), f2.2 19 (by decide), g1.2 19 (by decide)]
          have ex : ch st (xR st.1 (st.1 1) 10) (tS T n p) (pSpot T n p st) = pSpot4 T n (tE T n p) (tE T n (tE T n (tE T n p))) (tE T n (tE T n (tE T n (tE T n p)))) st := (ch_y c22).trans (es.trans ((ch_y c34).trans (ch_y c49)))
          refine wq_aload_n (kk := 0) (q := 55) rfl rfl rfl ?_
          refine wq_getF (q := 58) f_Mo_20 rfl rfl (Nat.le_of_ble_eq_true rfl) rfl rfl rfl ?_
          refine wq_bipush (n := 15) (q := 60) rfl rfl rfl ?_
          refine wq_iload_n (kk := 1) (q := 61) rfl rfl rfl ?_
          refine wq_iadd (q := 62) rfl rfl (by first | omega | (simp [hup]; omega)) (by first | omega | (simp [hup]; omega)) ?_
          refine wq_bipush (n := -2) (q := 64) rfl rfl rfl ?_
          refine wq_iast (q := 65) rfl (Or.inl ⟨rfl, Nat.le_of_ble_eq_true rfl⟩) rfl rfl (by first | omega | (simp [hup]; omega)) (by first | omega | (simp [hup]; omega)) ?_
          have f4 : f64 [] [67] h3 (hup h3 67 (15 + st.1 1) (-2)) := f64.rf.uc (by decide) (by decide)
          have k4 := tkR_f k3 f4 (by decide) (by decide) (by decide) (by decide)
          have hS4 := rdR_f hS3 f4 (by decide) (by decide)
          have d67 : hup h3 67 (15 + st.1 1) (-2) 67 = up (up (h 67) (5 + st.1 1) (c10 T n (tE T n (tE T n (tE T n p))))) (15 + st.1 1) (-2) := by rw [hup_up, e67]
          have d1 : hup h3 67 (15 + st.1 1) (-2) 67 1 = st.1 1 := by rw [d67, up_n (by omega), up_n (by omega)]; exact m1
          have d70 : hup h3 67 (15 + st.1 1) (-2) 70 = h3 70 := hup_ne (by decide)
          have d71 : hup h3 67 (15 + st.1 1) (-2) 71 = h3 71 := hup_ne (by decide)
          have d19 : hup h3 67 (15 + st.1 1) (-2) 64 19 = h3 64 19 := hup_i (by decide)
          have F4 : f64 rrF rrC h (hup h3 67 (15 + st.1 1) (-2)) := F3.uc (by decide) (by decide)
          clear f1 f2 f3 y1 y2 y3 a1 a2 a3 c11 n3 w3 q2 q3
          generalize hup h3 67 (15 + st.1 1) (-2) = h4 at *
          refine wq_aload_n (kk := 0) (q := 66) rfl rfl rfl ?_
          refine wq_ldcs (j := 6) (q := 68) (by decide) (Nat.le_of_ble_eq_true rfl) rfl rfl ?_
          refine wq_callV (q := 71) (m' := m_Mo_isWord) (R' := rm 6) (As := [_]) rfl rfl l_Mo_137 vm_Mo_isWord rfl rfl rfl (Or.inl ⟨rfl, Nat.le_of_ble_eq_true rfl⟩) (Nat.le_of_ble_eq_true rfl) (Nat.le_of_ble_eq_true rfl) (Nat.le_refl _) (Nat.le_refl _) (Nat.le_of_ble_eq_true rfl) (Mo_isWord_ok 6 (by decide) T n _ h4 r hS4 k4) rfl ?_
          rintro rv h4 r ⟨rfl, rfl, rfl⟩ -
          refine wq_cif_eq (tgt := 93) (q := 74) rfl rfl rfl (fun c71 => ?_) (fun c71 => ?_)
          · skip
            first
            | (obtain ⟨k6, e6⟩ := a6 c88
               have d1 : h6 67 1 = st.1 1 := by rw [e6, up_n (by omega)]; exact d1)
            | skip
            refine wq_aload_n (kk := 0) (q := 94) rfl rfl rfl ?_
            refine wq_getF (q := 97) f_Mo_20 rfl rfl (Nat.le_of_ble_eq_true rfl) rfl rfl rfl ?_
            refine wq_iconst (n := 1) (q := 98) rfl rfl rfl ?_
            refine wq_dup2 (q := 99) rfl rfl rfl rfl ?_
            refine wq_iald (q := 100) rfl (Or.inl ⟨rfl, Nat.le_of_ble_eq_true rfl⟩) rfl rfl (by first | omega | (simp [hup]; omega)) (by first | omega | (simp [hup]; omega)) ?_
            refine wq_iconst (n := 1) (q := 101) rfl rfl rfl ?_
            refine wq_iadd (q := 102) rfl rfl (by first | omega | (simp [hup]; omega)) (by first | omega | (simp [hup]; omega)) ?_
            refine wq_iast (q := 103) rfl (Or.inl ⟨rfl, Nat.le_of_ble_eq_true rfl⟩) rfl rfl (by first | omega | (simp [hup]; omega)) (by first | omega | (simp [hup]; omega)) ?_
            refine wq_iconst (n := 1) (q := 104) rfl rfl rfl ?_
            first
            | (refine wq_zret rfl rfl (Nat.le_refl _) (Nat.le_refl _) (by omega) (lnR.y (ex.trans (ew.trans (ch_y c88))) ((F4.tr f6 (by decide) (by decide)).uc (by decide) (by decide)) (tkR_f k6 (f64.rf.uc (S := []) (C := [67]) (by decide) (by decide)) (by decide) (by decide) (by decide) (by decide)) (sp_fin hM ⟨b1.1, hc⟩ ?_ ?_ ?_ ?_))
               · rw [hup_i (by decide), f6.2 19 (by decide), d19]; exact e19
               · rw [hup_up, d1, e6, d67, up_up]
               · rw [hup_ne (by decide), f6.1 70 (by decide), d70]; exact e70
               · rw [hup_ne (by decide), f6.1 71 (by decide), d71]; exact e71)
            | (refine wq_zret rfl rfl (Nat.le_refl _) (Nat.le_refl _) (by omega) (lnR.y (pl := 0) (q := tE T n (tE T n (tE T n (tE T n p)))) (st := sSp T n st (tE T n p) (tE T n (tE T n (tE T n p))) (-2)) (ex.trans ?_) (F4.uc (by decide) (by decide)) (tkR_f k4 (f64.rf.uc (S := []) (C := [67]) (by decide) (by decide)) (by decide) (by decide) (by decide) (by decide)) (sp_fin hM ⟨b1.1, hc⟩ ?_ ?_ ?_ ?_))
               · unfold pSpot4
                 rw [if_pos (bI_f c71)]
               · rw [hup_i (by decide), d19]; exact e19
               · rw [hup_up, d1, d67]
               · rw [hup_ne (by decide), d70]; exact e70
               · rw [hup_ne (by decide), d71]; exact e71)
          · skip
            refine wq_aload_n (kk := 0) (q := 75) rfl rfl rfl ?_
            refine wq_ldcs (j := 6) (q := 77) (by decide) (Nat.le_of_ble_eq_true rfl) rfl rfl ?_
            refine wq_bipush (n := 15) (q := 79) rfl rfl rfl ?_
            refine wq_iload_n (kk := 1) (q := 80) rfl rfl rfl ?_
            refine wq_iadd (q := 81) rfl rfl (by first | omega | (simp [hup]; omega)) (by first | omega | (simp [hup]; omega)) ?_
            refine wq_iconst (n := 0) (q := 82) rfl rfl rfl ?_
            refine wq_sipush (n := 999) (q := 85) rfl rfl rfl ?_
            refine wq_callV (q := 88) (m' := m_Mo_after) (R' := rm 7) (As := [_, _, _, _]) rfl rfl l_Mo_172 vm_Mo_after rfl rfl rfl (Or.inl ⟨rfl, Nat.le_of_ble_eq_true rfl⟩) (Nat.le_of_ble_eq_true rfl) (Nat.le_of_ble_eq_true rfl) (Nat.le_refl _) (Nat.le_refl _) (Nat.le_of_ble_eq_true rfl) (Mo_after_ok 6 (by decide) (15 + st.1 1) 0 999 T n _ h4 r hS4 k4 (by omega)) rfl ?_
            rintro rv h6 r ⟨rfl, rfl, f6, y6, a6⟩ -
            rw [xW_0 c71] at *
            have ew : pSpot4 T n (tE T n p) (tE T n (tE T n (tE T n p))) (tE T n (tE T n (tE T n (tE T n p)))) st = ch st (xN T n (tE T n (tE T n (tE T n (tE T n (tE T n p))))) 0 999) (tS T n (tE T n (tE T n (tE T n (tE T n (tE T n p)))))) (0, 0, tE T n (tE T n (tE T n (tE T n (tE T n (tE T n p))))), sSp T n st (tE T n p) (tE T n (tE T n (tE T n p))) (c10 T n (tE T n (tE T n (tE T n (tE T n (tE T n p))))))) := by
              unfold pSpot4
              rw [if_neg (by rw [bI_t c71]; decide)]
            refine wq_cif_ne (tgt := 93) (q := 91) rfl rfl rfl (fun c88 => ?_) (fun c88 => ?_)
            · skip
              first
              | (obtain ⟨k6, e6⟩ := a6 c88
                 have d1 : h6 67 1 = st.1 1 := by rw [e6, up_n (by omega)]; exact d1)
              | skip
              refine wq_aload_n (kk := 0) (q := 94) rfl rfl rfl ?_
              refine wq_getF (q := 97) f_Mo_20 rfl rfl (Nat.le_of_ble_eq_true rfl) rfl rfl rfl ?_
              refine wq_iconst (n := 1) (q := 98) rfl rfl rfl ?_
              refine wq_dup2 (q := 99) rfl rfl rfl rfl ?_
              refine wq_iald (q := 100) rfl (Or.inl ⟨rfl, Nat.le_of_ble_eq_true rfl⟩) rfl rfl (by first | omega | (simp [hup]; omega)) (by first | omega | (simp [hup]; omega)) ?_
              refine wq_iconst (n := 1) (q := 101) rfl rfl rfl ?_
              refine wq_iadd (q := 102) rfl rfl (by first | omega | (simp [hup]; omega)) (by first | omega | (simp [hup]; omega)) ?_
              refine wq_iast (q := 103) rfl (Or.inl ⟨rfl, Nat.le_of_ble_eq_true rfl⟩) rfl rfl (by first | omega | (simp [hup]; omega)) (by first | omega | (simp [hup]; omega)) ?_
              refine wq_iconst (n := 1) (q := 104) rfl rfl rfl ?_
              first
              | (refine wq_zret rfl rfl (Nat.le_refl _) (Nat.le_refl _) (by omega) (lnR.y (ex.trans (ew.trans (ch_y c88))) ((F4.tr f6 (by decide) (by decide)).uc (by decide) (by decide)) (tkR_f k6 (f64.rf.uc (S := []) (C := [67]) (by decide) (by decide)) (by decide) (by decide) (by decide) (by decide)) (sp_fin hM ⟨b1.1, hc⟩ ?_ ?_ ?_ ?_))
                 · rw [hup_i (by decide), f6.2 19 (by decide), d19]; exact e19
                 · rw [hup_up, d1, e6, d67, up_up]
                 · rw [hup_ne (by decide), f6.1 70 (by decide), d70]; exact e70
                 · rw [hup_ne (by decide), f6.1 71 (by decide), d71]; exact e71)
              | (refine wq_zret rfl rfl (Nat.le_refl _) (Nat.le_refl _) (by omega) (lnR.y (pl := 0) (q := tE T n (tE T n (tE T n (tE T n p)))) (st := sSp T n st (tE T n p) (tE T n (tE T n (tE T n p))) (-2)) (ex.trans ?_) (F4.uc (by decide) (by decide)) (tkR_f k4 (f64.rf.uc (S := []) (C := [67]) (by decide) (by decide)) (by decide) (by decide) (by decide) (by decide)) (sp_fin hM ⟨b1.1, hc⟩ ?_ ?_ ?_ ?_))
                 · unfold pSpot4
                   rw [if_pos (bI_f c71)]
                 · rw [hup_i (by decide), d19]; exact e19
                 · rw [hup_up, d1, d67]
                 · rw [hup_ne (by decide), d70]; exact e70
                 · rw [hup_ne (by decide), d71]; exact e71)
            · skip
              refine wq_iconst (n := 0) (q := 92) rfl rfl rfl ?_
              obtain ⟨a, b⟩ := y6 c88
              exact wq_zret rfl rfl (Nat.le_refl _) (Nat.le_refl _) (by omega) (lnR.n (ex.trans (ew.trans (ch_n c88))) c88 (F4.tr f6 (by decide) (by decide)) a b)
        · skip
          refine wq_iconst (n := 0) (q := 53) rfl rfl rfl ?_
          first
          | (obtain ⟨a, b⟩ := y3 c49
             exact wq_zret rfl rfl (Nat.le_refl _) (Nat.le_refl _) (by omega) (lnR.n ((ch_y c22).trans (es.trans ((ch_y c34).trans (ch_n c49)))) c49 (((f1.mono (by decide) (by decide)).tr f2 (by decide) (by decide)).tr f3 (by decide) (by decide)) a b))
          | (obtain ⟨a, b⟩ := y2 c34
             exact wq_zret rfl rfl (Nat.le_refl _) (Nat.le_refl _) (by omega) (lnR.n ((ch_y c22).trans (es.trans (ch_n c34))) c34 ((f1.mono (by decide) (by decide)).tr f2 (by decide) (by decide)) a b))
          | (obtain ⟨a, b⟩ := y1 c22
             exact wq_zret rfl rfl (Nat.le_refl _) (Nat.le_refl _) (by omega) (lnR.n (ch_n c22) c22 (f1.mono (by decide) (by decide)) a b))
  · skip
    refine wq_iconst (n := 1) (q := 15) rfl rfl rfl ?_
    refine wq_goto (tgt := 19) rfl rfl ?_
    refine wq_callV (q := 22) (m' := m_Mo_begins) (R' := rm 3) (As := [_]) rfl rfl l_Mo_176 vm_Mo_begins rfl rfl rfl (Or.inl ⟨rfl, Nat.le_of_ble_eq_true rfl⟩) (Nat.le_of_ble_eq_true rfl) (Nat.le_of_ble_eq_true rfl) (Nat.le_refl _) (Nat.le_refl _) (Nat.le_of_ble_eq_true rfl) (Mo_beginsX_ok _ (st.1 1) 10 st.1 T n p h r hS hk h5 (by omega) b0.1 bz hM.1) rfl ?_
    rintro rv h1 r ⟨rfl, rfl, f1, y1, a1⟩ -
    refine wq_cif_eq (tgt := 52) (q := 25) rfl rfl rfl (fun c22 => ?_) (fun c22 => ?_)
    · skip
      refine wq_iconst (n := 0) (q := 53) rfl rfl rfl ?_
      first
      | (obtain ⟨a, b⟩ := y3 c49
         exact wq_zret rfl rfl (Nat.le_refl _) (Nat.le_refl _) (by omega) (lnR.n ((ch_y c22).trans (es.trans ((ch_y c34).trans (ch_n c49)))) c49 (((f1.mono (by decide) (by decide)).tr f2 (by decide) (by decide)).tr f3 (by decide) (by decide)) a b))
      | (obtain ⟨a, b⟩ := y2 c34
         exact wq_zret rfl rfl (Nat.le_refl _) (Nat.le_refl _) (by omega) (lnR.n ((ch_y c22).trans (es.trans (ch_n c34))) c34 ((f1.mono (by decide) (by decide)).tr f2 (by decide) (by decide)) a b))
      | (obtain ⟨a, b⟩ := y1 c22
         exact wq_zret rfl rfl (Nat.le_refl _) (Nat.le_refl _) (by omega) (lnR.n (ch_n c22) c22 (f1.mono (by decide) (by decide)) a b))
    · skip
      obtain ⟨k1, g1⟩ := a1 c22
      have hM1 := mrR_f hM g1 (by decide) (by decide) (by decide) (by decide)
      have hS1 := rdR_f nx.1 g1 (by decide) (by decide)
      have hc := (xR_0 c22).2
      refine wq_aload_n (kk := 0) (q := 26) rfl rfl rfl ?_
      refine wq_aload_n (kk := 0) (q := 27) rfl rfl rfl ?_
      refine wq_getF (q := 30) f_Mo_29 rfl rfl (Nat.le_of_ble_eq_true rfl) rfl rfl rfl ?_
      refine wq_iload_n (kk := 1) (q := 31) rfl rfl rfl ?_
      refine wq_callV (q := 34) (m' := m_Mo_takesNew) (R' := rm 8) (As := [_, _]) rfl rfl l_Mo_180 vm_Mo_takesNew rfl rfl rfl (Or.inl ⟨rfl, Nat.le_of_ble_eq_true rfl⟩) (Nat.le_of_ble_eq_true rfl) (Nat.le_of_ble_eq_true rfl) (Nat.le_refl _) (Nat.le_refl _) (Nat.le_of_ble_eq_true rfl) (Mo_takes70_ok T n (tE T n p) st h1 r hS1 k1 hM1 hV _ (by omega)) rfl ?_
      rintro rv h2 r ⟨rfl, rfl, f2, y2, a2⟩ -
      refine wq_cif_eq (tgt := 52) (q := 37) rfl rfl rfl (fun c34 => ?_) (fun c34 => ?_)
      · skip
        refine wq_iconst (n := 0) (q := 53) rfl rfl rfl ?_
        first
        | (obtain ⟨a, b⟩ := y3 c49
           exact wq_zret rfl rfl (Nat.le_refl _) (Nat.le_refl _) (by omega) (lnR.n ((ch_y c22).trans (es.trans ((ch_y c34).trans (ch_n c49)))) c49 (((f1.mono (by decide) (by decide)).tr f2 (by decide) (by decide)).tr f3 (by decide) (by decide)) a b))
        | (obtain ⟨a, b⟩ := y2 c34
           exact wq_zret rfl rfl (Nat.le_refl _) (Nat.le_refl _) (by omega) (lnR.n ((ch_y c22).trans (es.trans (ch_n c34))) c34 ((f1.mono (by decide) (by decide)).tr f2 (by decide) (by decide)) a b))
        | (obtain ⟨a, b⟩ := y1 c22
           exact wq_zret rfl rfl (Nat.le_refl _) (Nat.le_refl _) (by omega) (lnR.n (ch_n c22) c22 (f1.mono (by decide) (by decide)) a b))
      · skip
        obtain ⟨k2, e2⟩ := a2 c34
        have nx2 := tkR_nx hS1 k1 (by rw [(xA_0 c34).1.1]; decide)
        have hS2 := rdR_f nx2.1 f2 (by decide) (by decide)
        refine wq_aload_n (kk := 0) (q := 38) rfl rfl rfl ?_
        refine wq_ldcs (j := 5) (q := 40) (by decide) (Nat.le_of_ble_eq_true rfl) rfl rfl ?_
        refine wq_iconst (n := 5) (q := 41) rfl rfl rfl ?_
        refine wq_iload_n (kk := 1) (q := 42) rfl rfl rfl ?_
        refine wq_iadd (q := 43) rfl rfl (by first | omega | (simp [hup]; omega)) (by first | omega | (simp [hup]; omega)) ?_
        refine wq_iconst (n := 0) (q := 44) rfl rfl rfl ?_
        refine wq_bipush (n := 99) (q := 46) rfl rfl rfl ?_
        refine wq_callV (q := 49) (m' := m_Mo_after) (R' := rm 7) (As := [_, _, _, _]) rfl rfl l_Mo_172 vm_Mo_after rfl rfl rfl (Or.inl ⟨rfl, Nat.le_of_ble_eq_true rfl⟩) (Nat.le_of_ble_eq_true rfl) (Nat.le_of_ble_eq_true rfl) (Nat.le_refl _) (Nat.le_refl _) (Nat.le_of_ble_eq_true rfl) (Mo_after_ok 5 (by decide) (5 + st.1 1) 0 99 T n (tE T n (tE T n p)) h2 r hS2 k2 (by omega)) rfl ?_
        rintro rv h3 r ⟨rfl, rfl, f3, y3, a3⟩ -
        refine wq_cif_ne (tgt := 54) (q := 52) rfl rfl rfl (fun c49 => ?_) (fun c49 => ?_)
        · skip
          obtain ⟨k3, e3⟩ := a3 c49
          obtain ⟨w3, n3⟩ := xx_0 c49
          have q2 := tE_p (T := T) hS2.2.2.2.1 hS2.2.2.2.2
          have q3 := tE_p (T := T) q2.1 q2.2.1
          have hS3 : rdR T n (tE T n (tE T n (tE T n (tE T n p)))) h3 := by
            have z := rdR_f hS2 f3 (by decide) (by decide)
            exact ⟨z.1, z.2.1, z.2.2.1, q3.1, q3.2.1⟩
          have F3 : f64 rrF rrC h h3 := ((f1.mono (by decide) (by decide)).tr f2 (by decide) (by decide)).tr f3 (by decide) (by decide)
          have e67 : h3 67 = up (h 67) (5 + st.1 1) (c10 T n (tE T n (tE T n (tE T n p)))) := by rw [e3, f2.1 67 (by decide), g1.1 67 (by decide)]
          have e70 : h3 70 = up (h 70) (st.1 1) (c32 T n (tE T n p)) := by rw [f3.1 70 (by decide), e2, g1.1 70 (by decide)]
          have e71 : h3 71 = h 71 := by rw [f3.1 71 (by decide), f2.1 71 (by decide), g1.1 71 (by decide)]
          have e19 : h3 64 19 = h 64 19 := by rw [f3.2 19 (by decide), f2.2 19 (by decide), g1.2 19 (by decide)]
          have ex : ch st (xR st.1 (st.1 1) 10) (tS T n p) (pSpot T n p st) = pSpot4 T n (tE T n p) (tE T n (tE T n (tE T n p))) (tE T n (tE T n (tE T n (tE T n p)))) st := (ch_y c22).trans (es.trans ((ch_y c34).trans (ch_y c49)))
          refine wq_aload_n (kk := 0) (q := 55) rfl rfl rfl ?_
          refine wq_getF (q := 58) f_Mo_20 rfl rfl (Nat.le_of_ble_eq_true rfl) rfl rfl rfl ?_
          refine wq_bipush (n := 15) (q := 60) rfl rfl rfl ?_
          refine wq_iload_n (kk := 1) (q := 61) rfl rfl rfl ?_
          refine wq_iadd (q := 62) rfl rfl (by first | omega | (simp [hup]; omega)) (by first | omega | (simp [hup]; omega)) ?_
          refine wq_bipush (n := -2) (q := 64) rfl rfl rfl ?_
          refine wq_iast (q := 65) rfl (Or.inl ⟨rfl, Nat.le_of_ble_eq_true rfl⟩) rfl rfl (by first | omega | (simp [hup]; omega)) (by first | omega | (simp [hup]; omega)) ?_
          have f4 : f64 [] [67] h3 (hup h3 67 (15 + st.1 1) (-2)) := f64.rf.uc (by decide) (by decide)
          have k4 := tkR_f k3 f4 (by decide) (by decide) (by decide) (by decide)
          have hS4 := rdR_f hS3 f4 (by decide) (by decide)
          have d67 : hup h3 67 (15 + st.1 1) (-2) 67 = up (up (h 67) (5 + st.1 1) (c10 T n (tE T n (tE T n (tE T n p))))) (15 + st.1 1) (-2) := by rw [hup_up, e67]
          have d1 : hup h3 67 (15 + st.1 1) (-2) 67 1 = st.1 1 := by rw [d67, up_n (by omega), up_n (by omega)]; exact m1
          have d70 : hup h3 67 (15 + st.1 1) (-2) 70 = h3 70 := hup_ne (by decide)
          have d71 : hup h3 67 (15 + st.1 1) (-2) 71 = h3 71 := hup_ne (by decide)
          have d19 : hup h3 67 (15 + st.1 1) (-2) 64 19 = h3 64 19 := hup_i (by decide)
          have F4 : f64 rrF rrC h (hup h3 67 (15 + st.1 1) (-2)) := F3.uc (by decide) (by decide)
          clear f1 f2 f3 y1 y2 y3 a1 a2 a3 c11 n3 w3 q2 q3
          generalize hup h3 67 (15 + st.1 1) (-2) = h4 at *
          refine wq_aload_n (kk := 0) (q := 66) rfl rfl rfl ?_
          refine wq_ldcs (j := 6) (q := 68) (by decide) (Nat.le_of_ble_eq_true rfl) rfl rfl ?_
          refine wq_callV (q := 71) (m' := m_Mo_isWord) (R' := rm 6) (As := [_]) rfl rfl l_Mo_137 vm_Mo_isWord rfl rfl rfl (Or.inl ⟨rfl, Nat.le_of_ble_eq_true rfl⟩) (Nat.le_of_ble_eq_true rfl) (Nat.le_of_ble_eq_true rfl) (Nat.le_refl _) (Nat.le_refl _) (Nat.le_of_ble_eq_true rfl) (Mo_isWord_ok 6 (by decide) T n _ h4 r hS4 k4) rfl ?_
          rintro rv h4 r ⟨rfl, rfl, rfl⟩ -
          refine wq_cif_eq (tgt := 93) (q := 74) rfl rfl rfl (fun c71 => ?_) (fun c71 => ?_)
          · skip
            first
            | (obtain ⟨k6, e6⟩ := a6 c88
               have d1 : h6 67 1 = st.1 1 := by rw [e6, up_n (by omega)]; exact d1)
            | skip
            refine wq_aload_n (kk := 0) (q := 94) rfl rfl rfl ?_
            refine wq_getF (q := 97) f_Mo_20 rfl rfl (Nat.le_of_ble_eq_true rfl) rfl rfl rfl ?_
            refine wq_iconst (n := 1) (q := 98) rfl rfl rfl ?_
            refine wq_dup2 (q := 99) rfl rfl rfl rfl ?_
            refine wq_iald (q := 100) rfl (Or.inl ⟨rfl, Nat.le_of_ble_eq_true rfl⟩) rfl rfl (by first | omega | (simp [hup]; omega)) (by first | omega | (simp [hup]; omega)) ?_
            refine wq_iconst (n := 1) (q := 101) rfl rfl rfl ?_
            refine wq_iadd (q := 102) rfl rfl (by first | omega | (simp [hup]; omega)) (by first | omega | (simp [hup]; omega)) ?_
            refine wq_iast (q := 103) rfl (Or.inl ⟨rfl, Nat.le_of_ble_eq_true rfl⟩) rfl rfl (by first | omega | (simp [hup]; omega)) (by first | omega | (simp [hup]; omega)) ?_
            refine wq_iconst (n := 1) (q := 104) rfl rfl rfl ?_
            first
            | (refine wq_zret rfl rfl (Nat.le_refl _) (Nat.le_refl _) (by omega) (lnR.y (ex.trans (ew.trans (ch_y c88))) ((F4.tr f6 (by decide) (by decide)).uc (by decide) (by decide)) (tkR_f k6 (f64.rf.uc (S := []) (C := [67]) (by decide) (by decide)) (by decide) (by decide) (by decide) (by decide)) (sp_fin hM ⟨b1.1, hc⟩ ?_ ?_ ?_ ?_))
               · rw [hup_i (by decide), f6.2 19 (by decide), d19]; exact e19
               · rw [hup_up, d1, e6, d67, up_up]
               · rw [hup_ne (by decide), f6.1 70 (by decide), d70]; exact e70
               · rw [hup_ne (by decide), f6.1 71 (by decide), d71]; exact e71)
            | (refine wq_zret rfl rfl (Nat.le_refl _) (Nat.le_refl _) (by omega) (lnR.y (pl := 0) (q := tE T n (tE T n (tE T n (tE T n p)))) (st := sSp T n st (tE T n p) (tE T n (tE T n (tE T n p))) (-2)) (ex.trans ?_) (F4.uc (by decide) (by decide)) (tkR_f k4 (f64.rf.uc (S := []) (C := [67]) (by decide) (by decide)) (by decide) (by decide) (by decide) (by decide)) (sp_fin hM ⟨b1.1, hc⟩ ?_ ?_ ?_ ?_))
               · unfold pSpot4
                 rw [if_pos (bI_f c71)]
               · rw [hup_i (by decide), d19]; exact e19
               · rw [hup_up, d1, d67]
               · rw [hup_ne (by decide), d70]; exact e70
               · rw [hup_ne (by decide), d71]; exact e71)
          · skip
            refine wq_aload_n (kk := 0) (q := 75) rfl rfl rfl ?_
            refine wq_ldcs (j := 6) (q := 77) (by decide) (Nat.le_of_ble_eq_true rfl) rfl rfl ?_
            refine wq_bipush (n := 15) (q := 79) rfl rfl rfl ?_
            refine wq_iload_n (kk := 1) (q := 80) rfl rfl rfl ?_
            refine wq_iadd (q := 81) rfl rfl (by first | omega | (simp [hup]; omega)) (by first | omega | (simp [hup]; omega)) ?_
            refine wq_iconst (n := 0) (q := 82) rfl rfl rfl ?_
            refine wq_sipush (n := 999) (q := 85) rfl rfl rfl ?_
            refine wq_callV (q := 88) (m' := m_Mo_after) (R' := rm 7) (As := [_, _, _, _]) rfl rfl l_Mo_172 vm_Mo_after rfl rfl rfl (Or.inl ⟨rfl, Nat.le_of_ble_eq_true rfl⟩) (Nat.le_of_ble_eq_true rfl) (Nat.le_of_ble_eq_true rfl) (Nat.le_refl _) (Nat.le_refl _) (Nat.le_of_ble_eq_true rfl) (Mo_after_ok 6 (by decide) (15 + st.1 1) 0 999 T n _ h4 r hS4 k4 (by omega)) rfl ?_
            rintro rv h6 r ⟨rfl, rfl, f6, y6, a6⟩ -
            rw [xW_0 c71] at *
            have ew : pSpot4 T n (tE T n p) (tE T n (tE T n (tE T n p))) (tE T n (tE T n (tE T n (tE T n p)))) st = ch st (xN T n (tE T n (tE T n (tE T n (tE T n (tE T n p))))) 0 999) (tS T n (tE T n (tE T n (tE T n (tE T n (tE T n p)))))) (0, 0, tE T n (tE T n (tE T n (tE T n (tE T n (tE T n p))))), sSp T n st (tE T n p) (tE T n (tE T n (tE T n p))) (c10 T n (tE T n (tE T n (tE T n (tE T n (tE T n p))))))) := by
              unfold pSpot4
              rw [if_neg (by rw [bI_t c71]; decide)]
            refine wq_cif_ne (tgt := 93) (q := 91) rfl rfl rfl (fun c88 => ?_) (fun c88 => ?_)
            · skip
              first
              | (obtain ⟨k6, e6⟩ := a6 c88
                 have d1 : h6 67 1 = st.1 1 := by rw [e6, up_n (by omega)]; exact d1)
              | skip
              refine wq_aload_n (kk := 0) (q := 94) rfl rfl rfl ?_
              refine wq_getF (q := 97) f_Mo_20 rfl rfl (Nat.le_of_ble_eq_true rfl) rfl rfl rfl ?_
              refine wq_iconst (n := 1) (q := 98) rfl rfl rfl ?_
              refine wq_dup2 (q := 99) rfl rfl rfl rfl ?_
              refine wq_iald (q := 100) rfl (Or.inl ⟨rfl, Nat.le_of_ble_eq_true rfl⟩) rfl rfl (by first | omega | (simp [hup]; omega)) (by first | omega | (simp [hup]; omega)) ?_
              refine wq_iconst (n := 1) (q := 101) rfl rfl rfl ?_
              refine wq_iadd (q := 102) rfl rfl (by first | omega | (simp [hup]; omega)) (by first | omega | (simp [hup]; omega)) ?_
              refine wq_iast (q := 103) rfl (Or.inl ⟨rfl, Nat.le_of_ble_eq_true rfl⟩) rfl rfl (by first | omega | (simp [hup]; omega)) (by first | omega | (simp [hup]; omega)) ?_
              refine wq_iconst (n := 1) (q := 104) rfl rfl rfl ?_
              first
              | (refine wq_zret rfl rfl (Nat.le_refl _) (Nat.le_refl _) (by omega) (lnR.y (ex.trans (ew.trans (ch_y c88))) ((F4.tr f6 (by decide) (by decide)).uc (by decide) (by decide)) (tkR_f k6 (f64.rf.uc (S := []) (C := [67]) (by decide) (by decide)) (by decide) (by decide) (by decide) (by decide)) (sp_fin hM ⟨b1.1, hc⟩ ?_ ?_ ?_ ?_))
                 · rw [hup_i (by decide), f6.2 19 (by decide), d19]; exact e19
                 · rw [hup_up, d1, e6, d67, up_up]
                 · rw [hup_ne (by decide), f6.1 70 (by decide), d70]; exact e70
                 · rw [hup_ne (by decide), f6.1 71 (by decide), d71]; exact e71)
              | (refine wq_zret rfl rfl (Nat.le_refl _) (Nat.le_refl _) (by omega) (lnR.y (pl := 0) (q := tE T n (tE T n (tE T n (tE T n p)))) (st := sSp T n st (tE T n p) (tE T n (tE T n (tE T n p))) (-2)) (ex.trans ?_) (F4.uc (by decide) (by decide)) (tkR_f k4 (f64.rf.uc (S := []) (C := [67]) (by decide) (by decide)) (by decide) (by decide) (by decide) (by decide)) (sp_fin hM ⟨b1.1, hc⟩ ?_ ?_ ?_ ?_))
                 · unfold pSpot4
                   rw [if_pos (bI_f c71)]
                 · rw [hup_i (by decide), d19]; exact e19
                 · rw [hup_up, d1, d67]
                 · rw [hup_ne (by decide), d70]; exact e70
                 · rw [hup_ne (by decide), d71]; exact e71)
            · skip
              refine wq_iconst (n := 0) (q := 92) rfl rfl rfl ?_
              obtain ⟨a, b⟩ := y6 c88
              exact wq_zret rfl rfl (Nat.le_refl _) (Nat.le_refl _) (by omega) (lnR.n (ex.trans (ew.trans (ch_n c88))) c88 (F4.tr f6 (by decide) (by decide)) a b)
        · skip
          refine wq_iconst (n := 0) (q := 53) rfl rfl rfl ?_
          first
          | (obtain ⟨a, b⟩ := y3 c49
             exact wq_zret rfl rfl (Nat.le_refl _) (Nat.le_refl _) (by omega) (lnR.n ((ch_y c22).trans (es.trans ((ch_y c34).trans (ch_n c49)))) c49 (((f1.mono (by decide) (by decide)).tr f2 (by decide) (by decide)).tr f3 (by decide) (by decide)) a b))
          | (obtain ⟨a, b⟩ := y2 c34
             exact wq_zret rfl rfl (Nat.le_refl _) (Nat.le_refl _) (by omega) (lnR.n ((ch_y c22).trans (es.trans (ch_n c34))) c34 ((f1.mono (by decide) (by decide)).tr f2 (by decide) (by decide)) a b))
          | (obtain ⟨a, b⟩ := y1 c22
             exact wq_zret rfl rfl (Nat.le_refl _) (Nat.le_refl _) (by omega) (lnR.n (ch_n c22) c22 (f1.mono (by decide) (by decide)) a b))

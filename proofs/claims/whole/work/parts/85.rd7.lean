/-! LinkTimes$Reader: links' times, lines, all -/
set_option maxRecDepth 100000 in
set_option maxHeartbeats 4000000 in
theorem Re_readTimes_ok (T : mF) (n p l a b : Int) (st : pS) (h : mH) (r : mR) (hrde : r.1 24 4 = some 13) (hS : rdS T n p h) (hk : tkd T n p h) (hM : rdM T n h st) (hV : PV T n st) (hz : st.1 0 ≠ 0) (hk3 : st.1 3 < 12) (y7 : h 24 7 = l) (y8 : h 24 8 = a) (y9 : h 24 9 = b) (hl : 0 ≤ l ∧ l < st.1 2) (ha : 0 ≤ a ∧ a < st.1 1) (hb : 0 ≤ b ∧ b < st.1 1) (hab : a ≠ b) : Meets true (rm 8) m_Re_readTimes [vR 24] h r (lnQ T n (pTimes T n p l a b st) h r) := by
  obtain ⟨s1, p1⟩ := tkd_nx hS hk
  have b0 := hV.1.1
  have b3 := hV.1.2.2.2.1
  have b4 := hV.1.2.2.2.2.1
  have d0 := hM.1.1
  have d4 := hM.1.2.2.2.2.1
  generalize e4 : tE T n p = p4 at *
  refine ⟨ok_Re_readTimes, Nat.le_of_ble_eq_true rfl, ?_⟩
  refine wq_aload_n (kk := 0) (q := 1) rfl rfl rfl ?_
  refine wq_ldcs (j := 7) (q := 3) (by decide) (Nat.le_of_ble_eq_true rfl) rfl rfl ?_
  refine wq_callV (q := 6) (m' := m_Re_expectWord) (R' := rm 7) (As := [_]) rfl rfl l_Re_113 vm_Re_expectWord rfl rfl rfl (Or.inl ⟨rfl, Nat.le_of_ble_eq_true rfl⟩) (Nat.le_of_ble_eq_true rfl) (Nat.le_of_ble_eq_true rfl) (Nat.le_refl _) (Nat.le_refl _) (Nat.le_of_ble_eq_true rfl) (Re_expectWord_ok 7 (by decide) T n _ h r s1 p1) rfl ?_
  rintro rv h1 r ⟨rfl, rfl, e1⟩ -
  obtain ⟨s2, p2⟩ := exp1_nx s1 e1
  generalize e5 : tE T n p4 = p5 at *
  have g1 := rdF_f rdF.rf e1.1 (by decide)
  have d01 : h1 13 0 = st.1 0 := by rw [e1.1.1 13 (by decide)]; exact d0
  refine wq_cif_eq (tgt := 24) (q := 9) rfl rfl rfl (fun c6 => ?_) (fun c6 => ?_)
  · skip
    refine wq_iconst (n := 0) (q := 25) rfl rfl rfl ?_
    first
    | exact wq_zret rfl rfl (Nat.le_refl _) (Nat.le_refl _) (by omega) (lnQ.n (by unfold pTimes pTimes1; rw [e4, e5, ch_y (xW_0 c6), ch_n c21]) c21 g2 (e2.2.2.2 c21))
    | exact wq_zret rfl rfl (Nat.le_refl _) (Nat.le_refl _) (by omega) (lnQ.n (by unfold pTimes pTimes1; rw [e4, ch_n (xW_n c6)]) (xW_n c6) g1 (e1.2.2.2 (xW_n c6)))
  · skip
    refine wq_aload_n (kk := 0) (q := 10) rfl rfl rfl ?_
    refine wq_iconst (n := 0) (q := 11) rfl rfl rfl ?_
    refine wq_aload_n (kk := 0) (q := 12) rfl rfl rfl ?_
    refine wq_getR (q := 15) f_Re_22 rfl rfl (Or.inl ⟨rfl, Nat.le_of_ble_eq_true rfl⟩) hrde rfl rfl ?_
    refine wq_getI (kz := 0) (q := 18) rfl f_Re_75 rfl rfl (Or.inl ⟨rfl, Nat.le_of_ble_eq_true rfl⟩) rfl rfl ?_
    refine wq_callV (q := 21) (m' := m_Re_expectWhole) (R' := rm 4) (As := [_, _]) rfl rfl l_Re_116 vm_Re_expectWhole rfl rfl rfl (Or.inl ⟨rfl, Nat.le_of_ble_eq_true rfl⟩) (Nat.le_of_ble_eq_true rfl) (Nat.le_of_ble_eq_true rfl) (Nat.le_refl _) (Nat.le_refl _) (Nat.le_of_ble_eq_true rfl) (Re_expectWhole_ok 0 (h1 13 0) T n _ h1 r s2 p2) rfl ?_
    rintro rv h2 r ⟨rfl, rfl, e2⟩ -
    obtain ⟨s3, p3⟩ := exp1_nx s2 e2
    generalize e6 : tE T n p5 = p6 at *
    have g2 := rdF_f g1 e2.1 (by decide)
    rw [d01] at e2 ⊢
    refine wq_cif_ne (tgt := 26) (q := 24) rfl rfl rfl (fun c21 => ?_) (fun c21 => ?_)
    · skip
      refine wq_aload_n (kk := 0) (q := 27) rfl rfl rfl ?_
      refine wq_getI (kz := 13) (q := 30) rfl f_Re_119 rfl rfl (Or.inl ⟨rfl, Nat.le_of_ble_eq_true rfl⟩) rfl rfl ?_
      have v2 := xN_0 c21
      rw [e2.2.1.2.2.2.2 v2.1]
      have x1 := lift0 e1 (xW_0 c6) rfl rfl
      have x2 := lift0 e2 c21 x1.1 x1.2
      refine wq_istore_n (kk := 1) (q := 31) rfl rfl (Nat.le_of_ble_eq_true rfl) rfl ?_
      refine wq_aload_n (kk := 0) (q := 32) rfl rfl rfl ?_
      refine wq_ldcs (j := 8) (q := 34) (by decide) (Nat.le_of_ble_eq_true rfl) rfl rfl ?_
      refine wq_callV (q := 37) (m' := m_Re_expectWord) (R' := rm 7) (As := [_]) rfl rfl l_Re_113 vm_Re_expectWord rfl rfl rfl (Or.inl ⟨rfl, Nat.le_of_ble_eq_true rfl⟩) (Nat.le_of_ble_eq_true rfl) (Nat.le_of_ble_eq_true rfl) (Nat.le_refl _) (Nat.le_refl _) (Nat.le_of_ble_eq_true rfl) (Re_expectWord_ok 8 (by decide) T n _ h2 r s3 p3) rfl ?_
      rintro rv h3 r ⟨rfl, rfl, e3⟩ -
      obtain ⟨s4, p4'⟩ := exp1_nx s3 e3
      generalize e7 : tE T n p6 = p7 at *
      have g3 := rdF_f g2 e3.1 (by decide)
      have d02 : h3 13 0 = st.1 0 := by rw [e3.1.1 13 (by decide), e2.1.1 13 (by decide)]; exact d01
      refine wq_cif_eq (tgt := 55) (q := 40) rfl rfl rfl (fun c37 => ?_) (fun c37 => ?_)
      · skip
        refine wq_iconst (n := 0) (q := 56) rfl rfl rfl ?_
        first
        | exact wq_zret rfl rfl (Nat.le_refl _) (Nat.le_refl _) (by omega) (lnQ.n (by unfold pTimes pTimes1; rw [e4, e5, e6, e7, ch_y (xW_0 c6), ch_y c21, ch_y (xW_0 c37), ch_n c52]) c52 g4 (e4'.2.2.2 c52))
        | exact wq_zret rfl rfl (Nat.le_refl _) (Nat.le_refl _) (by omega) (lnQ.n (by unfold pTimes pTimes1; rw [e4, e5, e6, ch_y (xW_0 c6), ch_y c21, ch_n (xW_n c37)]) (xW_n c37) g3 (e3.2.2.2 (xW_n c37)))
      · skip
        refine wq_aload_n (kk := 0) (q := 41) rfl rfl rfl ?_
        refine wq_iload_n (kk := 1) (q := 42) rfl rfl rfl ?_
        refine wq_aload_n (kk := 0) (q := 43) rfl rfl rfl ?_
        refine wq_getR (q := 46) f_Re_22 rfl rfl (Or.inl ⟨rfl, Nat.le_of_ble_eq_true rfl⟩) hrde rfl rfl ?_
        refine wq_getI (kz := 0) (q := 49) rfl f_Re_75 rfl rfl (Or.inl ⟨rfl, Nat.le_of_ble_eq_true rfl⟩) rfl rfl ?_
        refine wq_callV (q := 52) (m' := m_Re_expectWhole) (R' := rm 4) (As := [_, _]) rfl rfl l_Re_116 vm_Re_expectWhole rfl rfl rfl (Or.inl ⟨rfl, Nat.le_of_ble_eq_true rfl⟩) (Nat.le_of_ble_eq_true rfl) (Nat.le_of_ble_eq_true rfl) (Nat.le_refl _) (Nat.le_refl _) (Nat.le_of_ble_eq_true rfl) (Re_expectWhole_ok (c10 T n p5) (h3 13 0) T n _ h3 r s4 p4') rfl ?_
        rintro rv h4 r ⟨rfl, rfl, e4'⟩ -
        obtain ⟨s5, p5'⟩ := exp1_nx s4 e4'
        generalize e8 : tE T n p7 = p8 at *
        have g4 := rdF_f g3 e4'.1 (by decide)
        rw [d02] at e4' ⊢
        refine wq_cif_ne (tgt := 57) (q := 55) rfl rfl rfl (fun c52 => ?_) (fun c52 => ?_)
        · skip
          refine wq_aload_n (kk := 0) (q := 58) rfl rfl rfl ?_
          refine wq_getI (kz := 13) (q := 61) rfl f_Re_119 rfl rfl (Or.inl ⟨rfl, Nat.le_of_ble_eq_true rfl⟩) rfl rfl ?_
          have v4 := xN_0 c52
          rw [e4'.2.1.2.2.2.2 v4.1]
          have x3 := lift0 e3 (xW_0 c37) x2.1 x2.2
          have x4 := lift0 e4' c52 x3.1 x3.2
          refine wq_istore_n (kk := 2) (q := 62) rfl rfl (Nat.le_of_ble_eq_true rfl) rfl ?_
          refine wq_aload_n (kk := 0) (q := 63) rfl rfl rfl ?_
          refine wq_ldcs (j := 9) (q := 65) (by decide) (Nat.le_of_ble_eq_true rfl) rfl rfl ?_
          refine wq_callV (q := 68) (m' := m_Re_expectWord) (R' := rm 7) (As := [_]) rfl rfl l_Re_113 vm_Re_expectWord rfl rfl rfl (Or.inl ⟨rfl, Nat.le_of_ble_eq_true rfl⟩) (Nat.le_of_ble_eq_true rfl) (Nat.le_of_ble_eq_true rfl) (Nat.le_refl _) (Nat.le_refl _) (Nat.le_of_ble_eq_true rfl) (Re_expectWord_ok 9 (by decide) T n _ h4 r s5 p5') rfl ?_
          rintro rv h5 r ⟨rfl, rfl, e5'⟩ -
          obtain ⟨s6, p6'⟩ := exp1_nx s5 e5'
          generalize e9 : tE T n p8 = p9 at *
          have g5 := rdF_f g4 e5'.1 (by decide)
          refine wq_cif_eq (tgt := 82) (q := 71) rfl rfl rfl (fun c68 => ?_) (fun c68 => ?_)
          · skip
            refine wq_iconst (n := 0) (q := 83) rfl rfl rfl ?_
            first
            | exact wq_zret rfl rfl (Nat.le_refl _) (Nat.le_refl _) (by omega) (lnQ.n (by unfold pTimes pTimes1; rw [e4, e5, e6, e7, e8, e9, ch_y (xW_0 c6), ch_y c21, ch_y (xW_0 c37), ch_y c52, ch_y (xW_0 c68), ch_n c79]) c79 g6 (e6'.2.2.2 c79))
            | exact wq_zret rfl rfl (Nat.le_refl _) (Nat.le_refl _) (by omega) (lnQ.n (by unfold pTimes pTimes1; rw [e4, e5, e6, e7, e8, ch_y (xW_0 c6), ch_y c21, ch_y (xW_0 c37), ch_y c52, ch_n (xW_n c68)]) (xW_n c68) g5 (e5'.2.2.2 (xW_n c68)))
          · skip
            refine wq_aload_n (kk := 0) (q := 72) rfl rfl rfl ?_
            refine wq_iconst (n := 1) (q := 73) rfl rfl rfl ?_
            refine wq_sipush (n := 999) (q := 76) rfl rfl rfl ?_
            refine wq_callV (q := 79) (m' := m_Re_expectWhole) (R' := rm 4) (As := [_, _]) rfl rfl l_Re_116 vm_Re_expectWhole rfl rfl rfl (Or.inl ⟨rfl, Nat.le_of_ble_eq_true rfl⟩) (Nat.le_of_ble_eq_true rfl) (Nat.le_of_ble_eq_true rfl) (Nat.le_refl _) (Nat.le_refl _) (Nat.le_of_ble_eq_true rfl) (Re_expectWhole_ok 1 999 T n _ h5 r s6 p6') rfl ?_
            rintro rv h6 r ⟨rfl, rfl, e6'⟩ -
            obtain ⟨s7, p7'⟩ := exp1_nx s6 e6'
            generalize e10 : tE T n p9 = p10 at *
            have g6 := rdF_f g5 e6'.1 (by decide)
            refine wq_cif_ne (tgt := 84) (q := 82) rfl rfl rfl (fun c79 => ?_) (fun c79 => ?_)
            · skip
              refine wq_aload_n (kk := 0) (q := 85) rfl rfl rfl ?_
              refine wq_getI (kz := 13) (q := 88) rfl f_Re_119 rfl rfl (Or.inl ⟨rfl, Nat.le_of_ble_eq_true rfl⟩) rfl rfl ?_
              refine wq_iconst (n := 1) (q := 89) rfl rfl rfl ?_
              refine wq_max (q := 92) k_Re_152 k_math_max k_math_max_s k_math_i rfl rfl (Nat.le_of_ble_eq_true rfl) (Nat.le_of_ble_eq_true rfl) (Nat.le_refl _) (Nat.le_refl _) (Nat.le_of_ble_eq_true rfl) ?_
              have v6 := xN_0 c79
              rw [e6'.2.1.2.2.2.2 v6.1, if_neg (by omega)]
              have x5 := lift0 e5' (xW_0 c68) x4.1 x4.2
              have x6 := lift0 e6' c79 x5.1 x5.2
              have f6 : fr [24] h h6 := ((((e1.1.1.trans e2.1.1 (fun _ z => z)).trans e3.1.1 (fun _ z => z)).trans e4'.1.1 (fun _ z => z)).trans e5'.1.1 (fun _ z => z)).trans e6'.1.1 (fun _ z => z)
              have d46 : h6 13 4 = st.1 4 := by rw [f6 13 (by decide)]; exact d4
              have hdv : dv (c10 T n p7 - c10 T n p5) (c10 T n p9) = (c10 T n p7 - c10 T n p5) / c10 T n p9 := dv_eq (by omega) (by omega)
              have hd0 : 0 ≤ (c10 T n p7 - c10 T n p5) / c10 T n p9 := Int.ediv_nonneg (by omega) (by omega)
              have hd1 : (c10 T n p7 - c10 T n p5) / c10 T n p9 ≤ c10 T n p7 - c10 T n p5 := Int.ediv_le_self _ (by omega)
              refine wq_istore_n (kk := 3) (q := 93) rfl rfl (Nat.le_of_ble_eq_true rfl) rfl ?_
              refine wq_aload_n (kk := 0) (q := 94) rfl rfl rfl ?_
              refine wq_getR (q := 97) f_Re_22 rfl rfl (Or.inl ⟨rfl, Nat.le_of_ble_eq_true rfl⟩) hrde rfl rfl ?_
              refine wq_getI (kz := 4) (q := 100) rfl f_Re_155 rfl rfl (Or.inl ⟨rfl, Nat.le_of_ble_eq_true rfl⟩) rfl rfl ?_
              refine wq_iload_n (kk := 2) (q := 101) rfl rfl rfl ?_
              refine wq_iload_n (kk := 1) (q := 102) rfl rfl rfl ?_
              refine wq_isub (q := 103) rfl rfl (by first | omega | (simp [hup]; omega)) (by first | omega | (simp [hup]; omega)) ?_
              refine wq_iload_n (kk := 3) (q := 104) rfl rfl rfl ?_
              refine wq_idiv (q := 105) rfl rfl (by first | omega | (simp [hup]; omega)) ?_
              rw [show (Int32.ofInt (c10 T n p7 - c10 T n p5) / Int32.ofInt (c10 T n p9)).toInt = dv (c10 T n p7 - c10 T n p5) (c10 T n p9) from rfl, d46]
              refine wq_iadd (q := 106) rfl rfl (by first | omega | (simp [hup]; omega)) (by first | omega | (simp [hup]; omega)) ?_
              refine wq_iconst (n := 1) (q := 107) rfl rfl rfl ?_
              refine wq_iadd (q := 108) rfl rfl (by first | omega | (simp [hup]; omega)) (by first | omega | (simp [hup]; omega)) ?_
              refine wq_bipush (n := 120) (q := 110) rfl rfl rfl ?_
              refine wq_icmp_le (tgt := 119) (q := 113) rfl rfl rfl (fun c110 => ?_) (fun c110 => ?_)
              · skip
                refine wq_aload_n (kk := 0) (q := 120) rfl rfl rfl ?_
                refine wq_ldcs (j := 10) (q := 122) (by decide) (Nat.le_of_ble_eq_true rfl) rfl rfl ?_
                refine wq_callV (q := 125) (m' := m_Re_expectWord) (R' := rm 7) (As := [_]) rfl rfl l_Re_113 vm_Re_expectWord rfl rfl rfl (Or.inl ⟨rfl, Nat.le_of_ble_eq_true rfl⟩) (Nat.le_of_ble_eq_true rfl) (Nat.le_of_ble_eq_true rfl) (Nat.le_refl _) (Nat.le_refl _) (Nat.le_of_ble_eq_true rfl) (Re_expectWord_ok 10 (by decide) T n _ h6 r s7 p7') rfl ?_
                rintro rv h7 r ⟨rfl, rfl, e7'⟩ -
                obtain ⟨s8, p8'⟩ := exp1_nx s7 e7'
                generalize e11 : tE T n p10 = p11 at *
                have g7 := rdF_f g6 e7'.1 (by decide)
                have k5 : (if st.1 4 + dv (c10 T n p7 - c10 T n p5) (c10 T n p9) + 1 ≤ 120 then (0 : Int) else 5) = 0 := if_pos c110
                refine wq_cif_eq (tgt := 138) (q := 128) rfl rfl rfl (fun c125 => ?_) (fun c125 => ?_)
                · skip
                  refine wq_iconst (n := 0) (q := 139) rfl rfl rfl ?_
                  first
                  | exact wq_zret rfl rfl (Nat.le_refl _) (Nat.le_refl _) (by omega) (lnQ.n (by unfold pTimes pTimes1 pTimes2; rw [e4, e5, e6, e7, e8, e9, e10, e11, ch_y (xW_0 c6), ch_y c21, ch_y (xW_0 c37), ch_y c52, ch_y (xW_0 c68), ch_y c79, ch_y k5, ch_y (xW_0 c125), ch_n c135]) c135 g8 (e8'.2.2.2 c135))
                  | exact wq_zret rfl rfl (Nat.le_refl _) (Nat.le_refl _) (by omega) (lnQ.n (by unfold pTimes pTimes1 pTimes2; rw [e4, e5, e6, e7, e8, e9, e10, ch_y (xW_0 c6), ch_y c21, ch_y (xW_0 c37), ch_y c52, ch_y (xW_0 c68), ch_y c79, ch_y k5, ch_n (xW_n c125)]) (xW_n c125) g7 (e7'.2.2.2 (xW_n c125)))
                · skip
                  refine wq_aload_n (kk := 0) (q := 129) rfl rfl rfl ?_
                  refine wq_iconst (n := 1) (q := 130) rfl rfl rfl ?_
                  refine wq_bipush (n := 99) (q := 132) rfl rfl rfl ?_
                  refine wq_callV (q := 135) (m' := m_Re_expectWhole) (R' := rm 4) (As := [_, _]) rfl rfl l_Re_116 vm_Re_expectWhole rfl rfl rfl (Or.inl ⟨rfl, Nat.le_of_ble_eq_true rfl⟩) (Nat.le_of_ble_eq_true rfl) (Nat.le_of_ble_eq_true rfl) (Nat.le_refl _) (Nat.le_refl _) (Nat.le_of_ble_eq_true rfl) (Re_expectWhole_ok 1 99 T n _ h7 r s8 p8') rfl ?_
                  rintro rv h8 r ⟨rfl, rfl, e8'⟩ -
                  obtain ⟨s9, p9'⟩ := exp1_nx s8 e8'
                  have g8 := rdF_f g7 e8'.1 (by decide)
                  refine wq_cif_ne (tgt := 140) (q := 138) rfl rfl rfl (fun c135 => ?_) (fun c135 => ?_)
                  · skip
                    refine wq_iload_n (kk := 1) (q := 141) rfl rfl rfl ?_
                    refine wq_istore (i := 4) (q := 143) rfl rfl (Nat.le_of_ble_eq_true rfl) rfl ?_
                    have x7 := lift0 e7' (xW_0 c125) x6.1 x6.2
                    have x8 := lift0 e8' c135 x7.1 x7.2
                    have v8 := xN_0 c135
                    have f8 : fr [24] h h8 := (f6.trans e7'.1.1 (fun _ z => z)).trans e8'.1.1 (fun _ z => z)
                    have m8 := rdM_f hM f8
                    have u : ∀ k, k = 7 ∨ k = 8 ∨ k = 9 → h8 24 k = h 24 k := fun k hk => by
                      have hk' : k ∉ tkF := by rcases hk with rfl | rfl | rfl <;> decide
                      rw [e8'.1.2 k hk', e7'.1.2 k hk', e6'.1.2 k hk', e5'.1.2 k hk', e4'.1.2 k hk', e3.1.2 k hk', e2.1.2 k hk', e1.1.2 k hk']
                    have hroom := dv_room (by omega) v6.2 c110
                    obtain ⟨w1, w2⟩ := adds_V (l := l) (a := a) (b := b) (w := c10 T n p11) (k := st.1 3) (till := c10 T n p7) (ev := c10 T n p9) v6.2.1 (by omega) hab v8.2 2000 (c10 T n p5) st.1 hV.1 hz v2.2.1 hroom hl ha hb
                    refine Re_readTimesL T n (tE T n p11) l a b (c10 T n p11) (st.1 3) (c10 T n p5) (c10 T n p7) (c10 T n p9) _ st _ h r h8 hrde g8 s9 p9' x8.1 x8.2 (by rw [u 7 (by omega)]; exact y7) (by rw [u 8 (by omega)]; exact y8) (by rw [u 9 (by omega)]; exact y9) (e8'.2.1.2.2.2.2 v8.1) (fun h9 f9 => ⟨fun s s0 s1 => by rw [f9 25 (by decide)]; exact m8.2.1 s s0 s1, fun s s0 s1 => by rw [f9 26 (by decide)]; exact m8.2.2 s s0 s1⟩) v6.2 (by omega) hab v8.2 ⟨rfl, b3.1, hk3⟩ ?_ (w2 1 (by decide)) (w2 2 (by decide)) _ 2000 (c10 T n p5) st.1 h8 rfl (by omega) rfl hV.1 hz v2.2.1 (by omega) hroom hl ha hb rfl m8.1 fr.rf
                    unfold pTimes pTimes1 pTimes2
                    rw [e4, e5, e6, e7, e8, e9, e10, e11, ch_y (xW_0 c6), ch_y c21, ch_y (xW_0 c37), ch_y c52, ch_y (xW_0 c68), ch_y c79, ch_y k5, ch_y (xW_0 c125), ch_y c135]
                  · skip
                    refine wq_iconst (n := 0) (q := 139) rfl rfl rfl ?_
                    first
                    | exact wq_zret rfl rfl (Nat.le_refl _) (Nat.le_refl _) (by omega) (lnQ.n (by unfold pTimes pTimes1 pTimes2; rw [e4, e5, e6, e7, e8, e9, e10, e11, ch_y (xW_0 c6), ch_y c21, ch_y (xW_0 c37), ch_y c52, ch_y (xW_0 c68), ch_y c79, ch_y k5, ch_y (xW_0 c125), ch_n c135]) c135 g8 (e8'.2.2.2 c135))
                    | exact wq_zret rfl rfl (Nat.le_refl _) (Nat.le_refl _) (by omega) (lnQ.n (by unfold pTimes pTimes1 pTimes2; rw [e4, e5, e6, e7, e8, e9, e10, ch_y (xW_0 c6), ch_y c21, ch_y (xW_0 c37), ch_y c52, ch_y (xW_0 c68), ch_y c79, ch_y k5, ch_n (xW_n c125)]) (xW_n c125) g7 (e7'.2.2.2 (xW_n c125)))
              · skip
                refine wq_aload_n (kk := 0) (q := 114) rfl rfl rfl ?_
                refine wq_iconst (n := 5) (q := 115) rfl rfl rfl ?_
                refine wq_callV (q := 118) (m' := m_Re_fail) (R' := rm 1) (As := [_]) rfl rfl l_Re_57 vm_Re_fail rfl rfl rfl (Or.inl ⟨rfl, Nat.le_of_ble_eq_true rfl⟩) (Nat.le_of_ble_eq_true rfl) (Nat.le_of_ble_eq_true rfl) (Nat.le_refl _) (Nat.le_refl _) (Nat.le_of_ble_eq_true rfl) (Re_fail_ok 5 _ _) rfl ?_
                rintro rv h7 r ⟨rfl, rfl, rfl⟩ -
                have k5 : (if st.1 4 + dv (c10 T n p7 - c10 T n p5) (c10 T n p9) + 1 ≤ 120 then (0 : Int) else 5) = 5 := if_neg c110
                refine wq_zret rfl rfl (Nat.le_refl _) (Nat.le_refl _) (by omega) (lnQ.n (k := 5) (pl := tS T n p9) (by unfold pTimes pTimes1 pTimes2; rw [e4, e5, e6, e7, e8, e9, ch_y (xW_0 c6), ch_y c21, ch_y (xW_0 c37), ch_y c52, ch_y (xW_0 c68), ch_y c79, k5, ch_n (by decide)]) (by decide) (rdF_u (rdF_u g6 (by decide) (by decide)) (by decide) (by decide)) ⟨?_, ?_⟩)
                · rw [hup_j (by decide), hup_s]
                · rw [hup_s]; exact e6'.2.1.2.1
            · skip
              refine wq_iconst (n := 0) (q := 83) rfl rfl rfl ?_
              first
              | exact wq_zret rfl rfl (Nat.le_refl _) (Nat.le_refl _) (by omega) (lnQ.n (by unfold pTimes pTimes1; rw [e4, e5, e6, e7, e8, e9, ch_y (xW_0 c6), ch_y c21, ch_y (xW_0 c37), ch_y c52, ch_y (xW_0 c68), ch_n c79]) c79 g6 (e6'.2.2.2 c79))
              | exact wq_zret rfl rfl (Nat.le_refl _) (Nat.le_refl _) (by omega) (lnQ.n (by unfold pTimes pTimes1; rw [e4, e5, e6, e7, e8, ch_y (xW_0 c6), ch_y c21, ch_y (xW_0 c37), ch_y c52, ch_n (xW_n c68)]) (xW_n c68) g5 (e5'.2.2.2 (xW_n c68)))
        · skip
          refine wq_iconst (n := 0) (q := 56) rfl rfl rfl ?_
          first
          | exact wq_zret rfl rfl (Nat.le_refl _) (Nat.le_refl _) (by omega) (lnQ.n (by unfold pTimes pTimes1; rw [e4, e5, e6, e7, ch_y (xW_0 c6), ch_y c21, ch_y (xW_0 c37), ch_n c52]) c52 g4 (e4'.2.2.2 c52))
          | exact wq_zret rfl rfl (Nat.le_refl _) (Nat.le_refl _) (by omega) (lnQ.n (by unfold pTimes pTimes1; rw [e4, e5, e6, ch_y (xW_0 c6), ch_y c21, ch_n (xW_n c37)]) (xW_n c37) g3 (e3.2.2.2 (xW_n c37)))
    · skip
      refine wq_iconst (n := 0) (q := 25) rfl rfl rfl ?_
      first
      | exact wq_zret rfl rfl (Nat.le_refl _) (Nat.le_refl _) (by omega) (lnQ.n (by unfold pTimes pTimes1; rw [e4, e5, ch_y (xW_0 c6), ch_n c21]) c21 g2 (e2.2.2.2 c21))
      | exact wq_zret rfl rfl (Nat.le_refl _) (Nat.le_refl _) (by omega) (lnQ.n (by unfold pTimes pTimes1; rw [e4, ch_n (xW_n c6)]) (xW_n c6) g1 (e1.2.2.2 (xW_n c6)))
set_option maxRecDepth 100000 in
set_option maxHeartbeats 1000000 in
theorem Re_hasRoom_ok (T : mF) (n p : Int) (R : mF) (c m : Int) (h : mH) (r : mR) (hrde : r.1 24 4 = some 13) (hk : tkd T n p h) (h0 : h 13 0 = R 0) : Meets true (rm 2) m_Re_hasRoom [vR 24, vI c, vI m] h r (fun rv h1 r1 => r1 = r ∧ rv = some (vI (bI (xR R c m = 0))) ∧ (xR R c m = 0 → h1 = h) ∧ (xR R c m ≠ 0 → f24 [0, 1] h h1 ∧ ft h1 (xR R c m) (tS T n p))) := by
  refine ⟨ok_Re_hasRoom, Nat.le_of_ble_eq_true rfl, ?_⟩
  refine wq_aload_n (kk := 0) (q := 1) rfl rfl rfl ?_
  refine wq_getR (q := 4) f_Re_22 rfl rfl (Or.inl ⟨rfl, Nat.le_of_ble_eq_true rfl⟩) hrde rfl rfl ?_
  refine wq_getI (kz := 0) (q := 7) rfl f_Re_75 rfl rfl (Or.inl ⟨rfl, Nat.le_of_ble_eq_true rfl⟩) rfl rfl ?_
  refine wq_if_ne (tgt := 17) (q := 10) rfl rfl rfl (fun c7 => ?_) (fun c7 => ?_)
  · skip
    refine wq_iload_n (kk := 1) (q := 18) rfl rfl rfl ?_
    refine wq_iload_n (kk := 2) (q := 19) rfl rfl rfl ?_
    refine wq_icmp_lt (tgt := 30) (q := 22) rfl rfl rfl (fun c19 => ?_) (fun c19 => ?_)
    · skip
      refine wq_iconst (n := 1) (q := 31) rfl rfl rfl ?_
      refine wq_goto (tgt := 35) rfl rfl ?_
      have ex : xR R c m = 0 := by unfold xR; rw [if_neg (by omega), if_pos (by omega)]
      rw [ex]
      exact wq_zret rfl rfl (Nat.le_refl _) (Nat.le_refl _) (by omega) ⟨rfl, by rw [bI_t rfl], fun _ => rfl, fun z => absurd rfl z⟩
    · skip
      refine wq_aload_n (kk := 0) (q := 23) rfl rfl rfl ?_
      refine wq_iconst (n := 5) (q := 24) rfl rfl rfl ?_
      refine wq_callV (q := 27) (m' := m_Re_fail) (R' := rm 1) (As := [_]) rfl rfl l_Re_57 vm_Re_fail rfl rfl rfl (Or.inl ⟨rfl, Nat.le_of_ble_eq_true rfl⟩) (Nat.le_of_ble_eq_true rfl) (Nat.le_of_ble_eq_true rfl) (Nat.le_refl _) (Nat.le_refl _) (Nat.le_of_ble_eq_true rfl) (Re_fail_ok 5 _ _) rfl ?_
      rintro rv h1 r ⟨rfl, rfl, rfl⟩ -
      have ex : xR R c m = 5 := by unfold xR; rw [if_neg (by omega), if_neg (by omega)]
      rw [ex]
      refine wq_if_eq (tgt := 34) (q := 30) rfl rfl rfl (fun _ => ?_) (fun z => absurd rfl z)
      refine wq_iconst (n := 0) (q := 35) rfl rfl rfl ?_
      exact wq_zret rfl rfl (Nat.le_refl _) (Nat.le_refl _) (by omega) ⟨rfl, by rw [bI_f (by decide)], fun z => absurd z (by decide), fun _ => ⟨(f24.rf.up (by decide)).up (by decide), by rw [hup_j (by decide), hup_s], by rw [hup_s]; exact hk.2.1⟩⟩
  · skip
    refine wq_aload_n (kk := 0) (q := 11) rfl rfl rfl ?_
    refine wq_bipush (n := 6) (q := 13) rfl rfl rfl ?_
    refine wq_callV (q := 16) (m' := m_Re_fail) (R' := rm 1) (As := [_]) rfl rfl l_Re_57 vm_Re_fail rfl rfl rfl (Or.inl ⟨rfl, Nat.le_of_ble_eq_true rfl⟩) (Nat.le_of_ble_eq_true rfl) (Nat.le_of_ble_eq_true rfl) (Nat.le_refl _) (Nat.le_refl _) (Nat.le_of_ble_eq_true rfl) (Re_fail_ok 6 _ _) rfl ?_
    rintro rv h1 r ⟨rfl, rfl, rfl⟩ -
    have ex : xR R c m = 6 := if_pos (by omega)
    rw [ex]
    exact wq_zret rfl rfl (Nat.le_refl _) (Nat.le_refl _) (by omega) ⟨rfl, by rw [bI_f (by decide)], fun z => absurd z (by decide), fun _ => ⟨(f24.rf.up (by decide)).up (by decide), by rw [hup_j (by decide), hup_s], by rw [hup_s]; exact hk.2.1⟩⟩
theorem lnQ_av {T : mF} {n : Int} {x y : pX} {h h0 h1 : mH} {r r1 : mR} {rv : Option mV} (hk : y = x) (f : f24 [10, 11, 12, 13] h0 h) (hq : lnQ T n x h r rv h1 r1) : lnQ T n y h0 r rv h1 r1 := by
  rw [hk]
  obtain ⟨a, b, c⟩ := hq
  refine ⟨a, ⟨(f.1.mono (by decide)).trans b.1 (fun _ z => z), b.2.trans (f.2 3 (by decide))⟩, c.imp (fun ⟨c1, c2, c3, c4, c5, c6⟩ => ⟨c1, c2, c3, c4, c5.trans (f.2 0 (by decide)), c6.trans (f.2 1 (by decide))⟩) id⟩

/-! LinkTimesModel: a link's times -/
set_option maxRecDepth 100000 in
set_option maxHeartbeats 4000000 in
theorem Mo_linkT (T : mF) (n p l a b : Int) (st : pS) (x : pX) (h : mH) (r : mR) (h0 : mH) (F0 : f64 rrF rrC h h0) (hS : rdR T n p h0) (hk : tkR T n p h0) (h5 : tK T n p ≠ 5) (hM : mrR T n h0 st) (hV : PV T n st) (hz : st.1 0 ≠ 0) (hk3 : st.1 3 < 12) (y0 : h0 72 0 = l) (y1 : h0 72 1 = a) (y2 : h0 72 2 = b) (hl : 0 ≤ l ∧ l < st.1 2) (ha : 0 ≤ a ∧ a < st.1 1) (hb : 0 ≤ b ∧ b < st.1 1) (hab : a ≠ b) (ex : x = pTimes T n p l a b st) : WP (true, rm 9) m_Mo_readLink (rt m_Mo_readLink (rm 9) (lnR T n x h r)) 112 [some (vR 64), none] [] h0 r (0, 0) := by
  have b0 := hV.1.1
  have b3 := hV.1.2.2.2.1
  have b4 := hV.1.2.2.2.2.1
  have m0 : h0 67 0 = st.1 0 := hM.2.1.1 (by omega)
  have m4 := hM.2.1.n.2.2.2
  obtain ⟨p4, e4⟩ : ∃ z, tE T n p = z := ⟨_, rfl⟩
  obtain ⟨p5, e5⟩ : ∃ z, tE T n p4 = z := ⟨_, rfl⟩
  obtain ⟨p6, e6⟩ : ∃ z, tE T n p5 = z := ⟨_, rfl⟩
  obtain ⟨p7, e7⟩ : ∃ z, tE T n p6 = z := ⟨_, rfl⟩
  obtain ⟨p8, e8⟩ : ∃ z, tE T n p7 = z := ⟨_, rfl⟩
  obtain ⟨p9, e9⟩ : ∃ z, tE T n p8 = z := ⟨_, rfl⟩
  obtain ⟨p10, e10⟩ : ∃ z, tE T n p9 = z := ⟨_, rfl⟩
  obtain ⟨p11, e11⟩ : ∃ z, tE T n p10 = z := ⟨_, rfl⟩
  obtain ⟨p12, e12⟩ : ∃ z, tE T n p11 = z := ⟨_, rfl⟩
  have es : pTimes T n p l a b st = ch st (xx (xW T n p4 7) (xN T n p5 0 (st.1 0))) (xp (xW T n p4 7) (tS T n p4) (tS T n p5)) (ch st (xx (xW T n p6 8) (xN T n p7 (c10 T n p5) (st.1 0))) (xp (xW T n p6 8) (tS T n p6) (tS T n p7)) (ch st (xx (xW T n p8 9) (xN T n p9 1 999)) (xp (xW T n p8 9) (tS T n p8) (tS T n p9)) (ch st (if st.1 4 + dv (c10 T n p7 - c10 T n p5) (c10 T n p9) + 1 ≤ 120 then 0 else 5) (tS T n p9) (ch st (xx (xW T n p10 10) (xN T n p11 1 99)) (xp (xW T n p10 10) (tS T n p10) (tS T n p11)) (0, 0, p12, up (adds l a b (c10 T n p11) (st.1 3) (c10 T n p7) (c10 T n p9) 2000 (c10 T n p5) st.1) 3 (st.1 3 + 1), st.2))))) := by
    unfold pTimes pTimes1 pTimes2
    rw [e4, e5, e6, e7, e8, e9, e10, e11, e12, ch_xx (a := xW T n p4 7), ch_xx (a := xW T n p6 8), ch_xx (a := xW T n p8 9), ch_xx (a := xW T n p10 10)]
  have q0 := hS.2.2.2
  have q4 := tE_p (T := T) q0.1 q0.2
  rw [e4] at q4
  have q5 := tE_p (T := T) q4.1 q4.2.1
  rw [e5] at q5
  have q6 := tE_p (T := T) q5.1 q5.2.1
  rw [e6] at q6
  have q7 := tE_p (T := T) q6.1 q6.2.1
  rw [e7] at q7
  have q8 := tE_p (T := T) q7.1 q7.2.1
  rw [e8] at q8
  have q9 := tE_p (T := T) q8.1 q8.2.1
  rw [e9] at q9
  have q10 := tE_p (T := T) q9.1 q9.2.1
  rw [e10] at q10
  have q11 := tE_p (T := T) q10.1 q10.2.1
  rw [e11] at q11
  have q12 := tE_p (T := T) q11.1 q11.2.1
  rw [e12] at q12
  have SS : ∀ (q : Int) (h' : mH), 0 ≤ q → q ≤ n → f64 erF [64, 72] h0 h' → rdR T n q h' := fun q h' c d f => by
    have z := rdR_f hS f (by decide) (by decide)
    exact ⟨z.1, z.2.1, z.2.2.1, c, d⟩
  have GG : ∀ (h' : mH), f64 erF [64, 72] h0 h' → f64 rrF rrC h h' := fun h' f => F0.tr f (by decide) (by decide)
  have ts := (hk.2.2.1 h5).trans e4
  have s4 := SS p4 h0 q4.1 q4.2.1 f64.rf
  clear q0
  refine wq_aload_n (kk := 0) (q := 113) rfl rfl rfl ?_
  refine wq_callV (q := 116) (m' := m_Mo_goesOn) (R' := rm 2) (As := []) rfl rfl l_Mo_134 vm_Mo_goesOn rfl rfl rfl (Or.inl ⟨rfl, Nat.le_of_ble_eq_true rfl⟩) (Nat.le_of_ble_eq_true rfl) (Nat.le_of_ble_eq_true rfl) (Nat.le_refl _) (Nat.le_refl _) (Nat.le_of_ble_eq_true rfl) (Mo_goesOn_ok T n p4 h0 r s4 ts) rfl ?_
  rintro rv h1 r ⟨rfl, rfl, f1, k1⟩ -
  have g1 : f64 erF [64, 72] h0 h1 := f1.mono (by decide) (by decide)
  refine wq_aload_n (kk := 0) (q := 117) rfl rfl rfl ?_
  refine wq_ldcs (j := 7) (q := 119) (by decide) (Nat.le_of_ble_eq_true rfl) rfl rfl ?_
  refine wq_iconst (n := 3) (q := 120) rfl rfl rfl ?_
  refine wq_iconst (n := 0) (q := 121) rfl rfl rfl ?_
  refine wq_aload_n (kk := 0) (q := 122) rfl rfl rfl ?_
  refine wq_getF (q := 125) f_Mo_20 rfl rfl (Nat.le_of_ble_eq_true rfl) rfl rfl rfl ?_
  refine wq_iconst (n := 0) (q := 126) rfl rfl rfl ?_
  refine wq_iald (q := 127) rfl (Or.inl ⟨rfl, Nat.le_of_ble_eq_true rfl⟩) rfl rfl (by first | omega | (simp [hup]; omega)) (by first | omega | (simp [hup]; omega)) ?_
  rw [f1.1 67 (by decide), m0]
  refine wq_callV (q := 130) (m' := m_Mo_afterLink) (R' := rm 7) (As := [_, _, _, _]) rfl rfl l_Mo_197 vm_Mo_afterLink rfl rfl rfl (Or.inl ⟨rfl, Nat.le_of_ble_eq_true rfl⟩) (Nat.le_of_ble_eq_true rfl) (Nat.le_of_ble_eq_true rfl) (Nat.le_refl _) (Nat.le_refl _) (Nat.le_of_ble_eq_true rfl) (Mo_afterLink_q 7 (by decide) 3 0 (st.1 0) T n p4 p5 e5 h1 r (SS _ _ q4.1 q4.2.1 g1) k1 (by omega)) rfl ?_
  rintro rv h2 r ⟨rfl, rfl, f2, z2, a2⟩ -
  have g2 : f64 erF [64, 72] h0 h2 := g1.tr f2 (fun _ z => z) (fun _ z => z)
  refine wq_cif_ne (tgt := 135) (q := 133) rfl rfl rfl (fun c130 => ?_) (fun c130 => ?_)
  · skip
    obtain ⟨k2, w2, -⟩ := a2 c130
    have v2 := xN_0 (xx_0 c130).2
    rw [f1.1 72 (by decide)] at w2
    refine wq_aload_n (kk := 0) (q := 136) rfl rfl rfl ?_
    refine wq_callV (q := 139) (m' := m_Mo_goesOn) (R' := rm 2) (As := []) rfl rfl l_Mo_134 vm_Mo_goesOn rfl rfl rfl (Or.inl ⟨rfl, Nat.le_of_ble_eq_true rfl⟩) (Nat.le_of_ble_eq_true rfl) (Nat.le_of_ble_eq_true rfl) (Nat.le_refl _) (Nat.le_refl _) (Nat.le_of_ble_eq_true rfl) (Mo_goesOn_ok T n p6 h2 r (SS _ _ q6.1 q6.2.1 g2) (tkR_q k2 (by omega) e6)) rfl ?_
    rintro rv h3 r ⟨rfl, rfl, f3, k3⟩ -
    have g3 : f64 erF [64, 72] h0 h3 := g2.tr f3 (by decide) (by decide)
    have w3 : h3 72 = up (h0 72) 3 (c10 T n p5) := by rw [f3.1 72 (by decide)]; exact w2
    refine wq_aload_n (kk := 0) (q := 140) rfl rfl rfl ?_
    refine wq_ldcs (j := 8) (q := 142) (by decide) (Nat.le_of_ble_eq_true rfl) rfl rfl ?_
    refine wq_iconst (n := 4) (q := 143) rfl rfl rfl ?_
    refine wq_aload_n (kk := 0) (q := 144) rfl rfl rfl ?_
    refine wq_getF (q := 147) f_Mo_36 rfl rfl (Nat.le_of_ble_eq_true rfl) rfl rfl rfl ?_
    refine wq_iconst (n := 3) (q := 148) rfl rfl rfl ?_
    refine wq_iald (q := 149) rfl (Or.inl ⟨rfl, Nat.le_of_ble_eq_true rfl⟩) rfl rfl (by first | omega | (simp [hup]; omega)) (by first | omega | (simp [hup]; omega)) ?_
    refine wq_aload_n (kk := 0) (q := 150) rfl rfl rfl ?_
    refine wq_getF (q := 153) f_Mo_20 rfl rfl (Nat.le_of_ble_eq_true rfl) rfl rfl rfl ?_
    refine wq_iconst (n := 0) (q := 154) rfl rfl rfl ?_
    refine wq_iald (q := 155) rfl (Or.inl ⟨rfl, Nat.le_of_ble_eq_true rfl⟩) rfl rfl (by first | omega | (simp [hup]; omega)) (by first | omega | (simp [hup]; omega)) ?_
    rw [g3.1 67 (by decide), m0, w3, up_s]
    refine wq_callV (q := 158) (m' := m_Mo_afterLink) (R' := rm 7) (As := [_, _, _, _]) rfl rfl l_Mo_197 vm_Mo_afterLink rfl rfl rfl (Or.inl ⟨rfl, Nat.le_of_ble_eq_true rfl⟩) (Nat.le_of_ble_eq_true rfl) (Nat.le_of_ble_eq_true rfl) (Nat.le_refl _) (Nat.le_refl _) (Nat.le_of_ble_eq_true rfl) (Mo_afterLink_q 8 (by decide) 4 (c10 T n p5) (st.1 0) T n p6 p7 e7 h3 r (SS _ _ q6.1 q6.2.1 g3) k3 (by omega)) rfl ?_
    rintro rv h4 r ⟨rfl, rfl, f4, z4, a4⟩ -
    have g4 : f64 erF [64, 72] h0 h4 := g3.tr f4 (fun _ z => z) (fun _ z => z)
    refine wq_cif_ne (tgt := 163) (q := 161) rfl rfl rfl (fun c158 => ?_) (fun c158 => ?_)
    · skip
      obtain ⟨k4, w4, -⟩ := a4 c158
      have v4 := xN_0 (xx_0 c158).2
      rw [w3] at w4
      refine wq_aload_n (kk := 0) (q := 164) rfl rfl rfl ?_
      refine wq_callV (q := 167) (m' := m_Mo_goesOn) (R' := rm 2) (As := []) rfl rfl l_Mo_134 vm_Mo_goesOn rfl rfl rfl (Or.inl ⟨rfl, Nat.le_of_ble_eq_true rfl⟩) (Nat.le_of_ble_eq_true rfl) (Nat.le_of_ble_eq_true rfl) (Nat.le_refl _) (Nat.le_refl _) (Nat.le_of_ble_eq_true rfl) (Mo_goesOn_ok T n p8 h4 r (SS _ _ q8.1 q8.2.1 g4) (tkR_q k4 (by omega) e8)) rfl ?_
      rintro rv h5' r ⟨rfl, rfl, f5, k5⟩ -
      have g5 : f64 erF [64, 72] h0 h5' := g4.tr f5 (by decide) (by decide)
      have w5 : h5' 72 = up (up (h0 72) 3 (c10 T n p5)) 4 (c10 T n p7) := by rw [f5.1 72 (by decide)]; exact w4
      refine wq_aload_n (kk := 0) (q := 168) rfl rfl rfl ?_
      refine wq_ldcs (j := 9) (q := 170) (by decide) (Nat.le_of_ble_eq_true rfl) rfl rfl ?_
      refine wq_iconst (n := 5) (q := 171) rfl rfl rfl ?_
      refine wq_iconst (n := 1) (q := 172) rfl rfl rfl ?_
      refine wq_sipush (n := 999) (q := 175) rfl rfl rfl ?_
      refine wq_callV (q := 178) (m' := m_Mo_afterLink) (R' := rm 7) (As := [_, _, _, _]) rfl rfl l_Mo_197 vm_Mo_afterLink rfl rfl rfl (Or.inl ⟨rfl, Nat.le_of_ble_eq_true rfl⟩) (Nat.le_of_ble_eq_true rfl) (Nat.le_of_ble_eq_true rfl) (Nat.le_refl _) (Nat.le_refl _) (Nat.le_of_ble_eq_true rfl) (Mo_afterLink_q 9 (by decide) 5 1 999 T n p8 p9 e9 h5' r (SS _ _ q8.1 q8.2.1 g5) k5 (by omega)) rfl ?_
      rintro rv h6 r ⟨rfl, rfl, f6, z6, a6⟩ -
      have g6 : f64 erF [64, 72] h0 h6 := g5.tr f6 (fun _ z => z) (fun _ z => z)
      refine wq_cif_ne (tgt := 183) (q := 181) rfl rfl rfl (fun c178 => ?_) (fun c178 => ?_)
      · skip
        obtain ⟨k6, w6, -⟩ := a6 c178
        have v6 := xN_0 (xx_0 c178).2
        rw [w5] at w6
        have d64 : h6 67 4 = st.1 4 := by rw [g6.1 67 (by decide)]; exact m4
        have l3 : h6 72 3 = c10 T n p5 := by rw [w6, up_n (by decide), up_n (by decide), up_s]
        have l4 : h6 72 4 = c10 T n p7 := by rw [w6, up_n (by decide), up_s]
        have l5 : h6 72 5 = c10 T n p9 := by rw [w6, up_s]
        have hdv : dv (c10 T n p7 - c10 T n p5) (c10 T n p9) = (c10 T n p7 - c10 T n p5) / c10 T n p9 := dv_eq (by omega) (by omega)
        have hd0 : 0 ≤ (c10 T n p7 - c10 T n p5) / c10 T n p9 := Int.ediv_nonneg (by omega) (by omega)
        have hd1 : (c10 T n p7 - c10 T n p5) / c10 T n p9 ≤ c10 T n p7 - c10 T n p5 := Int.ediv_le_self _ (by omega)
        refine wq_aload_n (kk := 0) (q := 184) rfl rfl rfl ?_
        refine wq_getF (q := 187) f_Mo_20 rfl rfl (Nat.le_of_ble_eq_true rfl) rfl rfl rfl ?_
        refine wq_iconst (n := 4) (q := 188) rfl rfl rfl ?_
        refine wq_iald (q := 189) rfl (Or.inl ⟨rfl, Nat.le_of_ble_eq_true rfl⟩) rfl rfl (by first | omega | (simp [hup]; omega)) (by first | omega | (simp [hup]; omega)) ?_
        refine wq_aload_n (kk := 0) (q := 190) rfl rfl rfl ?_
        refine wq_getF (q := 193) f_Mo_36 rfl rfl (Nat.le_of_ble_eq_true rfl) rfl rfl rfl ?_
        refine wq_iconst (n := 4) (q := 194) rfl rfl rfl ?_
        refine wq_iald (q := 195) rfl (Or.inl ⟨rfl, Nat.le_of_ble_eq_true rfl⟩) rfl rfl (by first | omega | (simp [hup]; omega)) (by first | omega | (simp [hup]; omega)) ?_
        refine wq_aload_n (kk := 0) (q := 196) rfl rfl rfl ?_
        refine wq_getF (q := 199) f_Mo_36 rfl rfl (Nat.le_of_ble_eq_true rfl) rfl rfl rfl ?_
        refine wq_iconst (n := 3) (q := 200) rfl rfl rfl ?_
        refine wq_iald (q := 201) rfl (Or.inl ⟨rfl, Nat.le_of_ble_eq_true rfl⟩) rfl rfl (by first | omega | (simp [hup]; omega)) (by first | omega | (simp [hup]; omega)) ?_
        refine wq_isub (q := 202) rfl rfl (by first | omega | (simp [hup]; omega)) (by first | omega | (simp [hup]; omega)) ?_
        refine wq_aload_n (kk := 0) (q := 203) rfl rfl rfl ?_
        refine wq_getF (q := 206) f_Mo_36 rfl rfl (Nat.le_of_ble_eq_true rfl) rfl rfl rfl ?_
        refine wq_iconst (n := 5) (q := 207) rfl rfl rfl ?_
        refine wq_iald (q := 208) rfl (Or.inl ⟨rfl, Nat.le_of_ble_eq_true rfl⟩) rfl rfl (by first | omega | (simp [hup]; omega)) (by first | omega | (simp [hup]; omega)) ?_
        refine wq_idiv (q := 209) rfl rfl (by first | omega | (simp [hup]; omega)) ?_
        rw [l3, l4, l5, d64]
        rw [show (Int32.ofInt (c10 T n p7 - c10 T n p5) / Int32.ofInt (c10 T n p9)).toInt = dv (c10 T n p7 - c10 T n p5) (c10 T n p9) from rfl]
        refine wq_iadd (q := 210) rfl rfl (by first | omega | (simp [hup]; omega)) (by first | omega | (simp [hup]; omega)) ?_
        refine wq_iconst (n := 1) (q := 211) rfl rfl rfl ?_
        refine wq_iadd (q := 212) rfl rfl (by first | omega | (simp [hup]; omega)) (by first | omega | (simp [hup]; omega)) ?_
        refine wq_bipush (n := 120) (q := 214) rfl rfl rfl ?_
        refine wq_icmp_le (tgt := 223) (q := 217) rfl rfl rfl (fun c214 => ?_) (fun c214 => ?_)
        · skip
          refine wq_aload_n (kk := 0) (q := 224) rfl rfl rfl ?_
          refine wq_callV (q := 227) (m' := m_Mo_goesOn) (R' := rm 2) (As := []) rfl rfl l_Mo_134 vm_Mo_goesOn rfl rfl rfl (Or.inl ⟨rfl, Nat.le_of_ble_eq_true rfl⟩) (Nat.le_of_ble_eq_true rfl) (Nat.le_of_ble_eq_true rfl) (Nat.le_refl _) (Nat.le_refl _) (Nat.le_of_ble_eq_true rfl) (Mo_goesOn_ok T n p10 h6 r (SS _ _ q10.1 q10.2.1 g6) (tkR_q k6 (by omega) e10)) rfl ?_
          rintro rv h7 r ⟨rfl, rfl, f7, k7⟩ -
          have g7 : f64 erF [64, 72] h0 h7 := g6.tr f7 (by decide) (by decide)
          have w7 := f7.1 72 (by decide)
          have kk : (if st.1 4 + dv (c10 T n p7 - c10 T n p5) (c10 T n p9) + 1 ≤ 120 then (0 : Int) else 5) = 0 := if_pos (by omega)
          refine wq_aload_n (kk := 0) (q := 228) rfl rfl rfl ?_
          refine wq_ldcs (j := 10) (q := 230) (by decide) (Nat.le_of_ble_eq_true rfl) rfl rfl ?_
          refine wq_bipush (n := 6) (q := 232) rfl rfl rfl ?_
          refine wq_iconst (n := 1) (q := 233) rfl rfl rfl ?_
          refine wq_bipush (n := 99) (q := 235) rfl rfl rfl ?_
          refine wq_callV (q := 238) (m' := m_Mo_afterLink) (R' := rm 7) (As := [_, _, _, _]) rfl rfl l_Mo_197 vm_Mo_afterLink rfl rfl rfl (Or.inl ⟨rfl, Nat.le_of_ble_eq_true rfl⟩) (Nat.le_of_ble_eq_true rfl) (Nat.le_of_ble_eq_true rfl) (Nat.le_refl _) (Nat.le_refl _) (Nat.le_of_ble_eq_true rfl) (Mo_afterLink_q 10 (by decide) 6 1 99 T n p10 p11 e11 h7 r (SS _ _ q10.1 q10.2.1 g7) k7 (by omega)) rfl ?_
          rintro rv h8 r ⟨rfl, rfl, f8, z8, a8⟩ -
          have g8 : f64 erF [64, 72] h0 h8 := g7.tr f8 (fun _ z => z) (fun _ z => z)
          refine wq_cif_ne (tgt := 243) (q := 241) rfl rfl rfl (fun c238 => ?_) (fun c238 => ?_)
          · skip
            obtain ⟨k8, w8, -⟩ := a8 c238
            have v8 := xN_0 (xx_0 c238).2
            rw [w7, w6] at w8
            refine wq_aload_n (kk := 0) (q := 244) rfl rfl rfl ?_
            refine wq_callV (q := 247) (m' := m_Mo_goesOn) (R' := rm 2) (As := []) rfl rfl l_Mo_134 vm_Mo_goesOn rfl rfl rfl (Or.inl ⟨rfl, Nat.le_of_ble_eq_true rfl⟩) (Nat.le_of_ble_eq_true rfl) (Nat.le_of_ble_eq_true rfl) (Nat.le_refl _) (Nat.le_refl _) (Nat.le_of_ble_eq_true rfl) (Mo_goesOn_ok T n p12 h8 r (SS _ _ q12.1 q12.2.1 g8) (tkR_q k8 (by omega) e12)) rfl ?_
            rintro rv h9 r ⟨rfl, rfl, f9, k9⟩ -
            have g9 : f64 erF [64, 72] h0 h9 := g8.tr f9 (by decide) (by decide)
            have w9 : h9 72 = up (up (up (up (h0 72) 3 (c10 T n p5)) 4 (c10 T n p7)) 5 (c10 T n p9)) 6 (c10 T n p11) := by rw [f9.1 72 (by decide)]; exact w8
            refine wq_aload_n (kk := 0) (q := 248) rfl rfl rfl ?_
            refine wq_getF (q := 251) f_Mo_36 rfl rfl (Nat.le_of_ble_eq_true rfl) rfl rfl rfl ?_
            refine wq_iconst (n := 3) (q := 252) rfl rfl rfl ?_
            refine wq_iald (q := 253) rfl (Or.inl ⟨rfl, Nat.le_of_ble_eq_true rfl⟩) rfl rfl (by first | omega | (simp [hup]; omega)) (by first | omega | (simp [hup]; omega)) ?_
            refine wq_istore_n (kk := 1) (q := 254) rfl rfl (Nat.le_of_ble_eq_true rfl) rfl ?_
            have hroom := dv_room (by omega) v6.2 (show st.1 4 + dv (c10 T n p7 - c10 T n p5) (c10 T n p9) + 1 ≤ 120 by omega)
            obtain ⟨u1, u2⟩ := adds_V (l := l) (a := a) (b := b) (w := c10 T n p11) (k := st.1 3) (till := c10 T n p7) (ev := c10 T n p9) v6.2.1 (by omega) hab v8.2 2000 (c10 T n p5) st.1 hV.1 hz v2.2.1 hroom hl ha hb
            have m9 : mrR T n h9 st := mrR_f hM g9 (by decide) (by decide) (by decide) (by decide)
            rw [show h9 72 3 = c10 T n p5 by rw [w9, up_n (by decide), up_n (by decide), up_n (by decide), up_s]]
            refine Mo_linkL T n p12 l a b (c10 T n p11) (st.1 3) (c10 T n p7) (c10 T n p9) _ st x h r h9 (GG _ g9) k9 ?_ ?_ ?_ ?_ ?_ ?_ m9 v6.2 (by omega) hab v8.2 ⟨rfl, b3.1, hk3⟩ (ex.trans (es.trans ((ch_y c130).trans ((ch_y c158).trans ((ch_y c178).trans ((ch_y kk).trans (ch_y c238))))))) (u2 0 (by decide)) (u2 1 (by decide)) (u2 2 (by decide)) _ 2000 (c10 T n p5) st.1 h9 rfl (by omega) rfl hV.1 hz v2.2.1 (by omega) hroom hl ha hb rfl m9.2.1 fr.rf
            · rw [w9, up_n (by decide), up_n (by decide), up_n (by decide), up_n (by decide)]; exact y0
            · rw [w9, up_n (by decide), up_n (by decide), up_n (by decide), up_n (by decide)]; exact y1
            · rw [w9, up_n (by decide), up_n (by decide), up_n (by decide), up_n (by decide)]; exact y2
            · rw [w9, up_n (by decide), up_n (by decide), up_s]
            · rw [w9, up_n (by decide), up_s]
            · rw [w9, up_s]
          · skip
            refine wq_iconst (n := 0) (q := 242) rfl rfl rfl ?_
            obtain ⟨c, d⟩ := z8 c238
            exact wq_zret rfl rfl (Nat.le_refl _) (Nat.le_refl _) (by omega) (lnR.n (ex.trans (es.trans ((ch_y c130).trans ((ch_y c158).trans ((ch_y c178).trans ((ch_y kk).trans (ch_n c238))))))) c238 (GG _ g8) c d)
        · skip
          refine wq_aload_n (kk := 0) (q := 218) rfl rfl rfl ?_
          refine wq_iconst (n := 5) (q := 219) rfl rfl rfl ?_
          refine wq_callV (q := 222) (m' := m_Mo_errs) (R' := rm 1) (As := [_]) rfl rfl l_Mo_130 vm_Mo_errs rfl rfl rfl (Or.inl ⟨rfl, Nat.le_of_ble_eq_true rfl⟩) (Nat.le_of_ble_eq_true rfl) (Nat.le_of_ble_eq_true rfl) (Nat.le_refl _) (Nat.le_refl _) (Nat.le_of_ble_eq_true rfl) (Mo_errs_ok 5 h6 r) rfl ?_
          rintro rv h7 r ⟨rfl, rfl, rfl⟩ -
          have kk : (if st.1 4 + dv (c10 T n p7 - c10 T n p5) (c10 T n p9) + 1 ≤ 120 then (0 : Int) else 5) = 5 := if_neg (by omega)
          rw [kk] at es
          exact wq_zret rfl rfl (Nat.le_refl _) (Nat.le_refl _) (by omega) (lnR.e (ex.trans (es.trans ((ch_y c130).trans ((ch_y c158).trans ((ch_y c178).trans (ch_n (by decide))))))) (by decide) (GG _ g6) k6.1)
      · skip
        refine wq_iconst (n := 0) (q := 182) rfl rfl rfl ?_
        obtain ⟨c, d⟩ := z6 c178
        exact wq_zret rfl rfl (Nat.le_refl _) (Nat.le_refl _) (by omega) (lnR.n (ex.trans (es.trans ((ch_y c130).trans ((ch_y c158).trans (ch_n c178))))) c178 (GG _ g6) c d)
    · skip
      refine wq_iconst (n := 0) (q := 162) rfl rfl rfl ?_
      obtain ⟨c, d⟩ := z4 c158
      exact wq_zret rfl rfl (Nat.le_refl _) (Nat.le_refl _) (by omega) (lnR.n (ex.trans (es.trans ((ch_y c130).trans (ch_n c158)))) c158 (GG _ g4) c d)
  · skip
    refine wq_iconst (n := 0) (q := 134) rfl rfl rfl ?_
    obtain ⟨c, d⟩ := z2 c130
    exact wq_zret rfl rfl (Nat.le_refl _) (Nat.le_refl _) (by omega) (lnR.n (ex.trans (es.trans (ch_n c130))) c130 (GG _ g2) c d)

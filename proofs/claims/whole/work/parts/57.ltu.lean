theorem trQ.p {h : mH} {N : mN} {r1 : mR} {a b t : Int} {h1 : mH} (hw : netW h1 r1 N) (hc : (a = b ∧ h1 58 0 = 1 ∧ h1 59 0 = t ∧ h1 60 0 = 0 ∧ h1 61 0 = t) ∨ (a ≠ b ∧ barg N a b t 120 h1)) : Trp N a b t (h1 58 0) (h1 59) (h1 60) (h1 61) := hc.imp id (fun z => ⟨z.1, z.2.cut hw⟩)
theorem Trp.c0 {N : mN} {a b t c : Int} {te tc ts : mF} (h : Trp N a b t c te tc ts) : 0 ≤ c := by
  rcases h with h | ⟨-, B, V, S, -, -, -, h, -⟩
  · omega
  · exact h.1
set_option maxRecDepth 100000 in
set_option maxHeartbeats 1000000 in
theorem Lt_trades_ok (a b t : Int) (h : mH) (r : mR) (hI : IQ h r) : Meets true (rm 7) m_Lt_trades [vR 0, vI a, vI b, vI t] h r (qP h r (Ans (kP (h 2 1) a b (bI (isT t))) (Tm (dN h 0) a b t))) := by
  refine ⟨ok_Lt_trades, Nat.le_of_ble_eq_true rfl, ?_⟩
  refine wq_aload_n (kk := 0) (q := 1) rfl rfl rfl ?_
  refine wq_iload_n (kk := 1) (q := 2) rfl rfl rfl ?_
  refine wq_iload_n (kk := 2) (q := 3) rfl rfl rfl ?_
  refine wq_iload_n (kk := 3) (q := 4) rfl rfl rfl ?_
  refine wq_bipush (n := 120) (q := 6) rfl rfl rfl ?_
  refine wq_callV (q := 9) (m' := m_Lt_seekTrades) (R' := rm 6) (As := [_, _, _, _]) rfl rfl l_Lt_220 vm_Lt_seekTrades rfl rfl rfl (Or.inl ⟨rfl, Nat.le_of_ble_eq_true rfl⟩) (Nat.le_of_ble_eq_true rfl) (Nat.le_of_ble_eq_true rfl) (Nat.le_refl _) (Nat.le_refl _) (Nat.le_of_ble_eq_true rfl) (Lt_seekTrades_ok a b t 120 (by omega) h r hI) rfl ?_
  rintro rv h1 r1 ⟨v, rfl, q1, hs⟩ -
  refine wq_istore (i := 4) (q := 11) rfl rfl (Nat.le_of_ble_eq_true rfl) rfl ?_
  refine wq_iload (i := 4) (q := 13) rfl rfl rfl ?_
  refine wq_if_ne (tgt := 26) (q := 16) rfl rfl rfl (fun c13 => ?_) (fun c13 => ?_)
  · skip
    refine wq_iload (i := 4) (q := 28) rfl rfl rfl ?_
    refine wq_iret rfl rfl (Nat.le_refl _) (Nat.le_refl _) ⟨_, rfl, ?_, q1⟩
    rcases hs with ⟨z1, z2, z3⟩ | ⟨z1, z2, z3, z4, z5, z6⟩
    · refine Or.inl ⟨z1, ?_, z3⟩
      first | exact z2 | (exfalso; omega)
    · have hp := trQ.p (h := h) z3 z6
      have h0 := hp.c0
      refine Or.inr ⟨z1, _, _, _, _, hp, z2, ?_⟩
      first | (rw [if_pos (by omega)]; omega) | (rw [if_neg (by omega)])
  · skip
    refine wq_aload_n (kk := 0) (q := 17) rfl rfl rfl ?_
    refine wq_getF (q := 20) f_Lt_75 rfl rfl (Nat.le_of_ble_eq_true rfl) rfl rfl rfl ?_
    refine wq_getI (kz := 0) (q := 23) rfl f_Lt_224 rfl rfl (Or.inl ⟨rfl, Nat.le_of_ble_eq_true rfl⟩) rfl rfl ?_
    refine wq_goto (tgt := 28) rfl rfl ?_
    refine wq_iret rfl rfl (Nat.le_refl _) (Nat.le_refl _) ⟨_, rfl, ?_, q1⟩
    rcases hs with ⟨z1, z2, z3⟩ | ⟨z1, z2, z3, z4, z5, z6⟩
    · refine Or.inl ⟨z1, ?_, z3⟩
      first | exact z2 | (exfalso; omega)
    · have hp := trQ.p (h := h) z3 z6
      have h0 := hp.c0
      refine Or.inr ⟨z1, _, _, _, _, hp, z2, ?_⟩
      first | (rw [if_pos (by omega)]; omega) | (rw [if_neg (by omega)])
set_option maxRecDepth 100000 in
set_option maxHeartbeats 1000000 in
theorem Lt_trade_ok (a b t i w : Int) (h : mH) (r : mR) (hI : IQ h r) : Meets true (rm 7) m_Lt_trade [vR 0, vI a, vI b, vI t, vI i, vI w] h r (qP h r (Ans (kP (h 2 1) a b (bI (isT t))) (To (dN h 0) a b t i w))) := by
  refine ⟨ok_Lt_trade, Nat.le_of_ble_eq_true rfl, ?_⟩
  refine wq_aload_n (kk := 0) (q := 1) rfl rfl rfl ?_
  refine wq_iload_n (kk := 1) (q := 2) rfl rfl rfl ?_
  refine wq_iload_n (kk := 2) (q := 3) rfl rfl rfl ?_
  refine wq_iload_n (kk := 3) (q := 4) rfl rfl rfl ?_
  refine wq_bipush (n := 120) (q := 6) rfl rfl rfl ?_
  refine wq_callV (q := 9) (m' := m_Lt_seekTrades) (R' := rm 6) (As := [_, _, _, _]) rfl rfl l_Lt_220 vm_Lt_seekTrades rfl rfl rfl (Or.inl ⟨rfl, Nat.le_of_ble_eq_true rfl⟩) (Nat.le_of_ble_eq_true rfl) (Nat.le_of_ble_eq_true rfl) (Nat.le_refl _) (Nat.le_refl _) (Nat.le_of_ble_eq_true rfl) (Lt_seekTrades_ok a b t 120 (by omega) h r hI) rfl ?_
  rintro rv h1 r1 ⟨v, rfl, q1, hs⟩ -
  have hc : v = 0 → h1 58 0 ≤ 120 := fun e => by
    rcases hs with ⟨z1, z2, z3⟩ | ⟨z1, z2, z3, z4, z5, z6⟩
    · omega
    · exact z5
  refine wq_istore (i := 6) (q := 11) rfl rfl (Nat.le_of_ble_eq_true rfl) rfl ?_
  refine wq_iload (i := 6) (q := 13) rfl rfl rfl ?_
  refine wq_if_eq (tgt := 19) (q := 16) rfl rfl rfl (fun c13 => ?_) (fun c13 => ?_)
  · skip
    refine wq_iload (i := 4) (q := 21) rfl rfl rfl ?_
    refine wq_if_lt (tgt := 36) (q := 24) rfl rfl rfl (fun c21 => ?_) (fun c21 => ?_)
    · skip
      refine wq_aload_n (kk := 0) (q := 37) rfl rfl rfl ?_
      refine wq_iconst (n := 1) (q := 38) rfl rfl rfl ?_
      refine wq_callV (q := 41) (m' := m_Lt_refuse) (R' := rm 1) (As := [_]) rfl rfl l_Lt_87 vm_Lt_refuse rfl rfl rfl (Or.inl ⟨rfl, Nat.le_of_ble_eq_true rfl⟩) (Nat.le_of_ble_eq_true rfl) (Nat.le_of_ble_eq_true rfl) (Nat.le_refl _) (Nat.le_refl _) (Nat.le_of_ble_eq_true rfl) (Lt_refuse_ok 1 h1 r1) rfl ?_
      rintro rv h2 r1 ⟨rfl, rfl, rfl⟩ -
      try simp only [List.length_cons, List.length_nil] at c44
      refine wq_iret rfl rfl (Nat.le_refl _) (Nat.le_refl _) ⟨_, rfl, ?_, q1.put 1⟩
      rcases hs with ⟨z1, z2, z3⟩ | ⟨z1, z2, z3, z4, z5, z6⟩
      · exfalso; omega
      · have hp := trQ.p (h := h) z3 z6
        have h0 := hp.c0
        exact Or.inr ⟨z1, _, _, _, _, hp, Or.inr (Or.inl ⟨by omega, by omega, rfl, hup_s⟩)⟩
    · skip
      refine wq_iload (i := 4) (q := 26) rfl rfl rfl ?_
      refine wq_aload_n (kk := 0) (q := 27) rfl rfl rfl ?_
      refine wq_getF (q := 30) f_Lt_75 rfl rfl (Nat.le_of_ble_eq_true rfl) rfl rfl rfl ?_
      refine wq_getI (kz := 0) (q := 33) rfl f_Lt_224 rfl rfl (Or.inl ⟨rfl, Nat.le_of_ble_eq_true rfl⟩) rfl rfl ?_
      refine wq_icmp_lt (tgt := 42) (q := 36) rfl rfl rfl (fun c33 => ?_) (fun c33 => ?_)
      · skip
        refine wq_iload (i := 5) (q := 44) rfl rfl rfl ?_
        refine wq_tabL (tg := [72, 83, 94]) (td := 105) rfl rfl rfl (fun c44 => ?_) (tab_c (fun c44 => ?_) (tab_c (fun c44 => ?_) (tab_c (fun c44 => ?_) (tab_n))))
        · skip
          refine wq_aload_n (kk := 0) (q := 106) rfl rfl rfl ?_
          refine wq_iconst (n := 1) (q := 107) rfl rfl rfl ?_
          refine wq_callV (q := 110) (m' := m_Lt_refuse) (R' := rm 1) (As := [_]) rfl rfl l_Lt_87 vm_Lt_refuse rfl rfl rfl (Or.inl ⟨rfl, Nat.le_of_ble_eq_true rfl⟩) (Nat.le_of_ble_eq_true rfl) (Nat.le_of_ble_eq_true rfl) (Nat.le_refl _) (Nat.le_refl _) (Nat.le_of_ble_eq_true rfl) (Lt_refuse_ok 1 h1 r1) rfl ?_
          rintro rv h2 r1 ⟨rfl, rfl, rfl⟩ -
          try simp only [List.length_cons, List.length_nil] at c44
          refine wq_iret rfl rfl (Nat.le_refl _) (Nat.le_refl _) ⟨_, rfl, ?_, q1.put 1⟩
          rcases hs with ⟨z1, z2, z3⟩ | ⟨z1, z2, z3, z4, z5, z6⟩
          · exfalso; omega
          · have hp := trQ.p (h := h) z3 z6
            have h0 := hp.c0
            exact Or.inr ⟨z1, _, _, _, _, hp, Or.inr (Or.inl ⟨by omega, by omega, rfl, hup_s⟩)⟩
        · skip
          refine wq_aload_n (kk := 0) (q := 73) rfl rfl rfl ?_
          refine wq_getF (q := 76) f_Lt_75 rfl rfl (Nat.le_of_ble_eq_true rfl) rfl rfl rfl ?_
          refine wq_getF (q := 79) f_Lt_225 rfl rfl (Nat.le_of_ble_eq_true rfl) rfl rfl rfl ?_
          refine wq_iload (i := 4) (q := 81) rfl rfl rfl ?_
          refine wq_iald (q := 82) rfl (Or.inl ⟨rfl, Nat.le_of_ble_eq_true rfl⟩) rfl rfl (by first | omega | (have := hc c13; omega)) (by first | omega | (have := hc c13; omega)) ?_
          refine wq_iret rfl rfl (Nat.le_refl _) (Nat.le_refl _) ⟨_, rfl, ?_, q1⟩
          rcases hs with ⟨z1, z2, z3⟩ | ⟨z1, z2, z3, z4, z5, z6⟩
          · exfalso; omega
          · have hp := trQ.p (h := h) z3 z6
            exact Or.inr ⟨z1, _, _, _, _, hp, Or.inr (Or.inr ⟨by omega, by first | exact Or.inl ⟨by omega, rfl⟩ | exact Or.inr (Or.inl ⟨by omega, rfl⟩) | exact Or.inr (Or.inr ⟨by omega, rfl⟩), z2⟩)⟩
        · skip
          refine wq_aload_n (kk := 0) (q := 84) rfl rfl rfl ?_
          refine wq_getF (q := 87) f_Lt_75 rfl rfl (Nat.le_of_ble_eq_true rfl) rfl rfl rfl ?_
          refine wq_getF (q := 90) f_Lt_228 rfl rfl (Nat.le_of_ble_eq_true rfl) rfl rfl rfl ?_
          refine wq_iload (i := 4) (q := 92) rfl rfl rfl ?_
          refine wq_iald (q := 93) rfl (Or.inl ⟨rfl, Nat.le_of_ble_eq_true rfl⟩) rfl rfl (by first | omega | (have := hc c13; omega)) (by first | omega | (have := hc c13; omega)) ?_
          refine wq_iret rfl rfl (Nat.le_refl _) (Nat.le_refl _) ⟨_, rfl, ?_, q1⟩
          rcases hs with ⟨z1, z2, z3⟩ | ⟨z1, z2, z3, z4, z5, z6⟩
          · exfalso; omega
          · have hp := trQ.p (h := h) z3 z6
            exact Or.inr ⟨z1, _, _, _, _, hp, Or.inr (Or.inr ⟨by omega, by first | exact Or.inl ⟨by omega, rfl⟩ | exact Or.inr (Or.inl ⟨by omega, rfl⟩) | exact Or.inr (Or.inr ⟨by omega, rfl⟩), z2⟩)⟩
        · skip
          refine wq_aload_n (kk := 0) (q := 95) rfl rfl rfl ?_
          refine wq_getF (q := 98) f_Lt_75 rfl rfl (Nat.le_of_ble_eq_true rfl) rfl rfl rfl ?_
          refine wq_getF (q := 101) f_Lt_230 rfl rfl (Nat.le_of_ble_eq_true rfl) rfl rfl rfl ?_
          refine wq_iload (i := 4) (q := 103) rfl rfl rfl ?_
          refine wq_iald (q := 104) rfl (Or.inl ⟨rfl, Nat.le_of_ble_eq_true rfl⟩) rfl rfl (by first | omega | (have := hc c13; omega)) (by first | omega | (have := hc c13; omega)) ?_
          refine wq_iret rfl rfl (Nat.le_refl _) (Nat.le_refl _) ⟨_, rfl, ?_, q1⟩
          rcases hs with ⟨z1, z2, z3⟩ | ⟨z1, z2, z3, z4, z5, z6⟩
          · exfalso; omega
          · have hp := trQ.p (h := h) z3 z6
            exact Or.inr ⟨z1, _, _, _, _, hp, Or.inr (Or.inr ⟨by omega, by first | exact Or.inl ⟨by omega, rfl⟩ | exact Or.inr (Or.inl ⟨by omega, rfl⟩) | exact Or.inr (Or.inr ⟨by omega, rfl⟩), z2⟩)⟩
      · skip
        refine wq_aload_n (kk := 0) (q := 37) rfl rfl rfl ?_
        refine wq_iconst (n := 1) (q := 38) rfl rfl rfl ?_
        refine wq_callV (q := 41) (m' := m_Lt_refuse) (R' := rm 1) (As := [_]) rfl rfl l_Lt_87 vm_Lt_refuse rfl rfl rfl (Or.inl ⟨rfl, Nat.le_of_ble_eq_true rfl⟩) (Nat.le_of_ble_eq_true rfl) (Nat.le_of_ble_eq_true rfl) (Nat.le_refl _) (Nat.le_refl _) (Nat.le_of_ble_eq_true rfl) (Lt_refuse_ok 1 h1 r1) rfl ?_
        rintro rv h2 r1 ⟨rfl, rfl, rfl⟩ -
        try simp only [List.length_cons, List.length_nil] at c44
        refine wq_iret rfl rfl (Nat.le_refl _) (Nat.le_refl _) ⟨_, rfl, ?_, q1.put 1⟩
        rcases hs with ⟨z1, z2, z3⟩ | ⟨z1, z2, z3, z4, z5, z6⟩
        · exfalso; omega
        · have hp := trQ.p (h := h) z3 z6
          have h0 := hp.c0
          exact Or.inr ⟨z1, _, _, _, _, hp, Or.inr (Or.inl ⟨by omega, by omega, rfl, hup_s⟩)⟩
  · skip
    refine wq_iload (i := 6) (q := 18) rfl rfl rfl ?_
    refine wq_iret rfl rfl (Nat.le_refl _) (Nat.le_refl _) ⟨_, rfl, ?_, q1⟩
    rcases hs with ⟨z1, z2, z3⟩ | ⟨z1, z2, z3, z4, z5, z6⟩
    · exact Or.inl ⟨z1, z2, z3⟩
    · have hp := trQ.p (h := h) z3 z6
      have h0 := hp.c0
      exact Or.inr ⟨z1, _, _, _, _, hp, Or.inl ⟨by omega, by omega, z2⟩⟩
set_option maxRecDepth 100000 in
set_option maxHeartbeats 1000000 in
theorem Lt_withinA (a b t k g : Int) (h : mH) (r : mR) (hI : IQ h r) (hg : g = bI (isT t ∧ 0 ≤ k ∧ k ≤ 20)) : WP (true, rm 7) m_Lt_within (rt m_Lt_within (rm 7) (qP h r (Ans (kP (h 2 1) a b (bI (isT t ∧ 0 ≤ k ∧ k ≤ 20))) (Wq (dN h 0) a b t k)))) 28 [some (vR 0), some (vI a), some (vI b), some (vI t), some (vI k), none] [vI g, vI b, vI a, vR 0, vR 0] h r (0, 0) := by
  have hcur := hI.2.2.2.1
  have q0 := qf.rf hI
  have hV := dN_V hI.1 0
  subst hg
  refine wq_callV (q := 31) (m' := m_Lt_lookAtPair) (R' := rm 2) (As := [_, _, _]) rfl rfl l_Lt_236 vm_Lt_lookAtPair rfl rfl rfl (Or.inl ⟨rfl, Nat.le_of_ble_eq_true rfl⟩) (Nat.le_of_ble_eq_true rfl) (Nat.le_of_ble_eq_true rfl) (Nat.le_refl _) (Nat.le_refl _) (Nat.le_of_ble_eq_true rfl) (Lt_lookAtPair_ok a b _ h r hcur) rfl ?_
  rintro rv h r ⟨rfl, rfl, rfl⟩ -
  generalize hk : kP (h 2 1) a b (bI (isT t ∧ 0 ≤ k ∧ k ≤ 20)) = m
  refine wq_callV (q := 34) (m' := m_Lt_isRefused) (R' := rm 1) (As := [_]) rfl rfl l_Lt_240 vm_Lt_isRefused rfl rfl rfl (Or.inl ⟨rfl, Nat.le_of_ble_eq_true rfl⟩) (Nat.le_of_ble_eq_true rfl) (Nat.le_of_ble_eq_true rfl) (Nat.le_refl _) (Nat.le_refl _) (Nat.le_of_ble_eq_true rfl) (Lt_isRefused_ok m h r) rfl ?_
  rintro rv h1 r ⟨rfl, rfl, rfl⟩ -
  have q1 := q0.put m
  refine wq_cif_eq (tgt := 39) (q := 37) rfl rfl rfl (fun c34 => ?_) (fun c34 => ?_)
  · skip
    refine wq_aload_n (kk := 0) (q := 40) rfl rfl rfl ?_
    refine wq_iload_n (kk := 1) (q := 41) rfl rfl rfl ?_
    refine wq_iload_n (kk := 2) (q := 42) rfl rfl rfl ?_
    refine wq_iload_n (kk := 3) (q := 43) rfl rfl rfl ?_
    refine wq_iload (i := 4) (q := 45) rfl rfl rfl ?_
    have m0 : m = 0 := by simpa using c34
    subst m0
    have hab := kP_0 hk
    have ht := bI_ne hab.2
    refine wq_callV (q := 48) (m' := m_Lt_seekTrades) (R' := rm 6) (As := [_, _, _, _]) rfl rfl l_Lt_220 vm_Lt_seekTrades rfl rfl rfl (Or.inl ⟨rfl, Nat.le_of_ble_eq_true rfl⟩) (Nat.le_of_ble_eq_true rfl) (Nat.le_of_ble_eq_true rfl) (Nat.le_refl _) (Nat.le_refl _) (Nat.le_of_ble_eq_true rfl) (Lt_seekTrades_ok a b t k (by omega) _ _ q1.2.2.2) rfl ?_
    rintro rv h2 r2 ⟨v, rfl, q2, hs⟩ -
    have q3 : qf h r h2 r2 := q1.tr q2
    have e0 : kP (hup h 0 12 0 2 1) a b (bI (isT t)) = 0 := by
      rw [bI_t ht.1]
      unfold kP
      rw [hup_i (by decide), if_pos hab.1, if_neg (by omega)]
    have eN : dN (hup h 0 12 0) 0 = dN h 0 := q1.dN 0
    rw [e0, eN] at hs
    have hs' : h2 0 12 = 0 ∧ (0 < h2 58 0 ∧ v = 0 ∨ h2 58 0 ≤ 0 ∧ v = -2) ∧ h2 58 0 ≤ 120 ∧ Wq (dN h 0) a b t k (if h2 58 0 ≤ 0 then -2 else h2 59 (h2 58 0 - 1)) 0 := by
      rcases hs with ⟨z1, z2, z3⟩ | ⟨z1, z2, z3, z4, z5, z6⟩
      · exact absurd rfl z1
      · refine ⟨z2, z4, z5, ?_⟩
        rcases z6 with z6 | z6
        · refine ⟨rfl, Or.inl ⟨z6.1, ?_⟩⟩
          rw [if_neg (by omega), z6.2.1]
          exact z6.2.2.1
        · exact z6.2.w hV ht.2.1 z6.1
    obtain ⟨w1, w2, w3, w4⟩ := hs'
    refine wq_istore (i := 5) (q := 50) rfl rfl (Nat.le_of_ble_eq_true rfl) rfl ?_
    refine wq_iload (i := 5) (q := 52) rfl rfl rfl ?_
    refine wq_if_ne (tgt := 75) (q := 55) rfl rfl rfl (fun c52 => ?_) (fun c52 => ?_)
    · skip
      refine wq_iload (i := 5) (q := 77) rfl rfl rfl ?_
      refine wq_iret rfl rfl (Nat.le_refl _) (Nat.le_refl _) ⟨_, rfl, Or.inr ⟨rfl, ?_⟩, q3⟩
      rw [w1]
      first | (rw [if_neg (by omega)] at w4; exact w4) | (rw [if_pos (by omega)] at w4; have e := (show v = -2 by omega); rw [e]; exact w4)
    · skip
      refine wq_aload_n (kk := 0) (q := 56) rfl rfl rfl ?_
      refine wq_getF (q := 59) f_Lt_75 rfl rfl (Nat.le_of_ble_eq_true rfl) rfl rfl rfl ?_
      refine wq_getF (q := 62) f_Lt_225 rfl rfl (Nat.le_of_ble_eq_true rfl) rfl rfl rfl ?_
      refine wq_aload_n (kk := 0) (q := 63) rfl rfl rfl ?_
      refine wq_getF (q := 66) f_Lt_75 rfl rfl (Nat.le_of_ble_eq_true rfl) rfl rfl rfl ?_
      refine wq_getI (kz := 0) (q := 69) rfl f_Lt_224 rfl rfl (Or.inl ⟨rfl, Nat.le_of_ble_eq_true rfl⟩) rfl rfl ?_
      refine wq_iconst (n := 1) (q := 70) rfl rfl rfl ?_
      refine wq_isub (q := 71) rfl rfl (by first | omega | (simp [hup]; omega)) (by first | omega | (simp [hup]; omega)) ?_
      refine wq_iald (q := 72) rfl (Or.inl ⟨rfl, Nat.le_of_ble_eq_true rfl⟩) rfl rfl (by first | omega | (simp [hup]; omega)) (by first | omega | (simp [hup]; omega)) ?_
      refine wq_goto (tgt := 77) rfl rfl ?_
      refine wq_iret rfl rfl (Nat.le_refl _) (Nat.le_refl _) ⟨_, rfl, Or.inr ⟨rfl, ?_⟩, q3⟩
      rw [w1]
      first | (rw [if_neg (by omega)] at w4; exact w4) | (rw [if_pos (by omega)] at w4; have e := (show v = -2 by omega); rw [e]; exact w4)
  · skip
    refine wq_iconst (n := -1) (q := 38) rfl rfl rfl ?_
    exact wq_iret rfl rfl (Nat.le_refl _) (Nat.le_refl _) ⟨_, rfl, Or.inl ⟨c34, rfl, hup_s⟩, q1⟩
set_option maxRecDepth 100000 in
set_option maxHeartbeats 1000000 in
theorem Lt_within_ok (a b t k : Int) (h : mH) (r : mR) (hI : IQ h r) : Meets true (rm 7) m_Lt_within [vR 0, vI a, vI b, vI t, vI k] h r (qP h r (Ans (kP (h 2 1) a b (bI (isT t ∧ 0 ≤ k ∧ k ≤ 20))) (Wq (dN h 0) a b t k))) := by
  refine ⟨ok_Lt_within, Nat.le_of_ble_eq_true rfl, ?_⟩
  refine wq_aload_n (kk := 0) (q := 1) rfl rfl rfl ?_
  refine wq_aload_n (kk := 0) (q := 2) rfl rfl rfl ?_
  refine wq_iload_n (kk := 1) (q := 3) rfl rfl rfl ?_
  refine wq_iload_n (kk := 2) (q := 4) rfl rfl rfl ?_
  refine wq_iload_n (kk := 3) (q := 5) rfl rfl rfl ?_
  refine wq_callS (q := 8) (m' := m_Lt_isTime) (R' := rm 1) (As := [_]) rfl rfl l_Lt_233 sm_Lt_isTime rfl (Nat.le_of_ble_eq_true rfl) (Nat.le_of_ble_eq_true rfl) (Nat.le_refl _) (Nat.le_refl _) (Nat.le_of_ble_eq_true rfl) (Lt_isTime_ok t h r) rfl ?_
  rintro rv h r ⟨rfl, rfl, rfl⟩ -
  refine wq_cif_eq (tgt := 27) (q := 11) rfl rfl rfl (fun c8 => ?_) (fun c8 => ?_)
  · skip
    refine wq_iconst (n := 0) (q := 28) rfl rfl rfl ?_
    first | exact Lt_withinA a b t k 1 h r hI (bI_t (by omega)).symm | exact Lt_withinA a b t k 0 h r hI (bI_f (by omega)).symm
  · skip
    refine wq_iload (i := 4) (q := 13) rfl rfl rfl ?_
    refine wq_if_lt (tgt := 27) (q := 16) rfl rfl rfl (fun c13 => ?_) (fun c13 => ?_)
    · skip
      refine wq_iconst (n := 0) (q := 28) rfl rfl rfl ?_
      first | exact Lt_withinA a b t k 1 h r hI (bI_t (by omega)).symm | exact Lt_withinA a b t k 0 h r hI (bI_f (by omega)).symm
    · skip
      refine wq_iload (i := 4) (q := 18) rfl rfl rfl ?_
      refine wq_bipush (n := 20) (q := 20) rfl rfl rfl ?_
      refine wq_icmp_gt (tgt := 27) (q := 23) rfl rfl rfl (fun c20 => ?_) (fun c20 => ?_)
      · skip
        refine wq_iconst (n := 0) (q := 28) rfl rfl rfl ?_
        first | exact Lt_withinA a b t k 1 h r hI (bI_t (by omega)).symm | exact Lt_withinA a b t k 0 h r hI (bI_f (by omega)).symm
      · skip
        refine wq_iconst (n := 1) (q := 24) rfl rfl rfl ?_
        refine wq_goto (tgt := 28) rfl rfl ?_
        first | exact Lt_withinA a b t k 1 h r hI (bI_t (by omega)).symm | exact Lt_withinA a b t k 0 h r hI (bI_f (by omega)).symm

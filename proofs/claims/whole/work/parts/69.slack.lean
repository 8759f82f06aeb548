theorem nLate_NV {h : mH} (hD : DV h) {d k : Int} (hd : 0 ≤ d ∧ d < h 2 4) (hk : 0 ≤ k ∧ k ≤ 99) : NV (nLate (dN h 0) d k) := by
  have z := hD.2.2.1 d hd.1 hd.2
  refine nLate_V (dN_V hD 0) hk.1 ⟨?_, ?_⟩
  · show h 8 d + (if (0 : Int) = 0 then h 10 d else 0) + k ≤ 1500
    rw [if_pos rfl]; omega
  · show h 8 d + (if (0 : Int) = 0 then h 10 d else 0) + h 9 d + k ≤ 1700
    rw [if_pos rfl]; omega
set_option maxRecDepth 100000 in
set_option maxHeartbeats 1000000 in
theorem Lt_slackL (a b t d e : Int) (h : mH) (r : mR) (hD : DV h) (ht : isT t) (ha : 0 ≤ a ∧ a < h 2 1) (hb : 0 ≤ b ∧ b < h 2 1) (hd : 0 ≤ d ∧ d < h 2 4) (he : e = sn (dN h 0) a t b) (hf : e ≠ 1000000) (P : Int → Int → Prop) (K : ∀ v, Sla (dN h 0) a b t d v → P v 0) : ∀ (M : Nat) (k : Int) (h1 : mH) (r1 : mR), (100 - k).toNat = M → 1 ≤ k → k ≤ 100 → qf h r h1 r1 → netW h1 r1 (nLate (dN h 0) d (k - 1)) → (∀ j, 1 ≤ j → j < k → sn (nLate (dN h 0) d j) a t b ≤ e) → WP (true, rm 6) m_Lt_slack (rt m_Lt_slack (rm 6) (qP h r P)) 95 [some (vR 0), some (vI a), some (vI b), some (vI t), some (vI d), some (vI e), some (vI k)] [] h1 r1 (0, 0) := by
  intro M
  induction M using Nat.strongRecOn with
  | ind M ih =>
    intro k h1 r1 hM k0 k1 q1 w1 hi
    have hcur := q1.cur
    refine wq_iload (i := 6) (q := 97) rfl rfl rfl ?_
    refine wq_bipush (n := 99) (q := 99) rfl rfl rfl ?_
    refine wq_icmp_gt (tgt := 138) (q := 102) rfl rfl rfl (fun c99 => ?_) (fun c99 => ?_)
    · skip
      refine wq_aload_n (kk := 0) (q := 139) rfl rfl rfl ?_
      refine wq_bipush (n := 99) (q := 141) rfl rfl rfl ?_
      refine wq_callV (q := 144) (m' := m_Lt_answer) (R' := rm 1) (As := [_]) rfl rfl l_Lt_113 vm_Lt_answer rfl rfl rfl (Or.inl ⟨rfl, Nat.le_of_ble_eq_true rfl⟩) (Nat.le_of_ble_eq_true rfl) (Nat.le_of_ble_eq_true rfl) (Nat.le_refl _) (Nat.le_refl _) (Nat.le_of_ble_eq_true rfl) (Lt_answer_ok _ h1 r1) rfl ?_
      rintro rv h4 r1 ⟨rfl, rfl, rfl⟩ -
      refine wq_iret rfl rfl (Nat.le_refl _) (Nat.le_refl _) ⟨_, rfl, ?_, q1.put 0⟩
      rw [hup_s]
      exact K _ (Or.inr ⟨by omega, by omega, fun j j0 j1 => by rw [← he]; exact hi j j0 (by omega), Or.inl rfl⟩)
    · skip
      refine wq_aload_n (kk := 0) (q := 103) rfl rfl rfl ?_
      refine wq_getF (q := 106) f_Lt_44 rfl rfl (Nat.le_of_ble_eq_true rfl) rfl rfl rfl ?_
      refine wq_iload (i := 4) (q := 108) rfl rfl rfl ?_
      have hV' : NV (nLate (nLate (dN h 0) d (k - 1)) d 1) := by
        rw [nLate_s]; exact nLate_NV hD hd (by omega)
      refine wq_callV (q := 111) (m' := m_Ne_putOff) (R' := rm 3) (As := [_]) rfl rfl l_Lt_309 vm_Ne_putOff rfl rfl rfl (Or.inl ⟨rfl, Nat.le_of_ble_eq_true rfl⟩) (Nat.le_of_ble_eq_true rfl) (Nat.le_of_ble_eq_true rfl) (Nat.le_refl _) (Nat.le_refl _) (Nat.le_of_ble_eq_true rfl) (Ne_putOff_ok (nLate (dN h 0) d (k - 1)) d h1 r1 w1.1 w1.2.1 hV' w1.2.2.1 w1.2.2.2.1 hd) rfl ?_
      rintro rv h2 r1 ⟨rfl, rfl, hl⟩ -
      have ek : k - 1 + 1 = k := by omega
      rw [nLate_s, ek] at hl hV'
      have q2 : qf h r h2 r1 := ⟨q1.1.trans hl.1 (by decide), fun j hj => by rw [hl.1.at 0 j (by decide)]; exact q1.2.1 j hj, q1.2.2.1, q1.2.2.2.1.fr hl.1 (by decide), by rw [hl.2.1.1]; exact hV'.1, by rw [hl.2.1.1]; exact hl.2.2.1.1, q1.2.2.2.2.2.2⟩
      have w2 : netW h2 r1 (nLate (dN h 0) d k) := ⟨w1.1, hV', hl.2⟩
      refine wq_aload_n (kk := 0) (q := 112) rfl rfl rfl ?_
      refine wq_iload_n (kk := 1) (q := 113) rfl rfl rfl ?_
      refine wq_iload_n (kk := 2) (q := 114) rfl rfl rfl ?_
      refine wq_iload_n (kk := 3) (q := 115) rfl rfl rfl ?_
      refine wq_callV (q := 118) (m' := m_Lt_soonestAt) (R' := rm 5) (As := [_, _, _]) rfl rfl l_Lt_264 vm_Lt_soonestAt rfl rfl rfl (Or.inl ⟨rfl, Nat.le_of_ble_eq_true rfl⟩) (Nat.le_of_ble_eq_true rfl) (Nat.le_of_ble_eq_true rfl) (Nat.le_refl _) (Nat.le_refl _) (Nat.le_of_ble_eq_true rfl) (Lt_soonestAt_ok (nLate (dN h 0) d k) a b t h2 r1 w2 ha hb) rfl ?_
      rintro rv h3 r1 ⟨v, rfl, hs, rfl, f3⟩ -
      have q3 := q2.scr f3 (by decide)
      have w3 := w2.fr f3 (by decide)
      have ev := hs.sn hV' hb
      refine wq_iload (i := 5) (q := 120) rfl rfl rfl ?_
      refine wq_icmp_le (tgt := 132) (q := 123) rfl rfl rfl (fun c120 => ?_) (fun c120 => ?_)
      · skip
        refine wq_iinc (i := 6) (n := 1) (q := 135) rfl rfl rfl (Nat.le_of_ble_eq_true rfl) rfl (by first | omega | (simp [hup]; omega)) (by first | omega | (simp [hup]; omega)) ?_
        refine wq_goto (tgt := 95) rfl rfl ?_
        have ek2 : k + 1 - 1 = k := by omega
        refine ih _ (by omega) (k + 1) _ _ rfl (by omega) (by omega) q3 (by rw [ek2]; exact w3) (fun j j0 j1 => ?_)
        by_cases ej : j = k
        · subst ej; omega
        · exact hi j j0 (by omega)
      · skip
        refine wq_aload_n (kk := 0) (q := 124) rfl rfl rfl ?_
        refine wq_iload (i := 6) (q := 126) rfl rfl rfl ?_
        refine wq_iconst (n := 1) (q := 127) rfl rfl rfl ?_
        refine wq_isub (q := 128) rfl rfl (by first | omega | (simp [hup]; omega)) (by first | omega | (simp [hup]; omega)) ?_
        refine wq_callV (q := 131) (m' := m_Lt_answer) (R' := rm 1) (As := [_]) rfl rfl l_Lt_113 vm_Lt_answer rfl rfl rfl (Or.inl ⟨rfl, Nat.le_of_ble_eq_true rfl⟩) (Nat.le_of_ble_eq_true rfl) (Nat.le_of_ble_eq_true rfl) (Nat.le_refl _) (Nat.le_refl _) (Nat.le_of_ble_eq_true rfl) (Lt_answer_ok _ h3 r1) rfl ?_
        rintro rv h4 r1 ⟨rfl, rfl, rfl⟩ -
        refine wq_iret rfl rfl (Nat.le_refl _) (Nat.le_refl _) ⟨_, rfl, ?_, q3.put 0⟩
        rw [hup_s]
        exact K _ (Or.inr ⟨by omega, by omega, fun j j0 j1 => by rw [← he]; exact hi j j0 (by omega), Or.inr (by rw [ek, ← he, ← ev]; omega)⟩)
set_option maxRecDepth 100000 in
set_option maxHeartbeats 1000000 in
theorem Lt_slack_ok (a b t d : Int) (h : mH) (r : mR) (hI : IQ h r) : Meets true (rm 6) m_Lt_slack [vR 0, vI a, vI b, vI t, vI d] h r (qP h r (Ans (kD (h 2 1) a b (bI (isT t)) (h 2 4) d) (fun v tr => tr = 0 ∧ Sla (dN h 0) a b t d v))) := by
  have hcur := hI.2.2.2.1
  have q0 := qf.rf hI
  have hV := dN_V hI.1 0
  refine ⟨ok_Lt_slack, Nat.le_of_ble_eq_true rfl, ?_⟩
  refine wq_aload_n (kk := 0) (q := 1) rfl rfl rfl ?_
  refine wq_aload_n (kk := 0) (q := 2) rfl rfl rfl ?_
  refine wq_iload_n (kk := 1) (q := 3) rfl rfl rfl ?_
  refine wq_iload_n (kk := 2) (q := 4) rfl rfl rfl ?_
  refine wq_iload_n (kk := 3) (q := 5) rfl rfl rfl ?_
  refine wq_iload (i := 4) (q := 7) rfl rfl rfl ?_
  refine wq_callV (q := 10) (m' := m_Lt_lookAtHanging) (R' := rm 3) (As := [_, _, _, _]) rfl rfl l_Lt_302 vm_Lt_lookAtHanging rfl rfl rfl (Or.inl ⟨rfl, Nat.le_of_ble_eq_true rfl⟩) (Nat.le_of_ble_eq_true rfl) (Nat.le_of_ble_eq_true rfl) (Nat.le_refl _) (Nat.le_refl _) (Nat.le_of_ble_eq_true rfl) (Lt_lookAtHanging_ok a b t d h r hcur) rfl ?_
  rintro rv h r ⟨rfl, rfl, rfl⟩ -
  generalize hk : kD (h 2 1) a b (bI (isT t)) (h 2 4) d = k
  refine wq_callV (q := 13) (m' := m_Lt_isRefused) (R' := rm 1) (As := [_]) rfl rfl l_Lt_240 vm_Lt_isRefused rfl rfl rfl (Or.inl ⟨rfl, Nat.le_of_ble_eq_true rfl⟩) (Nat.le_of_ble_eq_true rfl) (Nat.le_of_ble_eq_true rfl) (Nat.le_refl _) (Nat.le_refl _) (Nat.le_of_ble_eq_true rfl) (Lt_isRefused_ok k h r) rfl ?_
  rintro rv h1 r ⟨rfl, rfl, rfl⟩ -
  have q1 := q0.put k
  refine wq_cif_eq (tgt := 18) (q := 16) rfl rfl rfl (fun c13 => ?_) (fun c13 => ?_)
  · skip
    refine wq_aload_n (kk := 0) (q := 19) rfl rfl rfl ?_
    refine wq_getF (q := 22) f_Lt_44 rfl rfl (Nat.le_of_ble_eq_true rfl) rfl rfl rfl ?_
    refine wq_aload_n (kk := 0) (q := 23) rfl rfl rfl ?_
    refine wq_getR (q := 26) f_Lt_16 rfl rfl (Or.inl ⟨rfl, Nat.le_of_ble_eq_true rfl⟩) hcur rfl rfl ?_
    refine wq_callV (q := 29) (m' := m_Ne_load) (R' := rm 4) (As := [_]) rfl rfl l_Lt_184 vm_Ne_load rfl rfl rfl (Or.inl ⟨rfl, Nat.le_of_ble_eq_true rfl⟩) (Nat.le_of_ble_eq_true rfl) (Nat.le_of_ble_eq_true rfl) (Nat.le_refl _) (Nat.le_refl _) (Nat.le_of_ble_eq_true rfl) (Lt_load q1) rfl ?_
    rintro rv h2 r2 ⟨rfl, q2, w2⟩ -
    have k0 : k = 0 := by simpa using c13
    subst k0
    have hab := kD_0 hk
    have ht := bI_ne hab.2.2
    have hdd := q2.DV.2.2.1 d hab.1.1 (by rw [q2.at2 4]; exact hab.1.2)
    have hN := hI.1.1
    refine wq_aload_n (kk := 0) (q := 30) rfl rfl rfl ?_
    refine wq_iload_n (kk := 1) (q := 31) rfl rfl rfl ?_
    refine wq_iload_n (kk := 2) (q := 32) rfl rfl rfl ?_
    refine wq_iload_n (kk := 3) (q := 33) rfl rfl rfl ?_
    refine wq_callV (q := 36) (m' := m_Lt_soonestAt) (R' := rm 5) (As := [_, _, _]) rfl rfl l_Lt_264 vm_Lt_soonestAt rfl rfl rfl (Or.inl ⟨rfl, Nat.le_of_ble_eq_true rfl⟩) (Nat.le_of_ble_eq_true rfl) (Nat.le_of_ble_eq_true rfl) (Nat.le_refl _) (Nat.le_refl _) (Nat.le_of_ble_eq_true rfl) (Lt_soonestAt_ok (dN h 0) a b t h2 r2 w2 hab.2.1.1 hab.2.1.2) rfl ?_
    rintro rv h3 r2 ⟨v, rfl, hs, rfl, f3⟩ -
    have q3 := q2.scr f3 (by decide)
    have w3 := w2.fr f3 (by decide)
    have ev := hs.sn hV hab.2.1.2
    have hr := sn_r hV (a := a) (b := b) ht
    have h12 : h3 12 d = h2 12 d := f3.at 12 d (by decide)
    refine wq_istore (i := 5) (q := 38) rfl rfl (Nat.le_of_ble_eq_true rfl) rfl ?_
    refine wq_iload (i := 5) (q := 40) rfl rfl rfl ?_
    refine wq_ldcw (n := 1000000) (q := 43) k_Lt_257 rfl rfl rfl ?_
    refine wq_icmp_ne (tgt := 53) (q := 46) rfl rfl rfl (fun c43 => ?_) (fun c43 => ?_)
    · skip
      refine wq_aload_n (kk := 0) (q := 54) rfl rfl rfl ?_
      refine wq_getF (q := 57) f_Lt_44 rfl rfl (Nat.le_of_ble_eq_true rfl) rfl rfl rfl ?_
      refine wq_iload (i := 4) (q := 59) rfl rfl rfl ?_
      refine wq_iconst (n := 0) (q := 60) rfl rfl rfl ?_
      refine wq_callV (q := 63) (m' := m_Ne_setRuns) (R' := rm 1) (As := [_, _]) rfl rfl l_Lt_305 vm_Ne_setRuns rfl rfl rfl (Or.inl ⟨rfl, Nat.le_of_ble_eq_true rfl⟩) (Nat.le_of_ble_eq_true rfl) (Nat.le_of_ble_eq_true rfl) (Nat.le_refl _) (Nat.le_refl _) (Nat.le_of_ble_eq_true rfl) (Ne_setRuns_ok d 0 0 h3 r2 w3.1 (by omega) (Or.inl rfl) (by omega) rfl) rfl ?_
      rintro rv h4 r2 ⟨rfl, rfl, rfl⟩ -
      have q4 := q3.scr (S := [34]) (h2 := hup h3 34 d 0) (fr.rf.up (by decide)) (by decide)
      have w4 := w3.run (d := d) (v := 0) (Or.inl rfl)
      refine wq_aload_n (kk := 0) (q := 64) rfl rfl rfl ?_
      refine wq_iload_n (kk := 1) (q := 65) rfl rfl rfl ?_
      refine wq_iload_n (kk := 2) (q := 66) rfl rfl rfl ?_
      refine wq_iload_n (kk := 3) (q := 67) rfl rfl rfl ?_
      refine wq_callV (q := 70) (m' := m_Lt_soonestAt) (R' := rm 5) (As := [_, _, _]) rfl rfl l_Lt_264 vm_Lt_soonestAt rfl rfl rfl (Or.inl ⟨rfl, Nat.le_of_ble_eq_true rfl⟩) (Nat.le_of_ble_eq_true rfl) (Nat.le_of_ble_eq_true rfl) (Nat.le_refl _) (Nat.le_refl _) (Nat.le_of_ble_eq_true rfl) (Lt_soonestAt_ok (nRun (dN h 0) d 0) a b t _ r2 w4 hab.2.1.1 hab.2.1.2) rfl ?_
      rintro rv h5 r2 ⟨v2, rfl, hs5, rfl, f5⟩ -
      have q5 := q4.scr f5 (by decide)
      have w5 := w4.fr f5 (by decide)
      have ev5 := hs5.sn w4.2.1 hab.2.1.2
      have h12' : h5 12 d = h2 12 d := by rw [f5.at 12 d (by decide), hup_i (by decide)]; exact h12
      have h12'' : h2 12 d = h 12 d := q2.1.at 12 d (by decide)
      refine wq_iload (i := 5) (q := 72) rfl rfl rfl ?_
      refine wq_icmp_ne (tgt := 82) (q := 75) rfl rfl rfl (fun c72 => ?_) (fun c72 => ?_)
      · skip
        refine wq_aload_n (kk := 0) (q := 83) rfl rfl rfl ?_
        refine wq_getF (q := 86) f_Lt_44 rfl rfl (Nat.le_of_ble_eq_true rfl) rfl rfl rfl ?_
        refine wq_iload (i := 4) (q := 88) rfl rfl rfl ?_
        refine wq_iconst (n := 1) (q := 89) rfl rfl rfl ?_
        refine wq_callV (q := 92) (m' := m_Ne_setRuns) (R' := rm 1) (As := [_, _]) rfl rfl l_Lt_305 vm_Ne_setRuns rfl rfl rfl (Or.inl ⟨rfl, Nat.le_of_ble_eq_true rfl⟩) (Nat.le_of_ble_eq_true rfl) (Nat.le_of_ble_eq_true rfl) (Nat.le_refl _) (Nat.le_refl _) (Nat.le_of_ble_eq_true rfl) (Ne_setRuns_ok d 1 (1 - h 12 d) h5 r2 w5.1 (by omega) (Or.inr rfl) (by omega) (by rw [if_neg (by omega)]; omega)) rfl ?_
        rintro rv h6 r2 ⟨rfl, rfl, rfl⟩ -
        have q6 := q5.scr (S := [34]) (h2 := hup h5 34 d (1 - h 12 d)) (fr.rf.up (by decide)) (by decide)
        have w6 := w5.run (d := d) (v := 1 - h 12 d) (by omega)
        have e1 : nRun (nRun (dN h 0) d 0) d (1 - h 12 d) = nLate (dN h 0) d (1 - 1) := by
          show nRun (nRun (dN h 0) d 0) d (rn (dN h 0) d) = nLate (dN h 0) d 0
          rw [nRun_back, nLate_0]
        rw [e1] at w6
        refine wq_iconst (n := 1) (q := 93) rfl rfl rfl ?_
        refine wq_istore (i := 6) (q := 95) rfl rfl (Nat.le_of_ble_eq_true rfl) rfl ?_
        exact Lt_slackL a b t d v h r hI.1 ht hab.2.1.1 hab.2.1.2 hab.1 ev c43 _ (fun v hv => Or.inr ⟨rfl, rfl, hv⟩) _ 1 _ _ rfl (by omega) (by omega) q6 w6 (fun j j0 j1 => by omega)
      · skip
        refine wq_aload_n (kk := 0) (q := 76) rfl rfl rfl ?_
        refine wq_bipush (n := 99) (q := 78) rfl rfl rfl ?_
        refine wq_callV (q := 81) (m' := m_Lt_answer) (R' := rm 1) (As := [_]) rfl rfl l_Lt_113 vm_Lt_answer rfl rfl rfl (Or.inl ⟨rfl, Nat.le_of_ble_eq_true rfl⟩) (Nat.le_of_ble_eq_true rfl) (Nat.le_of_ble_eq_true rfl) (Nat.le_refl _) (Nat.le_refl _) (Nat.le_of_ble_eq_true rfl) (Lt_answer_ok _ h5 r2) rfl ?_
        rintro rv h6 r2 ⟨rfl, rfl, rfl⟩ -
        refine wq_iret rfl rfl (Nat.le_refl _) (Nat.le_refl _) ⟨_, rfl, Or.inr ⟨rfl, hup_s, Or.inr ⟨by omega, by omega, fun k k0 k1 => ?_, Or.inl rfl⟩⟩, q5.put 0⟩
        have := sn_late hV (nLate_NV hI.1 hab.1 (k := k) (by omega)) a t b
        omega
    · skip
      refine wq_aload_n (kk := 0) (q := 47) rfl rfl rfl ?_
      refine wq_bipush (n := -2) (q := 49) rfl rfl rfl ?_
      refine wq_callV (q := 52) (m' := m_Lt_answer) (R' := rm 1) (As := [_]) rfl rfl l_Lt_113 vm_Lt_answer rfl rfl rfl (Or.inl ⟨rfl, Nat.le_of_ble_eq_true rfl⟩) (Nat.le_of_ble_eq_true rfl) (Nat.le_of_ble_eq_true rfl) (Nat.le_refl _) (Nat.le_refl _) (Nat.le_of_ble_eq_true rfl) (Lt_answer_ok _ h3 r2) rfl ?_
      rintro rv h4 r1 ⟨rfl, rfl, rfl⟩ -
      exact wq_iret rfl rfl (Nat.le_refl _) (Nat.le_refl _) ⟨_, rfl, Or.inr ⟨rfl, hup_s, Or.inl ⟨by omega, rfl⟩⟩, q3.put 0⟩
  · skip
    refine wq_iconst (n := -1) (q := 17) rfl rfl rfl ?_
    exact wq_iret rfl rfl (Nat.le_refl _) (Nat.le_refl _) ⟨_, rfl, Or.inl ⟨c13, rfl, hup_s⟩, q1⟩

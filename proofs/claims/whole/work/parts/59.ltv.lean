theorem kX_n {n a b g : Int} (h : ¬ kU n a b) : kX n a b g = 1 := by unfold kX; rw [if_neg h]
theorem kX_y {n a b g : Int} (h : kU n a b) (hg : g ≠ 0) : kX n a b g = 0 := by unfold kX; rw [if_pos h, if_neg hg]
theorem kX_b {n a b g : Int} (h : kU n a b) (hg : g = 0) : kX n a b g = 2 := by unfold kX; rw [if_pos h, if_pos hg]
set_option maxRecDepth 100000 in
set_option maxHeartbeats 1000000 in
theorem Lt_latest_ok (a b y : Int) (h : mH) (r : mR) (hI : IQ h r) : Meets true (rm 6) m_Lt_latest [vR 0, vI a, vI b, vI y] h r (qP h r (Ans (kP (h 2 1) a b (bI (isT y))) (Lq (dN h 0) a b y))) := by
  have hcur := hI.2.2.2.1
  have q0 := qf.rf hI
  refine ⟨ok_Lt_latest, Nat.le_of_ble_eq_true rfl, ?_⟩
  refine wq_aload_n (kk := 0) (q := 1) rfl rfl rfl ?_
  refine wq_aload_n (kk := 0) (q := 2) rfl rfl rfl ?_
  refine wq_iload_n (kk := 1) (q := 3) rfl rfl rfl ?_
  refine wq_iload_n (kk := 2) (q := 4) rfl rfl rfl ?_
  refine wq_iload_n (kk := 3) (q := 5) rfl rfl rfl ?_
  refine wq_callS (q := 8) (m' := m_Lt_isTime) (R' := rm 1) (As := [_]) rfl rfl l_Lt_233 sm_Lt_isTime rfl (Nat.le_of_ble_eq_true rfl) (Nat.le_of_ble_eq_true rfl) (Nat.le_refl _) (Nat.le_refl _) (Nat.le_of_ble_eq_true rfl) (Lt_isTime_ok y h r) rfl ?_
  rintro rv h r ⟨rfl, rfl, rfl⟩ -
  refine wq_callV (q := 11) (m' := m_Lt_lookAtPair) (R' := rm 2) (As := [_, _, _]) rfl rfl l_Lt_236 vm_Lt_lookAtPair rfl rfl rfl (Or.inl ⟨rfl, Nat.le_of_ble_eq_true rfl⟩) (Nat.le_of_ble_eq_true rfl) (Nat.le_of_ble_eq_true rfl) (Nat.le_refl _) (Nat.le_refl _) (Nat.le_of_ble_eq_true rfl) (Lt_lookAtPair_ok a b _ h r hcur) rfl ?_
  rintro rv h r ⟨rfl, rfl, rfl⟩ -
  generalize hk : kP (h 2 1) a b (bI (isT y)) = k
  refine wq_callV (q := 14) (m' := m_Lt_isRefused) (R' := rm 1) (As := [_]) rfl rfl l_Lt_240 vm_Lt_isRefused rfl rfl rfl (Or.inl ⟨rfl, Nat.le_of_ble_eq_true rfl⟩) (Nat.le_of_ble_eq_true rfl) (Nat.le_of_ble_eq_true rfl) (Nat.le_refl _) (Nat.le_refl _) (Nat.le_of_ble_eq_true rfl) (Lt_isRefused_ok k h r) rfl ?_
  rintro rv h1 r ⟨rfl, rfl, rfl⟩ -
  have q1 := q0.put k
  refine wq_cif_eq (tgt := 19) (q := 17) rfl rfl rfl (fun c14 => ?_) (fun c14 => ?_)
  · skip
    have k0 : k = 0 := by simpa using c14
    subst k0
    have hab := kP_0 hk
    refine wq_iload_n (kk := 1) (q := 20) rfl rfl rfl ?_
    refine wq_iload_n (kk := 2) (q := 21) rfl rfl rfl ?_
    refine wq_icmp_ne (tgt := 30) (q := 24) rfl rfl rfl (fun c21 => ?_) (fun c21 => ?_)
    · skip
      refine wq_aload_n (kk := 0) (q := 31) rfl rfl rfl ?_
      refine wq_iload_n (kk := 1) (q := 32) rfl rfl rfl ?_
      refine wq_iload_n (kk := 2) (q := 33) rfl rfl rfl ?_
      refine wq_callV (q := 36) (m' := m_Lt_collectSteps) (R' := rm 5) (As := [_, _]) rfl rfl l_Lt_243 vm_Lt_collectSteps rfl rfl rfl (Or.inl ⟨rfl, Nat.le_of_ble_eq_true rfl⟩) (Nat.le_of_ble_eq_true rfl) (Nat.le_of_ble_eq_true rfl) (Nat.le_refl _) (Nat.le_refl _) (Nat.le_of_ble_eq_true rfl) (Lt_collectSteps_ok a b h r _ r q1 hab.1.1) rfl ?_
      rintro rv h3 r3 ⟨rfl, q3, w3, hs⟩ -
      refine wq_aload_n (kk := 0) (q := 37) rfl rfl rfl ?_
      refine wq_aload_n (kk := 0) (q := 38) rfl rfl rfl ?_
      refine wq_getF (q := 41) f_Lt_68 rfl rfl (Nat.le_of_ble_eq_true rfl) rfl rfl rfl ?_
      refine wq_iload_n (kk := 3) (q := 42) rfl rfl rfl ?_
      refine wq_callV (q := 45) (m' := m_St_lastStartFor) (R' := rm 1) (As := [_]) rfl rfl l_Lt_247 vm_St_lastStartFor rfl rfl rfl (Or.inl ⟨rfl, Nat.le_of_ble_eq_true rfl⟩) (Nat.le_of_ble_eq_true rfl) (Nat.le_of_ble_eq_true rfl) (Nat.le_refl _) (Nat.le_refl _) (Nat.le_of_ble_eq_true rfl) (St_last_ok (dN h 0) a _ _ y h3 r3 hs.2.1 hs.2.2) rfl ?_
      rintro rv h3 r3 ⟨v, rfl, rfl, rfl, hv⟩ -
      refine wq_callV (q := 48) (m' := m_Lt_answer) (R' := rm 1) (As := [_]) rfl rfl l_Lt_113 vm_Lt_answer rfl rfl rfl (Or.inl ⟨rfl, Nat.le_of_ble_eq_true rfl⟩) (Nat.le_of_ble_eq_true rfl) (Nat.le_of_ble_eq_true rfl) (Nat.le_refl _) (Nat.le_refl _) (Nat.le_of_ble_eq_true rfl) (Lt_answer_ok _ h3 r3) rfl ?_
      rintro rv h4 r3 ⟨rfl, rfl, rfl⟩ -
      exact wq_iret rfl rfl (Nat.le_refl _) (Nat.le_refl _) ⟨_, rfl, Or.inr ⟨rfl, hup_s, Or.inr ⟨by omega, _, _, _, _, _, hs.1.1, by omega, hv⟩⟩, q3.put 0⟩
    · skip
      refine wq_aload_n (kk := 0) (q := 25) rfl rfl rfl ?_
      refine wq_iload_n (kk := 3) (q := 26) rfl rfl rfl ?_
      refine wq_callV (q := 29) (m' := m_Lt_answer) (R' := rm 1) (As := [_]) rfl rfl l_Lt_113 vm_Lt_answer rfl rfl rfl (Or.inl ⟨rfl, Nat.le_of_ble_eq_true rfl⟩) (Nat.le_of_ble_eq_true rfl) (Nat.le_of_ble_eq_true rfl) (Nat.le_refl _) (Nat.le_refl _) (Nat.le_of_ble_eq_true rfl) (Lt_answer_ok _ _ r) rfl ?_
      rintro rv h4 r ⟨rfl, rfl, rfl⟩ -
      exact wq_iret rfl rfl (Nat.le_refl _) (Nat.le_refl _) ⟨_, rfl, Or.inr ⟨rfl, hup_s, Or.inl ⟨by omega, rfl⟩⟩, q1.put 0⟩
  · skip
    refine wq_iconst (n := -1) (q := 18) rfl rfl rfl ?_
    exact wq_iret rfl rfl (Nat.le_refl _) (Nat.le_refl _) ⟨_, rfl, Or.inl ⟨c14, rfl, hup_s⟩, q1⟩
set_option maxRecDepth 100000 in
set_option maxHeartbeats 1000000 in
theorem Lt_steps_ok (a b : Int) (h : mH) (r : mR) (hI : IQ h r) : Meets true (rm 6) m_Lt_steps [vR 0, vI a, vI b] h r (qP h r (Ans (kX (h 2 1) a b 1) (Sm (dN h 0) a b))) := by
  have hcur := hI.2.2.2.1
  have q0 := qf.rf hI
  have hV := dN_V hI.1 0
  refine ⟨ok_Lt_steps, Nat.le_of_ble_eq_true rfl, ?_⟩
  refine wq_aload_n (kk := 0) (q := 1) rfl rfl rfl ?_
  refine wq_iload_n (kk := 1) (q := 2) rfl rfl rfl ?_
  refine wq_iload_n (kk := 2) (q := 3) rfl rfl rfl ?_
  refine wq_callV (q := 6) (m' := m_Lt_hasUnlikeSpots) (R' := rm 2) (As := [_, _]) rfl rfl l_Lt_267 vm_Lt_hasUnlikeSpots rfl rfl rfl (Or.inl ⟨rfl, Nat.le_of_ble_eq_true rfl⟩) (Nat.le_of_ble_eq_true rfl) (Nat.le_of_ble_eq_true rfl) (Nat.le_refl _) (Nat.le_refl _) (Nat.le_of_ble_eq_true rfl) (Lt_hasUnlikeSpots_ok a b h r hcur) rfl ?_
  rintro rv h r ⟨rfl, rfl, rfl⟩ -
  refine wq_cif_ne (tgt := 15) (q := 9) rfl rfl rfl (fun c6 => ?_) (fun c6 => ?_)
  · skip
    refine wq_aload_n (kk := 0) (q := 16) rfl rfl rfl ?_
    refine wq_iload_n (kk := 1) (q := 17) rfl rfl rfl ?_
    refine wq_iload_n (kk := 2) (q := 18) rfl rfl rfl ?_
    refine wq_callV (q := 21) (m' := m_Lt_collectSteps) (R' := rm 5) (As := [_, _]) rfl rfl l_Lt_243 vm_Lt_collectSteps rfl rfl rfl (Or.inl ⟨rfl, Nat.le_of_ble_eq_true rfl⟩) (Nat.le_of_ble_eq_true rfl) (Nat.le_of_ble_eq_true rfl) (Nat.le_refl _) (Nat.le_refl _) (Nat.le_of_ble_eq_true rfl) (Lt_collectSteps_ok a b h r h r q0 c6.2.1) rfl ?_
    rintro rv h3 r3 ⟨rfl, q3, w3, hs⟩ -
    have hb := hs.b hV
    refine wq_aload_n (kk := 0) (q := 22) rfl rfl rfl ?_
    refine wq_aload_n (kk := 0) (q := 23) rfl rfl rfl ?_
    refine wq_getF (q := 26) f_Lt_68 rfl rfl (Nat.le_of_ble_eq_true rfl) rfl rfl rfl ?_
    refine wq_getI (kz := 0) (q := 29) rfl f_Lt_271 rfl rfl (Or.inl ⟨rfl, Nat.le_of_ble_eq_true rfl⟩) rfl rfl ?_
    refine wq_callV (q := 32) (m' := m_Lt_answer) (R' := rm 1) (As := [_]) rfl rfl l_Lt_113 vm_Lt_answer rfl rfl rfl (Or.inl ⟨rfl, Nat.le_of_ble_eq_true rfl⟩) (Nat.le_of_ble_eq_true rfl) (Nat.le_of_ble_eq_true rfl) (Nat.le_refl _) (Nat.le_refl _) (Nat.le_of_ble_eq_true rfl) (Lt_answer_ok _ h3 r3) rfl ?_
    rintro rv h4 r3 ⟨rfl, rfl, rfl⟩ -
    exact wq_iret rfl rfl (Nat.le_refl _) (Nat.le_refl _) ⟨_, rfl, Or.inr ⟨kX_y c6 (by omega), hup_s, _, _, _, hs.s⟩, q3.put 0⟩
  · skip
    refine wq_aload_n (kk := 0) (q := 10) rfl rfl rfl ?_
    refine wq_iconst (n := 1) (q := 11) rfl rfl rfl ?_
    refine wq_callV (q := 14) (m' := m_Lt_refuse) (R' := rm 1) (As := [_]) rfl rfl l_Lt_87 vm_Lt_refuse rfl rfl rfl (Or.inl ⟨rfl, Nat.le_of_ble_eq_true rfl⟩) (Nat.le_of_ble_eq_true rfl) (Nat.le_of_ble_eq_true rfl) (Nat.le_refl _) (Nat.le_refl _) (Nat.le_of_ble_eq_true rfl) (Lt_refuse_ok 1 h r) rfl ?_
    rintro rv h4 r ⟨rfl, rfl, rfl⟩ -
    exact wq_iret rfl rfl (Nat.le_refl _) (Nat.le_refl _) ⟨_, rfl, Or.inl ⟨by rw [kX_n c6]; omega, rfl, by rw [kX_n c6]; exact hup_s⟩, q0.put 1⟩
set_option maxRecDepth 100000 in
set_option maxHeartbeats 1000000 in
theorem Lt_quickest_ok (a b : Int) (h : mH) (r : mR) (hI : IQ h r) : Meets true (rm 6) m_Lt_quickest [vR 0, vI a, vI b] h r (qP h r (Ans (kX (h 2 1) a b 1) (Sk2 (dN h 0) a b))) := by
  have hcur := hI.2.2.2.1
  have q0 := qf.rf hI
  have hV := dN_V hI.1 0
  refine ⟨ok_Lt_quickest, Nat.le_of_ble_eq_true rfl, ?_⟩
  refine wq_aload_n (kk := 0) (q := 1) rfl rfl rfl ?_
  refine wq_iload_n (kk := 1) (q := 2) rfl rfl rfl ?_
  refine wq_iload_n (kk := 2) (q := 3) rfl rfl rfl ?_
  refine wq_callV (q := 6) (m' := m_Lt_hasUnlikeSpots) (R' := rm 2) (As := [_, _]) rfl rfl l_Lt_267 vm_Lt_hasUnlikeSpots rfl rfl rfl (Or.inl ⟨rfl, Nat.le_of_ble_eq_true rfl⟩) (Nat.le_of_ble_eq_true rfl) (Nat.le_of_ble_eq_true rfl) (Nat.le_refl _) (Nat.le_refl _) (Nat.le_of_ble_eq_true rfl) (Lt_hasUnlikeSpots_ok a b h r hcur) rfl ?_
  rintro rv h r ⟨rfl, rfl, rfl⟩ -
  refine wq_cif_ne (tgt := 15) (q := 9) rfl rfl rfl (fun c6 => ?_) (fun c6 => ?_)
  · skip
    refine wq_aload_n (kk := 0) (q := 16) rfl rfl rfl ?_
    refine wq_iload_n (kk := 1) (q := 17) rfl rfl rfl ?_
    refine wq_iload_n (kk := 2) (q := 18) rfl rfl rfl ?_
    refine wq_callV (q := 21) (m' := m_Lt_collectSteps) (R' := rm 5) (As := [_, _]) rfl rfl l_Lt_243 vm_Lt_collectSteps rfl rfl rfl (Or.inl ⟨rfl, Nat.le_of_ble_eq_true rfl⟩) (Nat.le_of_ble_eq_true rfl) (Nat.le_of_ble_eq_true rfl) (Nat.le_refl _) (Nat.le_refl _) (Nat.le_of_ble_eq_true rfl) (Lt_collectSteps_ok a b h r h r q0 c6.2.1) rfl ?_
    rintro rv h3 r3 ⟨rfl, q3, w3, hs⟩ -
    have hb := hs.b hV
    refine wq_aload_n (kk := 0) (q := 22) rfl rfl rfl ?_
    refine wq_aload_n (kk := 0) (q := 23) rfl rfl rfl ?_
    refine wq_getF (q := 26) f_Lt_68 rfl rfl (Nat.le_of_ble_eq_true rfl) rfl rfl rfl ?_
    refine wq_callV (q := 29) (m' := m_St_leastTicks) (R' := rm 1) (As := []) rfl rfl l_Lt_275 vm_St_leastTicks rfl rfl rfl (Or.inl ⟨rfl, Nat.le_of_ble_eq_true rfl⟩) (Nat.le_of_ble_eq_true rfl) (Nat.le_of_ble_eq_true rfl) (Nat.le_refl _) (Nat.le_refl _) (Nat.le_of_ble_eq_true rfl) (St_least_ok h3 r3 hb.1 hb.2) rfl ?_
    rintro rv h3 r3 ⟨v, rfl, rfl, rfl, hv⟩ -
    refine wq_callV (q := 32) (m' := m_Lt_answer) (R' := rm 1) (As := [_]) rfl rfl l_Lt_113 vm_Lt_answer rfl rfl rfl (Or.inl ⟨rfl, Nat.le_of_ble_eq_true rfl⟩) (Nat.le_of_ble_eq_true rfl) (Nat.le_of_ble_eq_true rfl) (Nat.le_refl _) (Nat.le_refl _) (Nat.le_of_ble_eq_true rfl) (Lt_answer_ok _ h3 r3) rfl ?_
    rintro rv h4 r3 ⟨rfl, rfl, rfl⟩ -
    exact wq_iret rfl rfl (Nat.le_refl _) (Nat.le_refl _) ⟨_, rfl, Or.inr ⟨kX_y c6 (by omega), hup_s, _, _, _, _, hs.s, hv.rev⟩, q3.put 0⟩
  · skip
    refine wq_aload_n (kk := 0) (q := 10) rfl rfl rfl ?_
    refine wq_iconst (n := 1) (q := 11) rfl rfl rfl ?_
    refine wq_callV (q := 14) (m' := m_Lt_refuse) (R' := rm 1) (As := [_]) rfl rfl l_Lt_87 vm_Lt_refuse rfl rfl rfl (Or.inl ⟨rfl, Nat.le_of_ble_eq_true rfl⟩) (Nat.le_of_ble_eq_true rfl) (Nat.le_of_ble_eq_true rfl) (Nat.le_refl _) (Nat.le_refl _) (Nat.le_of_ble_eq_true rfl) (Lt_refuse_ok 1 h r) rfl ?_
    rintro rv h4 r ⟨rfl, rfl, rfl⟩ -
    exact wq_iret rfl rfl (Nat.le_refl _) (Nat.le_refl _) ⟨_, rfl, Or.inl ⟨by rw [kX_n c6]; omega, rfl, by rw [kX_n c6]; exact hup_s⟩, q0.put 1⟩
set_option maxRecDepth 100000 in
set_option maxHeartbeats 1000000 in
theorem Lt_spent_ok (a b y z : Int) (h : mH) (r : mR) (hI : IQ h r) : Meets true (rm 6) m_Lt_spent [vR 0, vI a, vI b, vI y, vI z] h r (qP h r (Ans (kX (h 2 1) a b (bI (isT y ∧ isT z ∧ y ≤ z))) (Sq2 (dN h 0) a b y z))) := by
  have hcur := hI.2.2.2.1
  have q0 := qf.rf hI
  have hV := dN_V hI.1 0
  refine ⟨ok_Lt_spent, Nat.le_of_ble_eq_true rfl, ?_⟩
  refine wq_aload_n (kk := 0) (q := 1) rfl rfl rfl ?_
  refine wq_iload_n (kk := 1) (q := 2) rfl rfl rfl ?_
  refine wq_iload_n (kk := 2) (q := 3) rfl rfl rfl ?_
  refine wq_callV (q := 6) (m' := m_Lt_hasUnlikeSpots) (R' := rm 2) (As := [_, _]) rfl rfl l_Lt_267 vm_Lt_hasUnlikeSpots rfl rfl rfl (Or.inl ⟨rfl, Nat.le_of_ble_eq_true rfl⟩) (Nat.le_of_ble_eq_true rfl) (Nat.le_of_ble_eq_true rfl) (Nat.le_refl _) (Nat.le_refl _) (Nat.le_of_ble_eq_true rfl) (Lt_hasUnlikeSpots_ok a b h r hcur) rfl ?_
  rintro rv h r ⟨rfl, rfl, rfl⟩ -
  refine wq_cif_ne (tgt := 15) (q := 9) rfl rfl rfl (fun c6 => ?_) (fun c6 => ?_)
  · skip
    refine wq_iload_n (kk := 3) (q := 16) rfl rfl rfl ?_
    refine wq_callS (q := 19) (m' := m_Lt_isTime) (R' := rm 1) (As := [_]) rfl rfl l_Lt_233 sm_Lt_isTime rfl (Nat.le_of_ble_eq_true rfl) (Nat.le_of_ble_eq_true rfl) (Nat.le_refl _) (Nat.le_refl _) (Nat.le_of_ble_eq_true rfl) (Lt_isTime_ok y h r) rfl ?_
    rintro rv h r ⟨rfl, rfl, rfl⟩ -
    refine wq_cif_eq (tgt := 36) (q := 22) rfl rfl rfl (fun c19 => ?_) (fun c19 => ?_)
    · skip
      refine wq_aload_n (kk := 0) (q := 37) rfl rfl rfl ?_
      refine wq_iconst (n := 2) (q := 38) rfl rfl rfl ?_
      refine wq_callV (q := 41) (m' := m_Lt_refuse) (R' := rm 1) (As := [_]) rfl rfl l_Lt_87 vm_Lt_refuse rfl rfl rfl (Or.inl ⟨rfl, Nat.le_of_ble_eq_true rfl⟩) (Nat.le_of_ble_eq_true rfl) (Nat.le_of_ble_eq_true rfl) (Nat.le_refl _) (Nat.le_refl _) (Nat.le_of_ble_eq_true rfl) (Lt_refuse_ok 2 h r) rfl ?_
      rintro rv h4 r ⟨rfl, rfl, rfl⟩ -
      have e := kX_b c6 (bI_f (P := isT y ∧ isT z ∧ y ≤ z) (by omega))
      exact wq_iret rfl rfl (Nat.le_refl _) (Nat.le_refl _) ⟨_, rfl, Or.inl ⟨by rw [e]; omega, rfl, by rw [e]; exact hup_s⟩, q0.put 2⟩
    · skip
      refine wq_iload (i := 4) (q := 24) rfl rfl rfl ?_
      refine wq_callS (q := 27) (m' := m_Lt_isTime) (R' := rm 1) (As := [_]) rfl rfl l_Lt_233 sm_Lt_isTime rfl (Nat.le_of_ble_eq_true rfl) (Nat.le_of_ble_eq_true rfl) (Nat.le_refl _) (Nat.le_refl _) (Nat.le_of_ble_eq_true rfl) (Lt_isTime_ok z h r) rfl ?_
      rintro rv h r ⟨rfl, rfl, rfl⟩ -
      refine wq_cif_eq (tgt := 36) (q := 30) rfl rfl rfl (fun c27 => ?_) (fun c27 => ?_)
      · skip
        refine wq_aload_n (kk := 0) (q := 37) rfl rfl rfl ?_
        refine wq_iconst (n := 2) (q := 38) rfl rfl rfl ?_
        refine wq_callV (q := 41) (m' := m_Lt_refuse) (R' := rm 1) (As := [_]) rfl rfl l_Lt_87 vm_Lt_refuse rfl rfl rfl (Or.inl ⟨rfl, Nat.le_of_ble_eq_true rfl⟩) (Nat.le_of_ble_eq_true rfl) (Nat.le_of_ble_eq_true rfl) (Nat.le_refl _) (Nat.le_refl _) (Nat.le_of_ble_eq_true rfl) (Lt_refuse_ok 2 h r) rfl ?_
        rintro rv h4 r ⟨rfl, rfl, rfl⟩ -
        have e := kX_b c6 (bI_f (P := isT y ∧ isT z ∧ y ≤ z) (by omega))
        exact wq_iret rfl rfl (Nat.le_refl _) (Nat.le_refl _) ⟨_, rfl, Or.inl ⟨by rw [e]; omega, rfl, by rw [e]; exact hup_s⟩, q0.put 2⟩
      · skip
        refine wq_iload (i := 4) (q := 32) rfl rfl rfl ?_
        refine wq_iload_n (kk := 3) (q := 33) rfl rfl rfl ?_
        refine wq_icmp_ge (tgt := 42) (q := 36) rfl rfl rfl (fun c33 => ?_) (fun c33 => ?_)
        · skip
          refine wq_aload_n (kk := 0) (q := 43) rfl rfl rfl ?_
          refine wq_iload_n (kk := 1) (q := 44) rfl rfl rfl ?_
          refine wq_iload_n (kk := 2) (q := 45) rfl rfl rfl ?_
          refine wq_callV (q := 48) (m' := m_Lt_collectSteps) (R' := rm 5) (As := [_, _]) rfl rfl l_Lt_243 vm_Lt_collectSteps rfl rfl rfl (Or.inl ⟨rfl, Nat.le_of_ble_eq_true rfl⟩) (Nat.le_of_ble_eq_true rfl) (Nat.le_of_ble_eq_true rfl) (Nat.le_refl _) (Nat.le_refl _) (Nat.le_of_ble_eq_true rfl) (Lt_collectSteps_ok a b h r h r q0 c6.2.1) rfl ?_
          rintro rv h3 r3 ⟨rfl, q3, w3, hs⟩ -
          have hb := hs.b hV
          refine wq_aload_n (kk := 0) (q := 49) rfl rfl rfl ?_
          refine wq_aload_n (kk := 0) (q := 50) rfl rfl rfl ?_
          refine wq_getF (q := 53) f_Lt_68 rfl rfl (Nat.le_of_ble_eq_true rfl) rfl rfl rfl ?_
          refine wq_iload_n (kk := 3) (q := 54) rfl rfl rfl ?_
          refine wq_iload (i := 4) (q := 56) rfl rfl rfl ?_
          refine wq_callV (q := 59) (m' := m_St_ticksOver) (R' := rm 1) (As := [_, _]) rfl rfl l_Lt_278 vm_St_ticksOver rfl rfl rfl (Or.inl ⟨rfl, Nat.le_of_ble_eq_true rfl⟩) (Nat.le_of_ble_eq_true rfl) (Nat.le_of_ble_eq_true rfl) (Nat.le_refl _) (Nat.le_refl _) (Nat.le_of_ble_eq_true rfl) (St_tick_ok (dN h 0) a _ _ y z h3 r3 hs.2.1 hs.2.2 (by omega) hb.2) rfl ?_
          rintro rv h3 r3 ⟨v, rfl, rfl, rfl, hv⟩ -
          refine wq_callV (q := 62) (m' := m_Lt_answer) (R' := rm 1) (As := [_]) rfl rfl l_Lt_113 vm_Lt_answer rfl rfl rfl (Or.inl ⟨rfl, Nat.le_of_ble_eq_true rfl⟩) (Nat.le_of_ble_eq_true rfl) (Nat.le_of_ble_eq_true rfl) (Nat.le_refl _) (Nat.le_refl _) (Nat.le_of_ble_eq_true rfl) (Lt_answer_ok _ h3 r3) rfl ?_
          rintro rv h4 r3 ⟨rfl, rfl, rfl⟩ -
          exact wq_iret rfl rfl (Nat.le_refl _) (Nat.le_refl _) ⟨_, rfl, Or.inr ⟨kX_y c6 (by rw [bI_t (by omega)]; omega), hup_s, _, _, _, _, _, hs.1.1, by omega, hv⟩, q3.put 0⟩
        · skip
          refine wq_aload_n (kk := 0) (q := 37) rfl rfl rfl ?_
          refine wq_iconst (n := 2) (q := 38) rfl rfl rfl ?_
          refine wq_callV (q := 41) (m' := m_Lt_refuse) (R' := rm 1) (As := [_]) rfl rfl l_Lt_87 vm_Lt_refuse rfl rfl rfl (Or.inl ⟨rfl, Nat.le_of_ble_eq_true rfl⟩) (Nat.le_of_ble_eq_true rfl) (Nat.le_of_ble_eq_true rfl) (Nat.le_refl _) (Nat.le_refl _) (Nat.le_of_ble_eq_true rfl) (Lt_refuse_ok 2 h r) rfl ?_
          rintro rv h4 r ⟨rfl, rfl, rfl⟩ -
          have e := kX_b c6 (bI_f (P := isT y ∧ isT z ∧ y ≤ z) (by omega))
          exact wq_iret rfl rfl (Nat.le_refl _) (Nat.le_refl _) ⟨_, rfl, Or.inl ⟨by rw [e]; omega, rfl, by rw [e]; exact hup_s⟩, q0.put 2⟩
  · skip
    refine wq_aload_n (kk := 0) (q := 10) rfl rfl rfl ?_
    refine wq_iconst (n := 1) (q := 11) rfl rfl rfl ?_
    refine wq_callV (q := 14) (m' := m_Lt_refuse) (R' := rm 1) (As := [_]) rfl rfl l_Lt_87 vm_Lt_refuse rfl rfl rfl (Or.inl ⟨rfl, Nat.le_of_ble_eq_true rfl⟩) (Nat.le_of_ble_eq_true rfl) (Nat.le_of_ble_eq_true rfl) (Nat.le_refl _) (Nat.le_refl _) (Nat.le_of_ble_eq_true rfl) (Lt_refuse_ok 1 h r) rfl ?_
    rintro rv h4 r ⟨rfl, rfl, rfl⟩ -
    exact wq_iret rfl rfl (Nat.le_refl _) (Nat.le_refl _) ⟨_, rfl, Or.inl ⟨by rw [kX_n c6]; omega, rfl, by rw [kX_n c6]; exact hup_s⟩, q0.put 1⟩
set_option maxRecDepth 100000 in
set_option maxHeartbeats 1000000 in
theorem Lt_step_ok (a b i w : Int) (h : mH) (r : mR) (hI : IQ h r) : Meets true (rm 6) m_Lt_step [vR 0, vI a, vI b, vI i, vI w] h r (qP h r (Ans (kX (h 2 1) a b 1) (So2 (dN h 0) a b i w))) := by
  have hcur := hI.2.2.2.1
  have q0 := qf.rf hI
  have hV := dN_V hI.1 0
  refine ⟨ok_Lt_step, Nat.le_of_ble_eq_true rfl, ?_⟩
  refine wq_aload_n (kk := 0) (q := 1) rfl rfl rfl ?_
  refine wq_iload_n (kk := 1) (q := 2) rfl rfl rfl ?_
  refine wq_iload_n (kk := 2) (q := 3) rfl rfl rfl ?_
  refine wq_callV (q := 6) (m' := m_Lt_hasUnlikeSpots) (R' := rm 2) (As := [_, _]) rfl rfl l_Lt_267 vm_Lt_hasUnlikeSpots rfl rfl rfl (Or.inl ⟨rfl, Nat.le_of_ble_eq_true rfl⟩) (Nat.le_of_ble_eq_true rfl) (Nat.le_of_ble_eq_true rfl) (Nat.le_refl _) (Nat.le_refl _) (Nat.le_of_ble_eq_true rfl) (Lt_hasUnlikeSpots_ok a b h r hcur) rfl ?_
  rintro rv h r ⟨rfl, rfl, rfl⟩ -
  refine wq_cif_ne (tgt := 15) (q := 9) rfl rfl rfl (fun c6 => ?_) (fun c6 => ?_)
  · skip
    refine wq_aload_n (kk := 0) (q := 16) rfl rfl rfl ?_
    refine wq_iload_n (kk := 1) (q := 17) rfl rfl rfl ?_
    refine wq_iload_n (kk := 2) (q := 18) rfl rfl rfl ?_
    refine wq_callV (q := 21) (m' := m_Lt_collectSteps) (R' := rm 5) (As := [_, _]) rfl rfl l_Lt_243 vm_Lt_collectSteps rfl rfl rfl (Or.inl ⟨rfl, Nat.le_of_ble_eq_true rfl⟩) (Nat.le_of_ble_eq_true rfl) (Nat.le_of_ble_eq_true rfl) (Nat.le_refl _) (Nat.le_refl _) (Nat.le_of_ble_eq_true rfl) (Lt_collectSteps_ok a b h r h r q0 c6.2.1) rfl ?_
    rintro rv h3 r3 ⟨rfl, q3, w3, hs⟩ -
    have hb := hs.b hV
    refine wq_iload_n (kk := 3) (q := 22) rfl rfl rfl ?_
    refine wq_if_lt (tgt := 36) (q := 25) rfl rfl rfl (fun c22 => ?_) (fun c22 => ?_)
    · skip
      refine wq_aload_n (kk := 0) (q := 37) rfl rfl rfl ?_
      refine wq_iconst (n := 1) (q := 38) rfl rfl rfl ?_
      refine wq_callV (q := 41) (m' := m_Lt_refuse) (R' := rm 1) (As := [_]) rfl rfl l_Lt_87 vm_Lt_refuse rfl rfl rfl (Or.inl ⟨rfl, Nat.le_of_ble_eq_true rfl⟩) (Nat.le_of_ble_eq_true rfl) (Nat.le_of_ble_eq_true rfl) (Nat.le_refl _) (Nat.le_refl _) (Nat.le_of_ble_eq_true rfl) (Lt_refuse_ok 1 h3 r3) rfl ?_
      rintro rv h4 r3 ⟨rfl, rfl, rfl⟩ -
      exact wq_iret rfl rfl (Nat.le_refl _) (Nat.le_refl _) ⟨_, rfl, Or.inr ⟨kX_y c6 (by omega), _, _, _, _, hs.s, Or.inl ⟨by omega, rfl, hup_s⟩⟩, q3.put 1⟩
    · skip
      refine wq_iload_n (kk := 3) (q := 26) rfl rfl rfl ?_
      refine wq_aload_n (kk := 0) (q := 27) rfl rfl rfl ?_
      refine wq_getF (q := 30) f_Lt_68 rfl rfl (Nat.le_of_ble_eq_true rfl) rfl rfl rfl ?_
      refine wq_getI (kz := 0) (q := 33) rfl f_Lt_271 rfl rfl (Or.inl ⟨rfl, Nat.le_of_ble_eq_true rfl⟩) rfl rfl ?_
      refine wq_icmp_lt (tgt := 42) (q := 36) rfl rfl rfl (fun c33 => ?_) (fun c33 => ?_)
      · skip
        refine wq_aload_n (kk := 0) (q := 43) rfl rfl rfl ?_
        refine wq_getF (q := 46) f_Lt_68 rfl rfl (Nat.le_of_ble_eq_true rfl) rfl rfl rfl ?_
        refine wq_getI (kz := 0) (q := 49) rfl f_Lt_271 rfl rfl (Or.inl ⟨rfl, Nat.le_of_ble_eq_true rfl⟩) rfl rfl ?_
        refine wq_iconst (n := 1) (q := 50) rfl rfl rfl ?_
        refine wq_isub (q := 51) rfl rfl (by first | omega | (simp [hup]; omega)) (by first | omega | (simp [hup]; omega)) ?_
        refine wq_iload_n (kk := 3) (q := 52) rfl rfl rfl ?_
        refine wq_isub (q := 53) rfl rfl (by first | omega | (simp [hup]; omega)) (by first | omega | (simp [hup]; omega)) ?_
        refine wq_istore (i := 5) (q := 55) rfl rfl (Nat.le_of_ble_eq_true rfl) rfl ?_
        refine wq_iload (i := 4) (q := 57) rfl rfl rfl ?_
        refine wq_tabL (tg := [84, 99, 114]) (td := 129) rfl rfl rfl (fun c57 => ?_) (tab_c (fun c57 => ?_) (tab_c (fun c57 => ?_) (tab_c (fun c57 => ?_) (tab_n))))
        · skip
          refine wq_aload_n (kk := 0) (q := 130) rfl rfl rfl ?_
          refine wq_iconst (n := 1) (q := 131) rfl rfl rfl ?_
          refine wq_callV (q := 134) (m' := m_Lt_refuse) (R' := rm 1) (As := [_]) rfl rfl l_Lt_87 vm_Lt_refuse rfl rfl rfl (Or.inl ⟨rfl, Nat.le_of_ble_eq_true rfl⟩) (Nat.le_of_ble_eq_true rfl) (Nat.le_of_ble_eq_true rfl) (Nat.le_refl _) (Nat.le_refl _) (Nat.le_of_ble_eq_true rfl) (Lt_refuse_ok 1 h3 r3) rfl ?_
          rintro rv h4 r3 ⟨rfl, rfl, rfl⟩ -
          simp only [List.length_cons, List.length_nil] at c57
          exact wq_iret rfl rfl (Nat.le_refl _) (Nat.le_refl _) ⟨_, rfl, Or.inr ⟨kX_y c6 (by omega), _, _, _, _, hs.s, Or.inl ⟨by omega, rfl, hup_s⟩⟩, q3.put 1⟩
        · skip
          refine wq_aload_n (kk := 0) (q := 85) rfl rfl rfl ?_
          refine wq_aload_n (kk := 0) (q := 86) rfl rfl rfl ?_
          refine wq_getF (q := 89) f_Lt_68 rfl rfl (Nat.le_of_ble_eq_true rfl) rfl rfl rfl ?_
          refine wq_getF (q := 92) f_Lt_272 rfl rfl (Nat.le_of_ble_eq_true rfl) rfl rfl rfl ?_
          refine wq_iload (i := 5) (q := 94) rfl rfl rfl ?_
          refine wq_iald (q := 95) rfl (Or.inl ⟨rfl, Nat.le_of_ble_eq_true rfl⟩) rfl rfl (by first | omega | (simp [hup]; omega)) (by first | omega | (simp [hup]; omega)) ?_
          refine wq_callV (q := 98) (m' := m_Lt_answer) (R' := rm 1) (As := [_]) rfl rfl l_Lt_113 vm_Lt_answer rfl rfl rfl (Or.inl ⟨rfl, Nat.le_of_ble_eq_true rfl⟩) (Nat.le_of_ble_eq_true rfl) (Nat.le_of_ble_eq_true rfl) (Nat.le_refl _) (Nat.le_refl _) (Nat.le_of_ble_eq_true rfl) (Lt_answer_ok _ h3 r3) rfl ?_
          rintro rv h4 r3 ⟨rfl, rfl, rfl⟩ -
          exact wq_iret rfl rfl (Nat.le_refl _) (Nat.le_refl _) ⟨_, rfl, Or.inr ⟨kX_y c6 (by omega), _, _, _, _, hs.s, Or.inr ⟨by omega, by first | exact Or.inl ⟨by omega, rfl⟩ | exact Or.inr (Or.inl ⟨by omega, rfl⟩) | exact Or.inr (Or.inr ⟨by omega, rfl⟩), hup_s⟩⟩, q3.put 0⟩
        · skip
          refine wq_aload_n (kk := 0) (q := 100) rfl rfl rfl ?_
          refine wq_aload_n (kk := 0) (q := 101) rfl rfl rfl ?_
          refine wq_getF (q := 104) f_Lt_68 rfl rfl (Nat.le_of_ble_eq_true rfl) rfl rfl rfl ?_
          refine wq_getF (q := 107) f_Lt_273 rfl rfl (Nat.le_of_ble_eq_true rfl) rfl rfl rfl ?_
          refine wq_iload (i := 5) (q := 109) rfl rfl rfl ?_
          refine wq_iald (q := 110) rfl (Or.inl ⟨rfl, Nat.le_of_ble_eq_true rfl⟩) rfl rfl (by first | omega | (simp [hup]; omega)) (by first | omega | (simp [hup]; omega)) ?_
          refine wq_callV (q := 113) (m' := m_Lt_answer) (R' := rm 1) (As := [_]) rfl rfl l_Lt_113 vm_Lt_answer rfl rfl rfl (Or.inl ⟨rfl, Nat.le_of_ble_eq_true rfl⟩) (Nat.le_of_ble_eq_true rfl) (Nat.le_of_ble_eq_true rfl) (Nat.le_refl _) (Nat.le_refl _) (Nat.le_of_ble_eq_true rfl) (Lt_answer_ok _ h3 r3) rfl ?_
          rintro rv h4 r3 ⟨rfl, rfl, rfl⟩ -
          exact wq_iret rfl rfl (Nat.le_refl _) (Nat.le_refl _) ⟨_, rfl, Or.inr ⟨kX_y c6 (by omega), _, _, _, _, hs.s, Or.inr ⟨by omega, by first | exact Or.inl ⟨by omega, rfl⟩ | exact Or.inr (Or.inl ⟨by omega, rfl⟩) | exact Or.inr (Or.inr ⟨by omega, rfl⟩), hup_s⟩⟩, q3.put 0⟩
        · skip
          refine wq_aload_n (kk := 0) (q := 115) rfl rfl rfl ?_
          refine wq_aload_n (kk := 0) (q := 116) rfl rfl rfl ?_
          refine wq_getF (q := 119) f_Lt_68 rfl rfl (Nat.le_of_ble_eq_true rfl) rfl rfl rfl ?_
          refine wq_getF (q := 122) f_Lt_274 rfl rfl (Nat.le_of_ble_eq_true rfl) rfl rfl rfl ?_
          refine wq_iload (i := 5) (q := 124) rfl rfl rfl ?_
          refine wq_iald (q := 125) rfl (Or.inl ⟨rfl, Nat.le_of_ble_eq_true rfl⟩) rfl rfl (by first | omega | (simp [hup]; omega)) (by first | omega | (simp [hup]; omega)) ?_
          refine wq_callV (q := 128) (m' := m_Lt_answer) (R' := rm 1) (As := [_]) rfl rfl l_Lt_113 vm_Lt_answer rfl rfl rfl (Or.inl ⟨rfl, Nat.le_of_ble_eq_true rfl⟩) (Nat.le_of_ble_eq_true rfl) (Nat.le_of_ble_eq_true rfl) (Nat.le_refl _) (Nat.le_refl _) (Nat.le_of_ble_eq_true rfl) (Lt_answer_ok _ h3 r3) rfl ?_
          rintro rv h4 r3 ⟨rfl, rfl, rfl⟩ -
          exact wq_iret rfl rfl (Nat.le_refl _) (Nat.le_refl _) ⟨_, rfl, Or.inr ⟨kX_y c6 (by omega), _, _, _, _, hs.s, Or.inr ⟨by omega, by first | exact Or.inl ⟨by omega, rfl⟩ | exact Or.inr (Or.inl ⟨by omega, rfl⟩) | exact Or.inr (Or.inr ⟨by omega, rfl⟩), hup_s⟩⟩, q3.put 0⟩
      · skip
        refine wq_aload_n (kk := 0) (q := 37) rfl rfl rfl ?_
        refine wq_iconst (n := 1) (q := 38) rfl rfl rfl ?_
        refine wq_callV (q := 41) (m' := m_Lt_refuse) (R' := rm 1) (As := [_]) rfl rfl l_Lt_87 vm_Lt_refuse rfl rfl rfl (Or.inl ⟨rfl, Nat.le_of_ble_eq_true rfl⟩) (Nat.le_of_ble_eq_true rfl) (Nat.le_of_ble_eq_true rfl) (Nat.le_refl _) (Nat.le_refl _) (Nat.le_of_ble_eq_true rfl) (Lt_refuse_ok 1 h3 r3) rfl ?_
        rintro rv h4 r3 ⟨rfl, rfl, rfl⟩ -
        exact wq_iret rfl rfl (Nat.le_refl _) (Nat.le_refl _) ⟨_, rfl, Or.inr ⟨kX_y c6 (by omega), _, _, _, _, hs.s, Or.inl ⟨by omega, rfl, hup_s⟩⟩, q3.put 1⟩
  · skip
    refine wq_aload_n (kk := 0) (q := 10) rfl rfl rfl ?_
    refine wq_iconst (n := 1) (q := 11) rfl rfl rfl ?_
    refine wq_callV (q := 14) (m' := m_Lt_refuse) (R' := rm 1) (As := [_]) rfl rfl l_Lt_87 vm_Lt_refuse rfl rfl rfl (Or.inl ⟨rfl, Nat.le_of_ble_eq_true rfl⟩) (Nat.le_of_ble_eq_true rfl) (Nat.le_of_ble_eq_true rfl) (Nat.le_refl _) (Nat.le_refl _) (Nat.le_of_ble_eq_true rfl) (Lt_refuse_ok 1 h r) rfl ?_
    rintro rv h4 r ⟨rfl, rfl, rfl⟩ -
    exact wq_iret rfl rfl (Nat.le_refl _) (Nat.le_refl _) ⟨_, rfl, Or.inl ⟨by rw [kX_n c6]; omega, rfl, by rw [kX_n c6]; exact hup_s⟩, q0.put 1⟩

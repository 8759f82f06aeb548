noncomputable def cr (N0 N1 : mN) (a b t : Int) : Int := if sn N0 a t b < 1000000 then 0 else if sn N1 a t b < 1000000 then 1 else if sn (nEase N1) a t b < 1000000 then 2 else if sn (nEase N1) a 0 b < 1000000 then 3 else 4
theorem cr_b (N0 N1 : mN) (a b t : Int) : 0 ≤ cr N0 N1 a b t ∧ cr N0 N1 a b t ≤ 4 := by unfold cr; repeat (first | omega | split)
set_option maxRecDepth 100000 in
set_option maxHeartbeats 1000000 in
theorem Lt_countReasons_ok (a b t : Int) (h : mH) (r : mR) (h1 : mH) (r1 : mR) (q1 : qf h r h1 r1) (ha : 0 ≤ a ∧ a < h 2 1) (hb : 0 ≤ b ∧ b < h 2 1) : Meets true (rm 6) m_Lt_countReasons [vR 0, vI a, vI b, vI t] h1 r1 (fun rv h2 r2 => rv = some (vI (cr (dN h 0) (dN h 1) a b t)) ∧ qf h r h2 r2) := by
  have hcur := q1.cur
  have hV0 := dN_V q1.DV 0
  have hV1 := dN_V q1.DV 1
  rw [q1.dN] at hV0 hV1
  refine ⟨ok_Lt_countReasons, Nat.le_of_ble_eq_true rfl, ?_⟩
  refine wq_aload_n (kk := 0) (q := 1) rfl rfl rfl ?_
  refine wq_getF (q := 4) f_Lt_44 rfl rfl (Nat.le_of_ble_eq_true rfl) rfl rfl rfl ?_
  refine wq_aload_n (kk := 0) (q := 5) rfl rfl rfl ?_
  refine wq_getR (q := 8) f_Lt_16 rfl rfl (Or.inl ⟨rfl, Nat.le_of_ble_eq_true rfl⟩) hcur rfl rfl ?_
  refine wq_callV (q := 11) (m' := m_Ne_load) (R' := rm 4) (As := [_]) rfl rfl l_Lt_184 vm_Ne_load rfl rfl rfl (Or.inl ⟨rfl, Nat.le_of_ble_eq_true rfl⟩) (Nat.le_of_ble_eq_true rfl) (Nat.le_of_ble_eq_true rfl) (Nat.le_refl _) (Nat.le_refl _) (Nat.le_of_ble_eq_true rfl) (Lt_load q1) rfl ?_
  rintro rv h2 r2 ⟨rfl, q2, w2⟩ -
  have hcur := q2.cur
  refine wq_aload_n (kk := 0) (q := 12) rfl rfl rfl ?_
  refine wq_iload_n (kk := 1) (q := 13) rfl rfl rfl ?_
  refine wq_iload_n (kk := 2) (q := 14) rfl rfl rfl ?_
  refine wq_iload_n (kk := 3) (q := 15) rfl rfl rfl ?_
  refine wq_callV (q := 18) (m' := m_Lt_soonestAt) (R' := rm 5) (As := [_, _, _]) rfl rfl l_Lt_264 vm_Lt_soonestAt rfl rfl rfl (Or.inl ⟨rfl, Nat.le_of_ble_eq_true rfl⟩) (Nat.le_of_ble_eq_true rfl) (Nat.le_of_ble_eq_true rfl) (Nat.le_refl _) (Nat.le_refl _) (Nat.le_of_ble_eq_true rfl) (Lt_soonestAt_ok (dN h 0) a b t h2 r2 w2 ha hb) rfl ?_
  rintro rv h3 r2 ⟨v, rfl, hs, rfl, f3⟩ -
  have q3 := q2.scr f3 (by decide)
  have ev := hs.sn hV0 hb
  refine wq_ldcw (n := 1000000) (q := 21) k_Lt_257 rfl rfl rfl ?_
  refine wq_icmp_ge (tgt := 26) (q := 24) rfl rfl rfl (fun c21 => ?_) (fun c21 => ?_)
  · skip
    refine wq_aload_n (kk := 0) (q := 27) rfl rfl rfl ?_
    refine wq_getF (q := 30) f_Lt_44 rfl rfl (Nat.le_of_ble_eq_true rfl) rfl rfl rfl ?_
    refine wq_aload_n (kk := 0) (q := 31) rfl rfl rfl ?_
    refine wq_getR (q := 34) f_Lt_16 rfl rfl (Or.inl ⟨rfl, Nat.le_of_ble_eq_true rfl⟩) hcur rfl rfl ?_
    refine wq_callV (q := 37) (m' := m_Ne_loadAsTold) (R' := rm 4) (As := [_]) rfl rfl l_Lt_324 vm_Ne_loadAsTold rfl rfl rfl (Or.inl ⟨rfl, Nat.le_of_ble_eq_true rfl⟩) (Nat.le_of_ble_eq_true rfl) (Nat.le_of_ble_eq_true rfl) (Nat.le_refl _) (Nat.le_refl _) (Nat.le_of_ble_eq_true rfl) (Lt_loadT q3) rfl ?_
    rintro rv h4 r4 ⟨rfl, q4, w4⟩ -
    refine wq_aload_n (kk := 0) (q := 38) rfl rfl rfl ?_
    refine wq_iload_n (kk := 1) (q := 39) rfl rfl rfl ?_
    refine wq_iload_n (kk := 2) (q := 40) rfl rfl rfl ?_
    refine wq_iload_n (kk := 3) (q := 41) rfl rfl rfl ?_
    refine wq_callV (q := 44) (m' := m_Lt_soonestAt) (R' := rm 5) (As := [_, _, _]) rfl rfl l_Lt_264 vm_Lt_soonestAt rfl rfl rfl (Or.inl ⟨rfl, Nat.le_of_ble_eq_true rfl⟩) (Nat.le_of_ble_eq_true rfl) (Nat.le_of_ble_eq_true rfl) (Nat.le_refl _) (Nat.le_refl _) (Nat.le_of_ble_eq_true rfl) (Lt_soonestAt_ok (dN h 1) a b t h4 r4 w4 ha hb) rfl ?_
    rintro rv h5 r4 ⟨v1, rfl, hs1, rfl, f5⟩ -
    have q5 := q4.scr f5 (by decide)
    have w5 := w4.fr f5 (by decide)
    have ev1 := hs1.sn hV1 hb
    refine wq_ldcw (n := 1000000) (q := 47) k_Lt_257 rfl rfl rfl ?_
    refine wq_icmp_ge (tgt := 52) (q := 50) rfl rfl rfl (fun c47 => ?_) (fun c47 => ?_)
    · skip
      refine wq_aload_n (kk := 0) (q := 53) rfl rfl rfl ?_
      refine wq_getF (q := 56) f_Lt_44 rfl rfl (Nat.le_of_ble_eq_true rfl) rfl rfl rfl ?_
      refine wq_callV (q := 59) (m' := m_Ne_ease) (R' := rm 1) (As := []) rfl rfl l_Lt_327 vm_Ne_ease rfl rfl rfl (Or.inl ⟨rfl, Nat.le_of_ble_eq_true rfl⟩) (Nat.le_of_ble_eq_true rfl) (Nat.le_of_ble_eq_true rfl) (Nat.le_refl _) (Nat.le_refl _) (Nat.le_of_ble_eq_true rfl) (Ne_ease_ok (dN h 1) h5 r4 w5.1 hV1 w5.2.2.1) rfl ?_
      rintro rv h6 r4 ⟨rfl, rfl, f6, hN⟩ -
      have q6 := q5.scr f6 (by decide)
      have w6 : netW h6 r4 (nEase (dN h 1)) := ⟨w5.1, nEase_V hV1, hN, w5.2.2.2.1.fr f6 (by decide), w5.2.2.2.2.fr f6 (by decide) (by decide)⟩
      refine wq_aload_n (kk := 0) (q := 60) rfl rfl rfl ?_
      refine wq_iload_n (kk := 1) (q := 61) rfl rfl rfl ?_
      refine wq_iload_n (kk := 2) (q := 62) rfl rfl rfl ?_
      refine wq_iload_n (kk := 3) (q := 63) rfl rfl rfl ?_
      refine wq_callV (q := 66) (m' := m_Lt_soonestAt) (R' := rm 5) (As := [_, _, _]) rfl rfl l_Lt_264 vm_Lt_soonestAt rfl rfl rfl (Or.inl ⟨rfl, Nat.le_of_ble_eq_true rfl⟩) (Nat.le_of_ble_eq_true rfl) (Nat.le_of_ble_eq_true rfl) (Nat.le_refl _) (Nat.le_refl _) (Nat.le_of_ble_eq_true rfl) (Lt_soonestAt_ok (nEase (dN h 1)) a b t h6 r4 w6 ha hb) rfl ?_
      rintro rv h7 r4 ⟨v2, rfl, hs2, rfl, f7⟩ -
      have q7 := q6.scr f7 (by decide)
      have w7 := w6.fr f7 (by decide)
      have ev2 := hs2.sn (nEase_V hV1) hb
      refine wq_ldcw (n := 1000000) (q := 69) k_Lt_257 rfl rfl rfl ?_
      refine wq_icmp_ge (tgt := 74) (q := 72) rfl rfl rfl (fun c69 => ?_) (fun c69 => ?_)
      · skip
        refine wq_aload_n (kk := 0) (q := 75) rfl rfl rfl ?_
        refine wq_iload_n (kk := 1) (q := 76) rfl rfl rfl ?_
        refine wq_iload_n (kk := 2) (q := 77) rfl rfl rfl ?_
        refine wq_iconst (n := 0) (q := 78) rfl rfl rfl ?_
        refine wq_callV (q := 81) (m' := m_Lt_soonestAt) (R' := rm 5) (As := [_, _, _]) rfl rfl l_Lt_264 vm_Lt_soonestAt rfl rfl rfl (Or.inl ⟨rfl, Nat.le_of_ble_eq_true rfl⟩) (Nat.le_of_ble_eq_true rfl) (Nat.le_of_ble_eq_true rfl) (Nat.le_refl _) (Nat.le_refl _) (Nat.le_of_ble_eq_true rfl) (Lt_soonestAt_ok (nEase (dN h 1)) a b 0 h7 r4 w7 ha hb) rfl ?_
        rintro rv h8 r4 ⟨v3, rfl, hs3, rfl, f8⟩ -
        have q8 := q7.scr f8 (by decide)
        have ev3 := hs3.sn (nEase_V hV1) hb
        refine wq_ldcw (n := 1000000) (q := 84) k_Lt_257 rfl rfl rfl ?_
        refine wq_icmp_ge (tgt := 91) (q := 87) rfl rfl rfl (fun c84 => ?_) (fun c84 => ?_)
        · skip
          refine wq_iconst (n := 4) (q := 92) rfl rfl rfl ?_
          refine wq_iret rfl rfl (Nat.le_refl _) (Nat.le_refl _) ⟨?_, by assumption⟩
          congr 2
          unfold cr
          first
          | (rw [if_pos (by omega)]; done)
          | (rw [if_neg (by omega), if_pos (by omega)]; done)
          | (rw [if_neg (by omega), if_neg (by omega), if_pos (by omega)]; done)
          | (rw [if_neg (by omega), if_neg (by omega), if_neg (by omega), if_pos (by omega)]; done)
          | (rw [if_neg (by omega), if_neg (by omega), if_neg (by omega), if_neg (by omega)]; done)
        · skip
          refine wq_iconst (n := 3) (q := 88) rfl rfl rfl ?_
          refine wq_goto (tgt := 92) rfl rfl ?_
          refine wq_iret rfl rfl (Nat.le_refl _) (Nat.le_refl _) ⟨?_, by assumption⟩
          congr 2
          unfold cr
          first
          | (rw [if_pos (by omega)]; done)
          | (rw [if_neg (by omega), if_pos (by omega)]; done)
          | (rw [if_neg (by omega), if_neg (by omega), if_pos (by omega)]; done)
          | (rw [if_neg (by omega), if_neg (by omega), if_neg (by omega), if_pos (by omega)]; done)
          | (rw [if_neg (by omega), if_neg (by omega), if_neg (by omega), if_neg (by omega)]; done)
      · skip
        refine wq_iconst (n := 2) (q := 73) rfl rfl rfl ?_
        refine wq_iret rfl rfl (Nat.le_refl _) (Nat.le_refl _) ⟨?_, by assumption⟩
        congr 2
        unfold cr
        first
        | (rw [if_pos (by omega)]; done)
        | (rw [if_neg (by omega), if_pos (by omega)]; done)
        | (rw [if_neg (by omega), if_neg (by omega), if_pos (by omega)]; done)
        | (rw [if_neg (by omega), if_neg (by omega), if_neg (by omega), if_pos (by omega)]; done)
        | (rw [if_neg (by omega), if_neg (by omega), if_neg (by omega), if_neg (by omega)]; done)
    · skip
      refine wq_iconst (n := 1) (q := 51) rfl rfl rfl ?_
      refine wq_iret rfl rfl (Nat.le_refl _) (Nat.le_refl _) ⟨?_, by assumption⟩
      congr 2
      unfold cr
      first
      | (rw [if_pos (by omega)]; done)
      | (rw [if_neg (by omega), if_pos (by omega)]; done)
      | (rw [if_neg (by omega), if_neg (by omega), if_pos (by omega)]; done)
      | (rw [if_neg (by omega), if_neg (by omega), if_neg (by omega), if_pos (by omega)]; done)
      | (rw [if_neg (by omega), if_neg (by omega), if_neg (by omega), if_neg (by omega)]; done)
  · skip
    refine wq_iconst (n := 0) (q := 25) rfl rfl rfl ?_
    refine wq_iret rfl rfl (Nat.le_refl _) (Nat.le_refl _) ⟨?_, by assumption⟩
    congr 2
    unfold cr
    first
    | (rw [if_pos (by omega)]; done)
    | (rw [if_neg (by omega), if_pos (by omega)]; done)
    | (rw [if_neg (by omega), if_neg (by omega), if_pos (by omega)]; done)
    | (rw [if_neg (by omega), if_neg (by omega), if_neg (by omega), if_pos (by omega)]; done)
    | (rw [if_neg (by omega), if_neg (by omega), if_neg (by omega), if_neg (by omega)]; done)
noncomputable def Wy (N0 N1 : mN) (a b t i : Int) : Int := if i < cr N0 N1 a b t then i + 1 else 0
set_option maxRecDepth 100000 in
set_option maxHeartbeats 1000000 in
theorem Lt_whyA (a b t i g : Int) (h : mH) (r : mR) (hI : IQ h r) (hg : g = bI (isT t ∧ 0 ≤ i)) : WP (true, rm 7) m_Lt_why (rt m_Lt_why (rm 7) (qP h r (Ans (kP (h 2 1) a b (bI (isT t ∧ 0 ≤ i))) (fun v tr => tr = 0 ∧ v = Wy (dN h 0) (dN h 1) a b t i)))) 21 [some (vR 0), some (vI a), some (vI b), some (vI t), some (vI i)] [vI g, vI b, vI a, vR 0, vR 0] h r (0, 0) := by
  have hcur := hI.2.2.2.1
  have q0 := qf.rf hI
  have hc := cr_b (dN h 0) (dN h 1) a b t
  subst hg
  refine wq_callV (q := 24) (m' := m_Lt_lookAtPair) (R' := rm 2) (As := [_, _, _]) rfl rfl l_Lt_236 vm_Lt_lookAtPair rfl rfl rfl (Or.inl ⟨rfl, Nat.le_of_ble_eq_true rfl⟩) (Nat.le_of_ble_eq_true rfl) (Nat.le_of_ble_eq_true rfl) (Nat.le_refl _) (Nat.le_refl _) (Nat.le_of_ble_eq_true rfl) (Lt_lookAtPair_ok a b _ h r hcur) rfl ?_
  rintro rv h r ⟨rfl, rfl, rfl⟩ -
  generalize hk : kP (h 2 1) a b (bI (isT t ∧ 0 ≤ i)) = k
  refine wq_callV (q := 27) (m' := m_Lt_isRefused) (R' := rm 1) (As := [_]) rfl rfl l_Lt_240 vm_Lt_isRefused rfl rfl rfl (Or.inl ⟨rfl, Nat.le_of_ble_eq_true rfl⟩) (Nat.le_of_ble_eq_true rfl) (Nat.le_of_ble_eq_true rfl) (Nat.le_refl _) (Nat.le_refl _) (Nat.le_of_ble_eq_true rfl) (Lt_isRefused_ok k h r) rfl ?_
  rintro rv h1 r ⟨rfl, rfl, rfl⟩ -
  have q1 := q0.put k
  refine wq_cif_eq (tgt := 32) (q := 30) rfl rfl rfl (fun c27 => ?_) (fun c27 => ?_)
  · skip
    refine wq_aload_n (kk := 0) (q := 33) rfl rfl rfl ?_
    refine wq_iload (i := 4) (q := 35) rfl rfl rfl ?_
    refine wq_aload_n (kk := 0) (q := 36) rfl rfl rfl ?_
    refine wq_iload_n (kk := 1) (q := 37) rfl rfl rfl ?_
    refine wq_iload_n (kk := 2) (q := 38) rfl rfl rfl ?_
    refine wq_iload_n (kk := 3) (q := 39) rfl rfl rfl ?_
    have k0 : k = 0 := by simpa using c27
    subst k0
    have hab := kP_0 hk
    have ht := bI_ne hab.2
    refine wq_callV (q := 42) (m' := m_Lt_countReasons) (R' := rm 6) (As := [_, _, _]) rfl rfl l_Lt_321 vm_Lt_countReasons rfl rfl rfl (Or.inl ⟨rfl, Nat.le_of_ble_eq_true rfl⟩) (Nat.le_of_ble_eq_true rfl) (Nat.le_of_ble_eq_true rfl) (Nat.le_refl _) (Nat.le_refl _) (Nat.le_of_ble_eq_true rfl) (Lt_countReasons_ok a b t h r _ r q1 hab.1.1 hab.1.2) rfl ?_
    rintro rv h3 r3 ⟨rfl, q3⟩ -
    refine wq_icmp_ge (tgt := 52) (q := 45) rfl rfl rfl (fun c42 => ?_) (fun c42 => ?_)
    · skip
      refine wq_iconst (n := 0) (q := 53) rfl rfl rfl ?_
      refine wq_callV (q := 56) (m' := m_Lt_answer) (R' := rm 1) (As := [_]) rfl rfl l_Lt_113 vm_Lt_answer rfl rfl rfl (Or.inl ⟨rfl, Nat.le_of_ble_eq_true rfl⟩) (Nat.le_of_ble_eq_true rfl) (Nat.le_of_ble_eq_true rfl) (Nat.le_refl _) (Nat.le_refl _) (Nat.le_of_ble_eq_true rfl) (Lt_answer_ok _ h3 r3) rfl ?_
      rintro rv h4 r3 ⟨rfl, rfl, rfl⟩ -
      refine wq_iret rfl rfl (Nat.le_refl _) (Nat.le_refl _) ⟨_, rfl, Or.inr ⟨rfl, hup_s, ?_⟩, q3.put 0⟩
      unfold Wy
      first | exact (if_pos (by omega)).symm | exact (if_neg (by omega)).symm
    · skip
      refine wq_iload (i := 4) (q := 47) rfl rfl rfl ?_
      refine wq_iconst (n := 1) (q := 48) rfl rfl rfl ?_
      refine wq_iadd (q := 49) rfl rfl (by first | omega | (simp [hup]; omega)) (by first | omega | (simp [hup]; omega)) ?_
      refine wq_goto (tgt := 53) rfl rfl ?_
      refine wq_callV (q := 56) (m' := m_Lt_answer) (R' := rm 1) (As := [_]) rfl rfl l_Lt_113 vm_Lt_answer rfl rfl rfl (Or.inl ⟨rfl, Nat.le_of_ble_eq_true rfl⟩) (Nat.le_of_ble_eq_true rfl) (Nat.le_of_ble_eq_true rfl) (Nat.le_refl _) (Nat.le_refl _) (Nat.le_of_ble_eq_true rfl) (Lt_answer_ok _ h3 r3) rfl ?_
      rintro rv h4 r3 ⟨rfl, rfl, rfl⟩ -
      refine wq_iret rfl rfl (Nat.le_refl _) (Nat.le_refl _) ⟨_, rfl, Or.inr ⟨rfl, hup_s, ?_⟩, q3.put 0⟩
      unfold Wy
      first | exact (if_pos (by omega)).symm | exact (if_neg (by omega)).symm
  · skip
    refine wq_iconst (n := -1) (q := 31) rfl rfl rfl ?_
    exact wq_iret rfl rfl (Nat.le_refl _) (Nat.le_refl _) ⟨_, rfl, Or.inl ⟨c27, rfl, hup_s⟩, q1⟩
set_option maxRecDepth 100000 in
set_option maxHeartbeats 1000000 in
theorem Lt_why_ok (a b t i : Int) (h : mH) (r : mR) (hI : IQ h r) : Meets true (rm 7) m_Lt_why [vR 0, vI a, vI b, vI t, vI i] h r (qP h r (Ans (kP (h 2 1) a b (bI (isT t ∧ 0 ≤ i))) (fun v tr => tr = 0 ∧ v = Wy (dN h 0) (dN h 1) a b t i))) := by
  refine ⟨ok_Lt_why, Nat.le_of_ble_eq_true rfl, ?_⟩
  refine wq_aload_n (kk := 0) (q := 1) rfl rfl rfl ?_
  refine wq_aload_n (kk := 0) (q := 2) rfl rfl rfl ?_
  refine wq_iload_n (kk := 1) (q := 3) rfl rfl rfl ?_
  refine wq_iload_n (kk := 2) (q := 4) rfl rfl rfl ?_
  refine wq_iload_n (kk := 3) (q := 5) rfl rfl rfl ?_
  refine wq_callS (q := 8) (m' := m_Lt_isTime) (R' := rm 1) (As := [_]) rfl rfl l_Lt_233 sm_Lt_isTime rfl (Nat.le_of_ble_eq_true rfl) (Nat.le_of_ble_eq_true rfl) (Nat.le_refl _) (Nat.le_refl _) (Nat.le_of_ble_eq_true rfl) (Lt_isTime_ok t h r) rfl ?_
  rintro rv h r ⟨rfl, rfl, rfl⟩ -
  refine wq_cif_eq (tgt := 20) (q := 11) rfl rfl rfl (fun c8 => ?_) (fun c8 => ?_)
  · skip
    refine wq_iconst (n := 0) (q := 21) rfl rfl rfl ?_
    first | exact Lt_whyA a b t i 1 h r hI (bI_t (by omega)).symm | exact Lt_whyA a b t i 0 h r hI (bI_f (by omega)).symm
  · skip
    refine wq_iload (i := 4) (q := 13) rfl rfl rfl ?_
    refine wq_if_lt (tgt := 20) (q := 16) rfl rfl rfl (fun c13 => ?_) (fun c13 => ?_)
    · skip
      refine wq_iconst (n := 0) (q := 21) rfl rfl rfl ?_
      first | exact Lt_whyA a b t i 1 h r hI (bI_t (by omega)).symm | exact Lt_whyA a b t i 0 h r hI (bI_f (by omega)).symm
    · skip
      refine wq_iconst (n := 1) (q := 17) rfl rfl rfl ?_
      refine wq_goto (tgt := 21) rfl rfl ?_
      first | exact Lt_whyA a b t i 1 h r hI (bI_t (by omega)).symm | exact Lt_whyA a b t i 0 h r hI (bI_f (by omega)).symm

theorem netW.run {h : mH} {r : mR} {N : mN} (hw : netW h r N) {d v : Int} (hv : v = 0 ∨ v = 1) : netW (hup h 34 d v) r (nRun N d v) := by
  obtain ⟨a, hV, hN, hO, hG⟩ := hw
  refine ⟨a, nRun_V hV hv, ⟨hN.1, hN.2.1, fun x hx => ?_, hN.2.2.2⟩, ⟨hO.1, hO.2⟩, hG⟩
  have z := hN.2.2.1 x hx
  refine ⟨z.1, z.2.1, z.2.2.1, z.2.2.2.1, z.2.2.2.2.1, ?_⟩
  show hup h 34 d v 34 x = if x = d then v else rn N x
  by_cases e : x = d
  · subst e; rw [hup_s, if_pos rfl]
  · rw [hup_j e, if_neg e]; exact z.2.2.2.2.2
def Ro (N : mN) (a b t y : Int) (v : Int) : Prop := v = if sn N a t b = 1000000 then -2 else bb N b (sn N a t b + y) a
set_option maxRecDepth 100000 in
set_option maxHeartbeats 1000000 in
theorem Lt_roundA (a b t y g : Int) (h : mH) (r : mR) (hI : IQ h r) (hg : g = bI (isT t ∧ 0 ≤ y ∧ y ≤ 999)) : WP (true, rm 6) m_Lt_round (rt m_Lt_round (rm 6) (qP h r (Ans (kP (h 2 1) a b (bI (isT t ∧ 0 ≤ y ∧ y ≤ 999))) (fun v tr => tr = 0 ∧ Ro (dN h 0) a b t y v)))) 29 [some (vR 0), some (vI a), some (vI b), some (vI t), some (vI y), none, none] [vI g, vI b, vI a, vR 0, vR 0] h r (0, 0) := by
  have hcur := hI.2.2.2.1
  have q0 := qf.rf hI
  have hV := dN_V hI.1 0
  subst hg
  refine wq_callV (q := 32) (m' := m_Lt_lookAtPair) (R' := rm 2) (As := [_, _, _]) rfl rfl l_Lt_236 vm_Lt_lookAtPair rfl rfl rfl (Or.inl ⟨rfl, Nat.le_of_ble_eq_true rfl⟩) (Nat.le_of_ble_eq_true rfl) (Nat.le_of_ble_eq_true rfl) (Nat.le_refl _) (Nat.le_refl _) (Nat.le_of_ble_eq_true rfl) (Lt_lookAtPair_ok a b _ h r hcur) rfl ?_
  rintro rv h r ⟨rfl, rfl, rfl⟩ -
  generalize hk : kP (h 2 1) a b (bI (isT t ∧ 0 ≤ y ∧ y ≤ 999)) = k
  refine wq_callV (q := 35) (m' := m_Lt_isRefused) (R' := rm 1) (As := [_]) rfl rfl l_Lt_240 vm_Lt_isRefused rfl rfl rfl (Or.inl ⟨rfl, Nat.le_of_ble_eq_true rfl⟩) (Nat.le_of_ble_eq_true rfl) (Nat.le_of_ble_eq_true rfl) (Nat.le_refl _) (Nat.le_refl _) (Nat.le_of_ble_eq_true rfl) (Lt_isRefused_ok k h r) rfl ?_
  rintro rv h1 r ⟨rfl, rfl, rfl⟩ -
  have q1 := q0.put k
  refine wq_cif_eq (tgt := 40) (q := 38) rfl rfl rfl (fun c35 => ?_) (fun c35 => ?_)
  · skip
    refine wq_aload_n (kk := 0) (q := 41) rfl rfl rfl ?_
    refine wq_getF (q := 44) f_Lt_44 rfl rfl (Nat.le_of_ble_eq_true rfl) rfl rfl rfl ?_
    refine wq_aload_n (kk := 0) (q := 45) rfl rfl rfl ?_
    refine wq_getR (q := 48) f_Lt_16 rfl rfl (Or.inl ⟨rfl, Nat.le_of_ble_eq_true rfl⟩) hcur rfl rfl ?_
    refine wq_callV (q := 51) (m' := m_Ne_load) (R' := rm 4) (As := [_]) rfl rfl l_Lt_184 vm_Ne_load rfl rfl rfl (Or.inl ⟨rfl, Nat.le_of_ble_eq_true rfl⟩) (Nat.le_of_ble_eq_true rfl) (Nat.le_of_ble_eq_true rfl) (Nat.le_refl _) (Nat.le_refl _) (Nat.le_of_ble_eq_true rfl) (Lt_load q1) rfl ?_
    rintro rv h2 r2 ⟨rfl, q2, w2⟩ -
    have k0 : k = 0 := by simpa using c35
    subst k0
    have hab := kP_0 hk
    have ht := bI_ne hab.2
    refine wq_aload_n (kk := 0) (q := 52) rfl rfl rfl ?_
    refine wq_iload_n (kk := 1) (q := 53) rfl rfl rfl ?_
    refine wq_iload_n (kk := 2) (q := 54) rfl rfl rfl ?_
    refine wq_iload_n (kk := 3) (q := 55) rfl rfl rfl ?_
    refine wq_callV (q := 58) (m' := m_Lt_soonestAt) (R' := rm 5) (As := [_, _, _]) rfl rfl l_Lt_264 vm_Lt_soonestAt rfl rfl rfl (Or.inl ⟨rfl, Nat.le_of_ble_eq_true rfl⟩) (Nat.le_of_ble_eq_true rfl) (Nat.le_of_ble_eq_true rfl) (Nat.le_refl _) (Nat.le_refl _) (Nat.le_of_ble_eq_true rfl) (Lt_soonestAt_ok (dN h 0) a b t h2 r2 w2 hab.1.1 hab.1.2) rfl ?_
    rintro rv h3 r2 ⟨v, rfl, hs, rfl, f3⟩ -
    have q3 := q2.scr f3 (by decide)
    have w3 := w2.fr f3 (by decide)
    have ev := hs.sn hV hab.1.2
    have hr := sn_r hV (a := a) (b := b) ht.1
    refine wq_istore (i := 5) (q := 60) rfl rfl (Nat.le_of_ble_eq_true rfl) rfl ?_
    refine wq_iload (i := 5) (q := 62) rfl rfl rfl ?_
    refine wq_ldcw (n := 1000000) (q := 65) k_Lt_257 rfl rfl rfl ?_
    refine wq_icmp_ne (tgt := 75) (q := 68) rfl rfl rfl (fun c65 => ?_) (fun c65 => ?_)
    · skip
      refine wq_aload_n (kk := 0) (q := 76) rfl rfl rfl ?_
      refine wq_iload_n (kk := 2) (q := 77) rfl rfl rfl ?_
      refine wq_iload_n (kk := 1) (q := 78) rfl rfl rfl ?_
      refine wq_iload (i := 5) (q := 80) rfl rfl rfl ?_
      refine wq_iload (i := 4) (q := 82) rfl rfl rfl ?_
      refine wq_iadd (q := 83) rfl rfl (by first | omega | (simp [hup]; omega)) (by first | omega | (simp [hup]; omega)) ?_
      refine wq_callV (q := 86) (m' := m_Lt_soonestAt) (R' := rm 5) (As := [_, _, _]) rfl rfl l_Lt_264 vm_Lt_soonestAt rfl rfl rfl (Or.inl ⟨rfl, Nat.le_of_ble_eq_true rfl⟩) (Nat.le_of_ble_eq_true rfl) (Nat.le_of_ble_eq_true rfl) (Nat.le_refl _) (Nat.le_refl _) (Nat.le_of_ble_eq_true rfl) (Lt_soonestAt_ok (dN h 0) b a (v + y) h3 r2 w3 hab.1.2 hab.1.1) rfl ?_
      rintro rv h4 r2 ⟨v2, rfl, hs4, rfl, f4⟩ -
      have q4 := q3.scr f4 (by decide)
      have ev4 := hs4.sn hV hab.1.1
      refine wq_istore (i := 6) (q := 88) rfl rfl (Nat.le_of_ble_eq_true rfl) rfl ?_
      refine wq_aload_n (kk := 0) (q := 89) rfl rfl rfl ?_
      refine wq_iload (i := 6) (q := 91) rfl rfl rfl ?_
      refine wq_ldcw (n := 1000000) (q := 94) k_Lt_257 rfl rfl rfl ?_
      refine wq_icmp_ne (tgt := 102) (q := 97) rfl rfl rfl (fun c94 => ?_) (fun c94 => ?_)
      · skip
        refine wq_iload (i := 6) (q := 104) rfl rfl rfl ?_
        refine wq_callV (q := 107) (m' := m_Lt_answer) (R' := rm 1) (As := [_]) rfl rfl l_Lt_113 vm_Lt_answer rfl rfl rfl (Or.inl ⟨rfl, Nat.le_of_ble_eq_true rfl⟩) (Nat.le_of_ble_eq_true rfl) (Nat.le_of_ble_eq_true rfl) (Nat.le_refl _) (Nat.le_refl _) (Nat.le_of_ble_eq_true rfl) (Lt_answer_ok _ h4 r2) rfl ?_
        rintro rv h5 r2 ⟨rfl, rfl, rfl⟩ -
        refine wq_iret rfl rfl (Nat.le_refl _) (Nat.le_refl _) ⟨_, rfl, Or.inr ⟨rfl, hup_s, ?_⟩, q4.put 0⟩
        unfold Ro bb
        rw [← ev, if_neg (by omega), ← ev4]
        first | exact (if_pos (by omega)).symm | exact (if_neg (by omega)).symm
      · skip
        refine wq_bipush (n := -2) (q := 99) rfl rfl rfl ?_
        refine wq_goto (tgt := 104) rfl rfl ?_
        refine wq_callV (q := 107) (m' := m_Lt_answer) (R' := rm 1) (As := [_]) rfl rfl l_Lt_113 vm_Lt_answer rfl rfl rfl (Or.inl ⟨rfl, Nat.le_of_ble_eq_true rfl⟩) (Nat.le_of_ble_eq_true rfl) (Nat.le_of_ble_eq_true rfl) (Nat.le_refl _) (Nat.le_refl _) (Nat.le_of_ble_eq_true rfl) (Lt_answer_ok _ h4 r2) rfl ?_
        rintro rv h5 r2 ⟨rfl, rfl, rfl⟩ -
        refine wq_iret rfl rfl (Nat.le_refl _) (Nat.le_refl _) ⟨_, rfl, Or.inr ⟨rfl, hup_s, ?_⟩, q4.put 0⟩
        unfold Ro bb
        rw [← ev, if_neg (by omega), ← ev4]
        first | exact (if_pos (by omega)).symm | exact (if_neg (by omega)).symm
    · skip
      refine wq_aload_n (kk := 0) (q := 69) rfl rfl rfl ?_
      refine wq_bipush (n := -2) (q := 71) rfl rfl rfl ?_
      refine wq_callV (q := 74) (m' := m_Lt_answer) (R' := rm 1) (As := [_]) rfl rfl l_Lt_113 vm_Lt_answer rfl rfl rfl (Or.inl ⟨rfl, Nat.le_of_ble_eq_true rfl⟩) (Nat.le_of_ble_eq_true rfl) (Nat.le_of_ble_eq_true rfl) (Nat.le_refl _) (Nat.le_refl _) (Nat.le_of_ble_eq_true rfl) (Lt_answer_ok _ h3 r2) rfl ?_
      rintro rv h4 r1 ⟨rfl, rfl, rfl⟩ -
      exact wq_iret rfl rfl (Nat.le_refl _) (Nat.le_refl _) ⟨_, rfl, Or.inr ⟨rfl, hup_s, (if_pos (by omega)).symm⟩, q3.put 0⟩
  · skip
    refine wq_iconst (n := -1) (q := 39) rfl rfl rfl ?_
    exact wq_iret rfl rfl (Nat.le_refl _) (Nat.le_refl _) ⟨_, rfl, Or.inl ⟨c35, rfl, hup_s⟩, q1⟩
set_option maxRecDepth 100000 in
set_option maxHeartbeats 1000000 in
theorem Lt_round_ok (a b t y : Int) (h : mH) (r : mR) (hI : IQ h r) : Meets true (rm 6) m_Lt_round [vR 0, vI a, vI b, vI t, vI y] h r (qP h r (Ans (kP (h 2 1) a b (bI (isT t ∧ 0 ≤ y ∧ y ≤ 999))) (fun v tr => tr = 0 ∧ Ro (dN h 0) a b t y v))) := by
  refine ⟨ok_Lt_round, Nat.le_of_ble_eq_true rfl, ?_⟩
  refine wq_aload_n (kk := 0) (q := 1) rfl rfl rfl ?_
  refine wq_aload_n (kk := 0) (q := 2) rfl rfl rfl ?_
  refine wq_iload_n (kk := 1) (q := 3) rfl rfl rfl ?_
  refine wq_iload_n (kk := 2) (q := 4) rfl rfl rfl ?_
  refine wq_iload_n (kk := 3) (q := 5) rfl rfl rfl ?_
  refine wq_callS (q := 8) (m' := m_Lt_isTime) (R' := rm 1) (As := [_]) rfl rfl l_Lt_233 sm_Lt_isTime rfl (Nat.le_of_ble_eq_true rfl) (Nat.le_of_ble_eq_true rfl) (Nat.le_refl _) (Nat.le_refl _) (Nat.le_of_ble_eq_true rfl) (Lt_isTime_ok t h r) rfl ?_
  rintro rv h r ⟨rfl, rfl, rfl⟩ -
  refine wq_cif_eq (tgt := 28) (q := 11) rfl rfl rfl (fun c8 => ?_) (fun c8 => ?_)
  · skip
    refine wq_iconst (n := 0) (q := 29) rfl rfl rfl ?_
    first | exact Lt_roundA a b t y 1 h r hI (bI_t (by omega)).symm | exact Lt_roundA a b t y 0 h r hI (bI_f (by omega)).symm
  · skip
    refine wq_iload (i := 4) (q := 13) rfl rfl rfl ?_
    refine wq_if_lt (tgt := 28) (q := 16) rfl rfl rfl (fun c13 => ?_) (fun c13 => ?_)
    · skip
      refine wq_iconst (n := 0) (q := 29) rfl rfl rfl ?_
      first | exact Lt_roundA a b t y 1 h r hI (bI_t (by omega)).symm | exact Lt_roundA a b t y 0 h r hI (bI_f (by omega)).symm
    · skip
      refine wq_iload (i := 4) (q := 18) rfl rfl rfl ?_
      refine wq_sipush (n := 999) (q := 21) rfl rfl rfl ?_
      refine wq_icmp_gt (tgt := 28) (q := 24) rfl rfl rfl (fun c21 => ?_) (fun c21 => ?_)
      · skip
        refine wq_iconst (n := 0) (q := 29) rfl rfl rfl ?_
        first | exact Lt_roundA a b t y 1 h r hI (bI_t (by omega)).symm | exact Lt_roundA a b t y 0 h r hI (bI_f (by omega)).symm
      · skip
        refine wq_iconst (n := 1) (q := 25) rfl rfl rfl ?_
        refine wq_goto (tgt := 29) rfl rfl ?_
        first | exact Lt_roundA a b t y 1 h r hI (bI_t (by omega)).symm | exact Lt_roundA a b t y 0 h r hI (bI_f (by omega)).symm
def Nd (N : mN) (a b t d : Int) (v : Int) : Prop := v = if sn N a t b = 1000000 then -3 else if sn (nRun N d 0) a t b = 1000000 then -2 else sn (nRun N d 0) a t b - sn N a t b
set_option maxRecDepth 100000 in
set_option maxHeartbeats 1000000 in
theorem Lt_needs_ok (a b t d : Int) (h : mH) (r : mR) (hI : IQ h r) : Meets true (rm 6) m_Lt_needs [vR 0, vI a, vI b, vI t, vI d] h r (qP h r (Ans (kD (h 2 1) a b (bI (isT t)) (h 2 4) d) (fun v tr => tr = 0 ∧ Nd (dN h 0) a b t d v))) := by
  have hcur := hI.2.2.2.1
  have q0 := qf.rf hI
  have hV := dN_V hI.1 0
  refine ⟨ok_Lt_needs, Nat.le_of_ble_eq_true rfl, ?_⟩
  refine wq_aload_n (kk := 0) (q := 1) rfl rfl rfl ?_
  refine wq_aload_n (kk := 0) (q := 2) rfl rfl rfl ?_
  refine wq_iload_n (kk := 1) (q := 3) rfl rfl rfl ?_
  refine wq_iload_n (kk := 2) (q := 4) rfl rfl rfl ?_
  refine wq_iload_n (kk := 3) (q := 5) rfl rfl rfl ?_
  refine wq_iload (i := 4) (q := 7) rfl rfl rfl ?_
  refine wq_callV (q := 10) (m' := m_Lt_lookAtHanging) (R' := rm 3) (As := [_, _, _, _]) rfl rfl l_Lt_302 vm_Lt_lookAtHanging rfl rfl rfl (Or.inl ⟨rfl, Nat.le_of_ble_eq_true rfl⟩) (Nat.le_of_ble_eq_true rfl) (Nat.le_of_ble_eq_true rfl) (Nat.le_refl _) (Nat.le_refl _) (Nat.le_of_ble_eq_true rfl) (Lt_lookAtHanging_ok a b t d h r hcur) rfl ?_
  rintro rv h r ⟨rfl, rfl, rfl⟩ -
  generalize hk : kD (h 2 1) a b (bI (isT t)) (h 2 4) d = k
  refine wq_callV (q := 13) (m' := m_Lt_isRefused) (R' := rm 1) (As := [_]) rfl rfl l_Lt_240 vm_Lt_isRefused rfl rfl rfl (Or.inl ⟨rfl, Nat.le_of_ble_eq_true rfl⟩) (Nat.le_of_ble_eq_true rfl) (Nat.le_of_ble_eq_true rfl) (Nat.le_refl _) (Nat.le_refl _) (Nat.le_of_ble_eq_true rfl) (Lt_isRefused_ok k h r) rfl ?_
  rintro rv h1 r ⟨rfl, rfl, rfl⟩ -
  have q1 := q0.put k
  refine wq_cif_eq (tgt := 18) (q := 16) rfl rfl rfl (fun c13 => ?_) (fun c13 => ?_)
  · skip
    refine wq_aload_n (kk := 0) (q := 19) rfl rfl rfl ?_
    refine wq_getF (q := 22) f_Lt_44 rfl rfl (Nat.le_of_ble_eq_true rfl) rfl rfl rfl ?_
    refine wq_aload_n (kk := 0) (q := 23) rfl rfl rfl ?_
    refine wq_getR (q := 26) f_Lt_16 rfl rfl (Or.inl ⟨rfl, Nat.le_of_ble_eq_true rfl⟩) hcur rfl rfl ?_
    refine wq_callV (q := 29) (m' := m_Ne_load) (R' := rm 4) (As := [_]) rfl rfl l_Lt_184 vm_Ne_load rfl rfl rfl (Or.inl ⟨rfl, Nat.le_of_ble_eq_true rfl⟩) (Nat.le_of_ble_eq_true rfl) (Nat.le_of_ble_eq_true rfl) (Nat.le_refl _) (Nat.le_refl _) (Nat.le_of_ble_eq_true rfl) (Lt_load q1) rfl ?_
    rintro rv h2 r2 ⟨rfl, q2, w2⟩ -
    have k0 : k = 0 := by simpa using c13
    subst k0
    have hab := kD_0 hk
    have ht := bI_ne hab.2.2
    have hdd := q2.DV.2.2.1 d hab.1.1 (by rw [q2.at2 4]; exact hab.1.2)
    have hN := hI.1.1
    refine wq_aload_n (kk := 0) (q := 30) rfl rfl rfl ?_
    refine wq_iload_n (kk := 1) (q := 31) rfl rfl rfl ?_
    refine wq_iload_n (kk := 2) (q := 32) rfl rfl rfl ?_
    refine wq_iload_n (kk := 3) (q := 33) rfl rfl rfl ?_
    refine wq_callV (q := 36) (m' := m_Lt_soonestAt) (R' := rm 5) (As := [_, _, _]) rfl rfl l_Lt_264 vm_Lt_soonestAt rfl rfl rfl (Or.inl ⟨rfl, Nat.le_of_ble_eq_true rfl⟩) (Nat.le_of_ble_eq_true rfl) (Nat.le_of_ble_eq_true rfl) (Nat.le_refl _) (Nat.le_refl _) (Nat.le_of_ble_eq_true rfl) (Lt_soonestAt_ok (dN h 0) a b t h2 r2 w2 hab.2.1.1 hab.2.1.2) rfl ?_
    rintro rv h3 r2 ⟨v, rfl, hs, rfl, f3⟩ -
    have q3 := q2.scr f3 (by decide)
    have w3 := w2.fr f3 (by decide)
    have ev := hs.sn hV hab.2.1.2
    have hr := sn_r hV (a := a) (b := b) ht
    have h12 : h3 12 d = h2 12 d := f3.at 12 d (by decide)
    refine wq_istore (i := 5) (q := 38) rfl rfl (Nat.le_of_ble_eq_true rfl) rfl ?_
    refine wq_iload (i := 5) (q := 40) rfl rfl rfl ?_
    refine wq_ldcw (n := 1000000) (q := 43) k_Lt_257 rfl rfl rfl ?_
    refine wq_icmp_ne (tgt := 53) (q := 46) rfl rfl rfl (fun c43 => ?_) (fun c43 => ?_)
    · skip
      refine wq_aload_n (kk := 0) (q := 54) rfl rfl rfl ?_
      refine wq_getF (q := 57) f_Lt_44 rfl rfl (Nat.le_of_ble_eq_true rfl) rfl rfl rfl ?_
      refine wq_iload (i := 4) (q := 59) rfl rfl rfl ?_
      refine wq_iconst (n := 0) (q := 60) rfl rfl rfl ?_
      refine wq_callV (q := 63) (m' := m_Ne_setRuns) (R' := rm 1) (As := [_, _]) rfl rfl l_Lt_305 vm_Ne_setRuns rfl rfl rfl (Or.inl ⟨rfl, Nat.le_of_ble_eq_true rfl⟩) (Nat.le_of_ble_eq_true rfl) (Nat.le_of_ble_eq_true rfl) (Nat.le_refl _) (Nat.le_refl _) (Nat.le_of_ble_eq_true rfl) (Ne_setRuns_ok d 0 0 h3 r2 w3.1 (by omega) (Or.inl rfl) (by omega) rfl) rfl ?_
      rintro rv h4 r2 ⟨rfl, rfl, rfl⟩ -
      have q4 := q3.scr (S := [34]) (h2 := hup h3 34 d 0) (fr.rf.up (by decide)) (by decide)
      have w4 := w3.run (d := d) (v := 0) (Or.inl rfl)
      refine wq_aload_n (kk := 0) (q := 64) rfl rfl rfl ?_
      refine wq_iload_n (kk := 1) (q := 65) rfl rfl rfl ?_
      refine wq_iload_n (kk := 2) (q := 66) rfl rfl rfl ?_
      refine wq_iload_n (kk := 3) (q := 67) rfl rfl rfl ?_
      refine wq_callV (q := 70) (m' := m_Lt_soonestAt) (R' := rm 5) (As := [_, _, _]) rfl rfl l_Lt_264 vm_Lt_soonestAt rfl rfl rfl (Or.inl ⟨rfl, Nat.le_of_ble_eq_true rfl⟩) (Nat.le_of_ble_eq_true rfl) (Nat.le_of_ble_eq_true rfl) (Nat.le_refl _) (Nat.le_refl _) (Nat.le_of_ble_eq_true rfl) (Lt_soonestAt_ok (nRun (dN h 0) d 0) a b t _ r2 w4 hab.2.1.1 hab.2.1.2) rfl ?_
      rintro rv h5 r2 ⟨v2, rfl, hs5, rfl, f5⟩ -
      have q5 := q4.scr f5 (by decide)
      have ev5 := hs5.sn w4.2.1 hab.2.1.2
      have hr5 := sn_r w4.2.1 (a := a) (b := b) ht
      refine wq_istore (i := 6) (q := 72) rfl rfl (Nat.le_of_ble_eq_true rfl) rfl ?_
      refine wq_aload_n (kk := 0) (q := 73) rfl rfl rfl ?_
      refine wq_iload (i := 6) (q := 75) rfl rfl rfl ?_
      refine wq_ldcw (n := 1000000) (q := 78) k_Lt_257 rfl rfl rfl ?_
      refine wq_icmp_ne (tgt := 86) (q := 81) rfl rfl rfl (fun c78 => ?_) (fun c78 => ?_)
      · skip
        refine wq_iload (i := 6) (q := 88) rfl rfl rfl ?_
        refine wq_iload (i := 5) (q := 90) rfl rfl rfl ?_
        refine wq_isub (q := 91) rfl rfl (by first | omega | (simp [hup]; omega)) (by first | omega | (simp [hup]; omega)) ?_
        refine wq_callV (q := 94) (m' := m_Lt_answer) (R' := rm 1) (As := [_]) rfl rfl l_Lt_113 vm_Lt_answer rfl rfl rfl (Or.inl ⟨rfl, Nat.le_of_ble_eq_true rfl⟩) (Nat.le_of_ble_eq_true rfl) (Nat.le_of_ble_eq_true rfl) (Nat.le_refl _) (Nat.le_refl _) (Nat.le_of_ble_eq_true rfl) (Lt_answer_ok _ h5 r2) rfl ?_
        rintro rv h6 r2 ⟨rfl, rfl, rfl⟩ -
        refine wq_iret rfl rfl (Nat.le_refl _) (Nat.le_refl _) ⟨_, rfl, Or.inr ⟨rfl, hup_s, ?_⟩, q5.put 0⟩
        unfold Nd
        rw [← ev, if_neg (by omega), ← ev5]
        first | exact (if_pos (by omega)).symm | exact (if_neg (by omega)).symm
      · skip
        refine wq_bipush (n := -2) (q := 83) rfl rfl rfl ?_
        refine wq_goto (tgt := 91) rfl rfl ?_
        refine wq_callV (q := 94) (m' := m_Lt_answer) (R' := rm 1) (As := [_]) rfl rfl l_Lt_113 vm_Lt_answer rfl rfl rfl (Or.inl ⟨rfl, Nat.le_of_ble_eq_true rfl⟩) (Nat.le_of_ble_eq_true rfl) (Nat.le_of_ble_eq_true rfl) (Nat.le_refl _) (Nat.le_refl _) (Nat.le_of_ble_eq_true rfl) (Lt_answer_ok _ h5 r2) rfl ?_
        rintro rv h6 r2 ⟨rfl, rfl, rfl⟩ -
        refine wq_iret rfl rfl (Nat.le_refl _) (Nat.le_refl _) ⟨_, rfl, Or.inr ⟨rfl, hup_s, ?_⟩, q5.put 0⟩
        unfold Nd
        rw [← ev, if_neg (by omega), ← ev5]
        first | exact (if_pos (by omega)).symm | exact (if_neg (by omega)).symm
    · skip
      refine wq_aload_n (kk := 0) (q := 47) rfl rfl rfl ?_
      refine wq_bipush (n := -3) (q := 49) rfl rfl rfl ?_
      refine wq_callV (q := 52) (m' := m_Lt_answer) (R' := rm 1) (As := [_]) rfl rfl l_Lt_113 vm_Lt_answer rfl rfl rfl (Or.inl ⟨rfl, Nat.le_of_ble_eq_true rfl⟩) (Nat.le_of_ble_eq_true rfl) (Nat.le_of_ble_eq_true rfl) (Nat.le_refl _) (Nat.le_refl _) (Nat.le_of_ble_eq_true rfl) (Lt_answer_ok _ h3 r2) rfl ?_
      rintro rv h4 r1 ⟨rfl, rfl, rfl⟩ -
      exact wq_iret rfl rfl (Nat.le_refl _) (Nat.le_refl _) ⟨_, rfl, Or.inr ⟨rfl, hup_s, (if_pos (by omega)).symm⟩, q3.put 0⟩
  · skip
    refine wq_iconst (n := -1) (q := 17) rfl rfl rfl ?_
    exact wq_iret rfl rfl (Nat.le_refl _) (Nat.le_refl _) ⟨_, rfl, Or.inl ⟨c13, rfl, hup_s⟩, q1⟩

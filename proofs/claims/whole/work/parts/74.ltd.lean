/-! LinkTimes: about, spot, departure, size, trouble, fault, where -/
noncomputable def kO (P : Prop) : Int := 1 - bI P
theorem kO_t {P : Prop} (h : P) : kO P = 0 := by unfold kO; rw [bI_t h]; rfl
theorem kO_f {P : Prop} (h : ¬ P) : kO P = 1 := by unfold kO; rw [bI_f h]; rfl
theorem qP.o {h : mH} {r : mR} {h1 : mH} {r1 : mR} {P : Prop} {Q : Int → Int → Prop} (q : qf h r h1 r1) (hp : ¬ P) : qP h r (Ans (kO P) Q) (some (vI (-1))) (hup h1 0 12 1) r1 := ⟨_, rfl, Or.inl ⟨by rw [kO_f hp]; decide, rfl, by rw [kO_f hp, hup_s]⟩, q.put 1⟩
theorem qP.y {h : mH} {r : mR} {h1 : mH} {r1 : mR} {P : Prop} {F v : Int} (q : qf h r h1 r1) (hp : P) (hv : v = F) : qP h r (Ans (kO P) (fun v tr => tr = 0 ∧ v = F)) (some (vI v)) (hup h1 0 12 0) r1 := ⟨_, rfl, Or.inr ⟨kO_t hp, hup_s, hv⟩, q.put 0⟩
def abV (h : mH) (w : Int) : Int := if w = 5 then cn (fun d => h 12 d == 0) (h 2 4).toNat else h 2 w
set_option maxRecDepth 100000 in
set_option maxHeartbeats 1000000 in
theorem Lt_about_ok (w : Int) (h : mH) (r : mR) (hI : IQ h r) : Meets true (rm 2) m_Lt_about [vR 0, vI w] h r (qP h r (Ans (kO (0 < h 2 1 ∧ 0 ≤ w ∧ w ≤ 5)) (fun v tr => tr = 0 ∧ v = abV h w))) := by
  have hcur := hI.2.2.2.1
  have q0 := qf.rf hI
  refine ⟨ok_Lt_about, Nat.le_of_ble_eq_true rfl, ?_⟩
  refine wq_aload_n (kk := 0) (q := 1) rfl rfl rfl ?_
  refine wq_getR (q := 4) f_Lt_16 rfl rfl (Or.inl ⟨rfl, Nat.le_of_ble_eq_true rfl⟩) hcur rfl rfl ?_
  refine wq_callV (q := 7) (m' := m_De_isTold) (R' := rm 1) (As := []) rfl rfl l_Lt_119 vm_De_isTold rfl rfl rfl (Or.inl ⟨rfl, Nat.le_of_ble_eq_true rfl⟩) (Nat.le_of_ble_eq_true rfl) (Nat.le_of_ble_eq_true rfl) (Nat.le_refl _) (Nat.le_refl _) (Nat.le_of_ble_eq_true rfl) (De_isTold_ok 2 (Or.inl rfl) h r) rfl ?_
  rintro rv h r ⟨rfl, rfl, rfl⟩ -
  refine wq_cif_ne (tgt := 16) (q := 10) rfl rfl rfl (fun c7 => ?_) (fun c7 => ?_)
  · skip
    refine wq_iload_n (kk := 1) (q := 17) rfl rfl rfl ?_
    refine wq_tabL (tg := [56, 68, 80, 92, 104, 116]) (td := 128) rfl rfl rfl (fun c17 => ?_) (tab_c (fun c17 => ?_) (tab_c (fun c17 => ?_) (tab_c (fun c17 => ?_) (tab_c (fun c17 => ?_) (tab_c (fun c17 => ?_) (tab_c (fun c17 => ?_) (tab_n)))))))
    · skip
      refine wq_aload_n (kk := 0) (q := 129) rfl rfl rfl ?_
      refine wq_iconst (n := 1) (q := 130) rfl rfl rfl ?_
      refine wq_callV (q := 133) (m' := m_Lt_refuse) (R' := rm 1) (As := [_]) rfl rfl l_Lt_87 vm_Lt_refuse rfl rfl rfl (Or.inl ⟨rfl, Nat.le_of_ble_eq_true rfl⟩) (Nat.le_of_ble_eq_true rfl) (Nat.le_of_ble_eq_true rfl) (Nat.le_refl _) (Nat.le_refl _) (Nat.le_of_ble_eq_true rfl) (Lt_refuse_ok _ _ _) rfl ?_
      rintro rv h1 r ⟨rfl, rfl, rfl⟩ -
      exact wq_iret rfl rfl (Nat.le_refl _) (Nat.le_refl _) (qP.o q0 (by first | omega | (simp at c17; omega)))
    · skip
      refine wq_aload_n (kk := 0) (q := 57) rfl rfl rfl ?_
      refine wq_aload_n (kk := 0) (q := 58) rfl rfl rfl ?_
      refine wq_getR (q := 61) f_Lt_16 rfl rfl (Or.inl ⟨rfl, Nat.le_of_ble_eq_true rfl⟩) hcur rfl rfl ?_
      refine wq_getI (kz := 0) (q := 64) rfl f_Lt_123 rfl rfl (Or.inl ⟨rfl, Nat.le_of_ble_eq_true rfl⟩) rfl rfl ?_
      refine wq_callV (q := 67) (m' := m_Lt_answer) (R' := rm 1) (As := [_]) rfl rfl l_Lt_113 vm_Lt_answer rfl rfl rfl (Or.inl ⟨rfl, Nat.le_of_ble_eq_true rfl⟩) (Nat.le_of_ble_eq_true rfl) (Nat.le_of_ble_eq_true rfl) (Nat.le_refl _) (Nat.le_refl _) (Nat.le_of_ble_eq_true rfl) (Lt_answer_ok _ _ _) rfl ?_
      rintro rv h1 r ⟨rfl, rfl, rfl⟩ -
      subst c17
      exact wq_iret rfl rfl (Nat.le_refl _) (Nat.le_refl _) (qP.y q0 (by omega) rfl)
    · skip
      refine wq_aload_n (kk := 0) (q := 69) rfl rfl rfl ?_
      refine wq_aload_n (kk := 0) (q := 70) rfl rfl rfl ?_
      refine wq_getR (q := 73) f_Lt_16 rfl rfl (Or.inl ⟨rfl, Nat.le_of_ble_eq_true rfl⟩) hcur rfl rfl ?_
      refine wq_getI (kz := 1) (q := 76) rfl f_Lt_126 rfl rfl (Or.inl ⟨rfl, Nat.le_of_ble_eq_true rfl⟩) rfl rfl ?_
      refine wq_callV (q := 79) (m' := m_Lt_answer) (R' := rm 1) (As := [_]) rfl rfl l_Lt_113 vm_Lt_answer rfl rfl rfl (Or.inl ⟨rfl, Nat.le_of_ble_eq_true rfl⟩) (Nat.le_of_ble_eq_true rfl) (Nat.le_of_ble_eq_true rfl) (Nat.le_refl _) (Nat.le_refl _) (Nat.le_of_ble_eq_true rfl) (Lt_answer_ok _ _ _) rfl ?_
      rintro rv h1 r ⟨rfl, rfl, rfl⟩ -
      subst c17
      exact wq_iret rfl rfl (Nat.le_refl _) (Nat.le_refl _) (qP.y q0 (by omega) rfl)
    · skip
      refine wq_aload_n (kk := 0) (q := 81) rfl rfl rfl ?_
      refine wq_aload_n (kk := 0) (q := 82) rfl rfl rfl ?_
      refine wq_getR (q := 85) f_Lt_16 rfl rfl (Or.inl ⟨rfl, Nat.le_of_ble_eq_true rfl⟩) hcur rfl rfl ?_
      refine wq_getI (kz := 2) (q := 88) rfl f_Lt_129 rfl rfl (Or.inl ⟨rfl, Nat.le_of_ble_eq_true rfl⟩) rfl rfl ?_
      refine wq_callV (q := 91) (m' := m_Lt_answer) (R' := rm 1) (As := [_]) rfl rfl l_Lt_113 vm_Lt_answer rfl rfl rfl (Or.inl ⟨rfl, Nat.le_of_ble_eq_true rfl⟩) (Nat.le_of_ble_eq_true rfl) (Nat.le_of_ble_eq_true rfl) (Nat.le_refl _) (Nat.le_refl _) (Nat.le_of_ble_eq_true rfl) (Lt_answer_ok _ _ _) rfl ?_
      rintro rv h1 r ⟨rfl, rfl, rfl⟩ -
      subst c17
      exact wq_iret rfl rfl (Nat.le_refl _) (Nat.le_refl _) (qP.y q0 (by omega) rfl)
    · skip
      refine wq_aload_n (kk := 0) (q := 93) rfl rfl rfl ?_
      refine wq_aload_n (kk := 0) (q := 94) rfl rfl rfl ?_
      refine wq_getR (q := 97) f_Lt_16 rfl rfl (Or.inl ⟨rfl, Nat.le_of_ble_eq_true rfl⟩) hcur rfl rfl ?_
      refine wq_getI (kz := 3) (q := 100) rfl f_Lt_132 rfl rfl (Or.inl ⟨rfl, Nat.le_of_ble_eq_true rfl⟩) rfl rfl ?_
      refine wq_callV (q := 103) (m' := m_Lt_answer) (R' := rm 1) (As := [_]) rfl rfl l_Lt_113 vm_Lt_answer rfl rfl rfl (Or.inl ⟨rfl, Nat.le_of_ble_eq_true rfl⟩) (Nat.le_of_ble_eq_true rfl) (Nat.le_of_ble_eq_true rfl) (Nat.le_refl _) (Nat.le_refl _) (Nat.le_of_ble_eq_true rfl) (Lt_answer_ok _ _ _) rfl ?_
      rintro rv h1 r ⟨rfl, rfl, rfl⟩ -
      subst c17
      exact wq_iret rfl rfl (Nat.le_refl _) (Nat.le_refl _) (qP.y q0 (by omega) rfl)
    · skip
      refine wq_aload_n (kk := 0) (q := 105) rfl rfl rfl ?_
      refine wq_aload_n (kk := 0) (q := 106) rfl rfl rfl ?_
      refine wq_getR (q := 109) f_Lt_16 rfl rfl (Or.inl ⟨rfl, Nat.le_of_ble_eq_true rfl⟩) hcur rfl rfl ?_
      refine wq_getI (kz := 4) (q := 112) rfl f_Lt_110 rfl rfl (Or.inl ⟨rfl, Nat.le_of_ble_eq_true rfl⟩) rfl rfl ?_
      refine wq_callV (q := 115) (m' := m_Lt_answer) (R' := rm 1) (As := [_]) rfl rfl l_Lt_113 vm_Lt_answer rfl rfl rfl (Or.inl ⟨rfl, Nat.le_of_ble_eq_true rfl⟩) (Nat.le_of_ble_eq_true rfl) (Nat.le_of_ble_eq_true rfl) (Nat.le_refl _) (Nat.le_refl _) (Nat.le_of_ble_eq_true rfl) (Lt_answer_ok _ _ _) rfl ?_
      rintro rv h1 r ⟨rfl, rfl, rfl⟩ -
      subst c17
      exact wq_iret rfl rfl (Nat.le_refl _) (Nat.le_refl _) (qP.y q0 (by omega) rfl)
    · skip
      refine wq_aload_n (kk := 0) (q := 117) rfl rfl rfl ?_
      refine wq_aload_n (kk := 0) (q := 118) rfl rfl rfl ?_
      refine wq_getR (q := 121) f_Lt_16 rfl rfl (Or.inl ⟨rfl, Nat.le_of_ble_eq_true rfl⟩) hcur rfl rfl ?_
      refine wq_callV (q := 124) (m' := m_De_runningCount) (R' := rm 1) (As := []) rfl rfl l_Lt_135 vm_De_runningCount rfl rfl rfl (Or.inl ⟨rfl, Nat.le_of_ble_eq_true rfl⟩) (Nat.le_of_ble_eq_true rfl) (Nat.le_of_ble_eq_true rfl) (Nat.le_refl _) (Nat.le_refl _) (Nat.le_of_ble_eq_true rfl) (De_runningCount_ok h r hI.1.1) rfl ?_
      rintro rv h r ⟨rfl, rfl, rfl⟩ -
      refine wq_callV (q := 127) (m' := m_Lt_answer) (R' := rm 1) (As := [_]) rfl rfl l_Lt_113 vm_Lt_answer rfl rfl rfl (Or.inl ⟨rfl, Nat.le_of_ble_eq_true rfl⟩) (Nat.le_of_ble_eq_true rfl) (Nat.le_of_ble_eq_true rfl) (Nat.le_refl _) (Nat.le_refl _) (Nat.le_of_ble_eq_true rfl) (Lt_answer_ok _ _ _) rfl ?_
      rintro rv h1 r ⟨rfl, rfl, rfl⟩ -
      subst c17
      exact wq_iret rfl rfl (Nat.le_refl _) (Nat.le_refl _) (qP.y q0 (by omega) rfl)
  · skip
    refine wq_aload_n (kk := 0) (q := 11) rfl rfl rfl ?_
    refine wq_iconst (n := 1) (q := 12) rfl rfl rfl ?_
    refine wq_callV (q := 15) (m' := m_Lt_refuse) (R' := rm 1) (As := [_]) rfl rfl l_Lt_87 vm_Lt_refuse rfl rfl rfl (Or.inl ⟨rfl, Nat.le_of_ble_eq_true rfl⟩) (Nat.le_of_ble_eq_true rfl) (Nat.le_of_ble_eq_true rfl) (Nat.le_refl _) (Nat.le_refl _) (Nat.le_of_ble_eq_true rfl) (Lt_refuse_ok _ _ _) rfl ?_
    rintro rv h1 r ⟨rfl, rfl, rfl⟩ -
    exact wq_iret rfl rfl (Nat.le_refl _) (Nat.le_refl _) (qP.o q0 (by first | omega | (simp at c17; omega)))
def spV (h : mH) (s w : Int) : Int := if w = 0 then h 3 s else if w = 1 then h 4 s else if w = 2 then cn (fun d => (h 12 d == 0) && (h 6 d == s)) (h 2 4).toNat else cn (fun d => (h 12 d == 0) && (h 7 d == s)) (h 2 4).toNat
set_option maxRecDepth 100000 in
set_option maxHeartbeats 1000000 in
theorem Lt_spot_ok (s w : Int) (h : mH) (r : mR) (hI : IQ h r) : Meets true (rm 2) m_Lt_spot [vR 0, vI s, vI w] h r (qP h r (Ans (kO ((0 ≤ s ∧ s < h 2 1) ∧ 0 ≤ w ∧ w ≤ 3)) (fun v tr => tr = 0 ∧ v = spV h s w))) := by
  have hcur := hI.2.2.2.1
  have q0 := qf.rf hI
  have hS := hI.1.2.1
  refine ⟨ok_Lt_spot, Nat.le_of_ble_eq_true rfl, ?_⟩
  refine wq_aload_n (kk := 0) (q := 1) rfl rfl rfl ?_
  refine wq_getR (q := 4) f_Lt_16 rfl rfl (Or.inl ⟨rfl, Nat.le_of_ble_eq_true rfl⟩) hcur rfl rfl ?_
  refine wq_iload_n (kk := 1) (q := 5) rfl rfl rfl ?_
  refine wq_callV (q := 8) (m' := m_De_hasSpot) (R' := rm 1) (As := [_]) rfl rfl l_Lt_139 vm_De_hasSpot rfl rfl rfl (Or.inl ⟨rfl, Nat.le_of_ble_eq_true rfl⟩) (Nat.le_of_ble_eq_true rfl) (Nat.le_of_ble_eq_true rfl) (Nat.le_refl _) (Nat.le_refl _) (Nat.le_of_ble_eq_true rfl) (De_hasSpot_ok s h r) rfl ?_
  rintro rv h r ⟨rfl, rfl, rfl⟩ -
  refine wq_cif_ne (tgt := 17) (q := 11) rfl rfl rfl (fun c8 => ?_) (fun c8 => ?_)
  · skip
    refine wq_iload_n (kk := 2) (q := 18) rfl rfl rfl ?_
    refine wq_tabL (tg := [48, 62, 76, 89]) (td := 102) rfl rfl rfl (fun c18 => ?_) (tab_c (fun c18 => ?_) (tab_c (fun c18 => ?_) (tab_c (fun c18 => ?_) (tab_c (fun c18 => ?_) (tab_n)))))
    · skip
      refine wq_aload_n (kk := 0) (q := 103) rfl rfl rfl ?_
      refine wq_iconst (n := 1) (q := 104) rfl rfl rfl ?_
      refine wq_callV (q := 107) (m' := m_Lt_refuse) (R' := rm 1) (As := [_]) rfl rfl l_Lt_87 vm_Lt_refuse rfl rfl rfl (Or.inl ⟨rfl, Nat.le_of_ble_eq_true rfl⟩) (Nat.le_of_ble_eq_true rfl) (Nat.le_of_ble_eq_true rfl) (Nat.le_refl _) (Nat.le_refl _) (Nat.le_of_ble_eq_true rfl) (Lt_refuse_ok _ _ _) rfl ?_
      rintro rv h1 r ⟨rfl, rfl, rfl⟩ -
      exact wq_iret rfl rfl (Nat.le_refl _) (Nat.le_refl _) (qP.o q0 (by first | omega | (simp at c18; omega)))
    · skip
      refine wq_aload_n (kk := 0) (q := 49) rfl rfl rfl ?_
      refine wq_aload_n (kk := 0) (q := 50) rfl rfl rfl ?_
      refine wq_getR (q := 53) f_Lt_16 rfl rfl (Or.inl ⟨rfl, Nat.le_of_ble_eq_true rfl⟩) hcur rfl rfl ?_
      refine wq_getF (q := 56) f_Lt_143 rfl rfl (Nat.le_of_ble_eq_true rfl) rfl rfl rfl ?_
      refine wq_iload_n (kk := 1) (q := 57) rfl rfl rfl ?_
      refine wq_iald (q := 58) rfl (Or.inl ⟨rfl, Nat.le_of_ble_eq_true rfl⟩) rfl rfl (by first | omega | (simp [hup]; omega)) (by first | omega | (simp [hup]; omega)) ?_
      refine wq_callV (q := 61) (m' := m_Lt_answer) (R' := rm 1) (As := [_]) rfl rfl l_Lt_113 vm_Lt_answer rfl rfl rfl (Or.inl ⟨rfl, Nat.le_of_ble_eq_true rfl⟩) (Nat.le_of_ble_eq_true rfl) (Nat.le_of_ble_eq_true rfl) (Nat.le_refl _) (Nat.le_refl _) (Nat.le_of_ble_eq_true rfl) (Lt_answer_ok _ _ _) rfl ?_
      rintro rv h1 r ⟨rfl, rfl, rfl⟩ -
      subst c18
      exact wq_iret rfl rfl (Nat.le_refl _) (Nat.le_refl _) (qP.y q0 (by omega) rfl)
    · skip
      refine wq_aload_n (kk := 0) (q := 63) rfl rfl rfl ?_
      refine wq_aload_n (kk := 0) (q := 64) rfl rfl rfl ?_
      refine wq_getR (q := 67) f_Lt_16 rfl rfl (Or.inl ⟨rfl, Nat.le_of_ble_eq_true rfl⟩) hcur rfl rfl ?_
      refine wq_getF (q := 70) f_Lt_147 rfl rfl (Nat.le_of_ble_eq_true rfl) rfl rfl rfl ?_
      refine wq_iload_n (kk := 1) (q := 71) rfl rfl rfl ?_
      refine wq_iald (q := 72) rfl (Or.inl ⟨rfl, Nat.le_of_ble_eq_true rfl⟩) rfl rfl (by first | omega | (simp [hup]; omega)) (by first | omega | (simp [hup]; omega)) ?_
      refine wq_callV (q := 75) (m' := m_Lt_answer) (R' := rm 1) (As := [_]) rfl rfl l_Lt_113 vm_Lt_answer rfl rfl rfl (Or.inl ⟨rfl, Nat.le_of_ble_eq_true rfl⟩) (Nat.le_of_ble_eq_true rfl) (Nat.le_of_ble_eq_true rfl) (Nat.le_refl _) (Nat.le_refl _) (Nat.le_of_ble_eq_true rfl) (Lt_answer_ok _ _ _) rfl ?_
      rintro rv h1 r ⟨rfl, rfl, rfl⟩ -
      subst c18
      exact wq_iret rfl rfl (Nat.le_refl _) (Nat.le_refl _) (qP.y q0 (by omega) rfl)
    · skip
      refine wq_aload_n (kk := 0) (q := 77) rfl rfl rfl ?_
      refine wq_aload_n (kk := 0) (q := 78) rfl rfl rfl ?_
      refine wq_getR (q := 81) f_Lt_16 rfl rfl (Or.inl ⟨rfl, Nat.le_of_ble_eq_true rfl⟩) hcur rfl rfl ?_
      refine wq_iload_n (kk := 1) (q := 82) rfl rfl rfl ?_
      refine wq_callV (q := 85) (m' := m_De_countFrom) (R' := rm 1) (As := [_]) rfl rfl l_Lt_150 vm_De_countFrom rfl rfl rfl (Or.inl ⟨rfl, Nat.le_of_ble_eq_true rfl⟩) (Nat.le_of_ble_eq_true rfl) (Nat.le_of_ble_eq_true rfl) (Nat.le_refl _) (Nat.le_refl _) (Nat.le_of_ble_eq_true rfl) (De_countFrom_ok s h r hI.1.1) rfl ?_
      rintro rv h r ⟨rfl, rfl, rfl⟩ -
      refine wq_callV (q := 88) (m' := m_Lt_answer) (R' := rm 1) (As := [_]) rfl rfl l_Lt_113 vm_Lt_answer rfl rfl rfl (Or.inl ⟨rfl, Nat.le_of_ble_eq_true rfl⟩) (Nat.le_of_ble_eq_true rfl) (Nat.le_of_ble_eq_true rfl) (Nat.le_refl _) (Nat.le_refl _) (Nat.le_of_ble_eq_true rfl) (Lt_answer_ok _ _ _) rfl ?_
      rintro rv h1 r ⟨rfl, rfl, rfl⟩ -
      subst c18
      exact wq_iret rfl rfl (Nat.le_refl _) (Nat.le_refl _) (qP.y q0 (by omega) rfl)
    · skip
      refine wq_aload_n (kk := 0) (q := 90) rfl rfl rfl ?_
      refine wq_aload_n (kk := 0) (q := 91) rfl rfl rfl ?_
      refine wq_getR (q := 94) f_Lt_16 rfl rfl (Or.inl ⟨rfl, Nat.le_of_ble_eq_true rfl⟩) hcur rfl rfl ?_
      refine wq_iload_n (kk := 1) (q := 95) rfl rfl rfl ?_
      refine wq_callV (q := 98) (m' := m_De_countTo) (R' := rm 1) (As := [_]) rfl rfl l_Lt_153 vm_De_countTo rfl rfl rfl (Or.inl ⟨rfl, Nat.le_of_ble_eq_true rfl⟩) (Nat.le_of_ble_eq_true rfl) (Nat.le_of_ble_eq_true rfl) (Nat.le_refl _) (Nat.le_refl _) (Nat.le_of_ble_eq_true rfl) (De_countTo_ok s h r hI.1.1) rfl ?_
      rintro rv h r ⟨rfl, rfl, rfl⟩ -
      refine wq_callV (q := 101) (m' := m_Lt_answer) (R' := rm 1) (As := [_]) rfl rfl l_Lt_113 vm_Lt_answer rfl rfl rfl (Or.inl ⟨rfl, Nat.le_of_ble_eq_true rfl⟩) (Nat.le_of_ble_eq_true rfl) (Nat.le_of_ble_eq_true rfl) (Nat.le_refl _) (Nat.le_refl _) (Nat.le_of_ble_eq_true rfl) (Lt_answer_ok _ _ _) rfl ?_
      rintro rv h1 r ⟨rfl, rfl, rfl⟩ -
      subst c18
      exact wq_iret rfl rfl (Nat.le_refl _) (Nat.le_refl _) (qP.y q0 (by omega) rfl)
  · skip
    refine wq_aload_n (kk := 0) (q := 12) rfl rfl rfl ?_
    refine wq_iconst (n := 1) (q := 13) rfl rfl rfl ?_
    refine wq_callV (q := 16) (m' := m_Lt_refuse) (R' := rm 1) (As := [_]) rfl rfl l_Lt_87 vm_Lt_refuse rfl rfl rfl (Or.inl ⟨rfl, Nat.le_of_ble_eq_true rfl⟩) (Nat.le_of_ble_eq_true rfl) (Nat.le_of_ble_eq_true rfl) (Nat.le_refl _) (Nat.le_refl _) (Nat.le_of_ble_eq_true rfl) (Lt_refuse_ok _ _ _) rfl ?_
    rintro rv h1 r ⟨rfl, rfl, rfl⟩ -
    exact wq_iret rfl rfl (Nat.le_refl _) (Nat.le_refl _) (qP.o q0 (by first | omega | (simp at c18; omega)))
def deV (h : mH) (d w : Int) : Int := if w = 0 then h 5 d else if w = 1 then h 6 d else if w = 2 then h 7 d else if w = 3 then h 8 d + h 10 d else if w = 4 then h 8 d + h 10 d + h 9 d else if w = 5 then h 10 d else if w = 6 then 1 - h 12 d else h 11 d
set_option maxRecDepth 100000 in
set_option maxHeartbeats 1000000 in
theorem Lt_departure_ok (d w : Int) (h : mH) (r : mR) (hI : IQ h r) : Meets true (rm 2) m_Lt_departure [vR 0, vI d, vI w] h r (qP h r (Ans (kO ((0 ≤ d ∧ d < h 2 4) ∧ 0 ≤ w ∧ w ≤ 7)) (fun v tr => tr = 0 ∧ v = deV h d w))) := by
  have hcur := hI.2.2.2.1
  have q0 := qf.rf hI
  have hN := hI.1.1
  have hD := hI.1.2.2.1 d
  refine ⟨ok_Lt_departure, Nat.le_of_ble_eq_true rfl, ?_⟩
  refine wq_aload_n (kk := 0) (q := 1) rfl rfl rfl ?_
  refine wq_getR (q := 4) f_Lt_16 rfl rfl (Or.inl ⟨rfl, Nat.le_of_ble_eq_true rfl⟩) hcur rfl rfl ?_
  refine wq_iload_n (kk := 1) (q := 5) rfl rfl rfl ?_
  refine wq_callV (q := 8) (m' := m_De_hasDeparture) (R' := rm 1) (As := [_]) rfl rfl l_Lt_156 vm_De_hasDeparture rfl rfl rfl (Or.inl ⟨rfl, Nat.le_of_ble_eq_true rfl⟩) (Nat.le_of_ble_eq_true rfl) (Nat.le_of_ble_eq_true rfl) (Nat.le_refl _) (Nat.le_refl _) (Nat.le_of_ble_eq_true rfl) (De_hasDeparture_ok d h r) rfl ?_
  rintro rv h r ⟨rfl, rfl, rfl⟩ -
  refine wq_cif_ne (tgt := 17) (q := 11) rfl rfl rfl (fun c8 => ?_) (fun c8 => ?_)
  · skip
    refine wq_iload_n (kk := 2) (q := 18) rfl rfl rfl ?_
    refine wq_tabL (tg := [64, 78, 92, 106, 130, 164, 178, 200]) (td := 214) rfl rfl rfl (fun c18 => ?_) (tab_c (fun c18 => ?_) (tab_c (fun c18 => ?_) (tab_c (fun c18 => ?_) (tab_c (fun c18 => ?_) (tab_c (fun c18 => ?_) (tab_c (fun c18 => ?_) (tab_c (fun c18 => ?_) (tab_c (fun c18 => ?_) (tab_n)))))))))
    · skip
      refine wq_aload_n (kk := 0) (q := 215) rfl rfl rfl ?_
      refine wq_iconst (n := 1) (q := 216) rfl rfl rfl ?_
      refine wq_callV (q := 219) (m' := m_Lt_refuse) (R' := rm 1) (As := [_]) rfl rfl l_Lt_87 vm_Lt_refuse rfl rfl rfl (Or.inl ⟨rfl, Nat.le_of_ble_eq_true rfl⟩) (Nat.le_of_ble_eq_true rfl) (Nat.le_of_ble_eq_true rfl) (Nat.le_refl _) (Nat.le_refl _) (Nat.le_of_ble_eq_true rfl) (Lt_refuse_ok _ _ _) rfl ?_
      rintro rv h1 r ⟨rfl, rfl, rfl⟩ -
      exact wq_iret rfl rfl (Nat.le_refl _) (Nat.le_refl _) (qP.o q0 (by first | omega | (simp at c18; omega)))
    · skip
      refine wq_aload_n (kk := 0) (q := 65) rfl rfl rfl ?_
      refine wq_aload_n (kk := 0) (q := 66) rfl rfl rfl ?_
      refine wq_getR (q := 69) f_Lt_16 rfl rfl (Or.inl ⟨rfl, Nat.le_of_ble_eq_true rfl⟩) hcur rfl rfl ?_
      refine wq_getF (q := 72) f_Lt_159 rfl rfl (Nat.le_of_ble_eq_true rfl) rfl rfl rfl ?_
      refine wq_iload_n (kk := 1) (q := 73) rfl rfl rfl ?_
      refine wq_iald (q := 74) rfl (Or.inl ⟨rfl, Nat.le_of_ble_eq_true rfl⟩) rfl rfl (by first | omega | (have := hD (by omega) (by omega); omega)) (by first | omega | (have := hD (by omega) (by omega); omega)) ?_
      refine wq_callV (q := 77) (m' := m_Lt_answer) (R' := rm 1) (As := [_]) rfl rfl l_Lt_113 vm_Lt_answer rfl rfl rfl (Or.inl ⟨rfl, Nat.le_of_ble_eq_true rfl⟩) (Nat.le_of_ble_eq_true rfl) (Nat.le_of_ble_eq_true rfl) (Nat.le_refl _) (Nat.le_refl _) (Nat.le_of_ble_eq_true rfl) (Lt_answer_ok _ _ _) rfl ?_
      rintro rv h1 r ⟨rfl, rfl, rfl⟩ -
      subst c18
      first
      | exact wq_iret rfl rfl (Nat.le_refl _) (Nat.le_refl _) (qP.y q0 (by omega) rfl)
      | exact wq_iret rfl rfl (Nat.le_refl _) (Nat.le_refl _) (qP.y q0 (by omega) (by have := hD (by omega) (by omega); show _ = 1 - h 12 d; omega))
    · skip
      refine wq_aload_n (kk := 0) (q := 79) rfl rfl rfl ?_
      refine wq_aload_n (kk := 0) (q := 80) rfl rfl rfl ?_
      refine wq_getR (q := 83) f_Lt_16 rfl rfl (Or.inl ⟨rfl, Nat.le_of_ble_eq_true rfl⟩) hcur rfl rfl ?_
      refine wq_getF (q := 86) f_Lt_162 rfl rfl (Nat.le_of_ble_eq_true rfl) rfl rfl rfl ?_
      refine wq_iload_n (kk := 1) (q := 87) rfl rfl rfl ?_
      refine wq_iald (q := 88) rfl (Or.inl ⟨rfl, Nat.le_of_ble_eq_true rfl⟩) rfl rfl (by first | omega | (have := hD (by omega) (by omega); omega)) (by first | omega | (have := hD (by omega) (by omega); omega)) ?_
      refine wq_callV (q := 91) (m' := m_Lt_answer) (R' := rm 1) (As := [_]) rfl rfl l_Lt_113 vm_Lt_answer rfl rfl rfl (Or.inl ⟨rfl, Nat.le_of_ble_eq_true rfl⟩) (Nat.le_of_ble_eq_true rfl) (Nat.le_of_ble_eq_true rfl) (Nat.le_refl _) (Nat.le_refl _) (Nat.le_of_ble_eq_true rfl) (Lt_answer_ok _ _ _) rfl ?_
      rintro rv h1 r ⟨rfl, rfl, rfl⟩ -
      subst c18
      first
      | exact wq_iret rfl rfl (Nat.le_refl _) (Nat.le_refl _) (qP.y q0 (by omega) rfl)
      | exact wq_iret rfl rfl (Nat.le_refl _) (Nat.le_refl _) (qP.y q0 (by omega) (by have := hD (by omega) (by omega); show _ = 1 - h 12 d; omega))
    · skip
      refine wq_aload_n (kk := 0) (q := 93) rfl rfl rfl ?_
      refine wq_aload_n (kk := 0) (q := 94) rfl rfl rfl ?_
      refine wq_getR (q := 97) f_Lt_16 rfl rfl (Or.inl ⟨rfl, Nat.le_of_ble_eq_true rfl⟩) hcur rfl rfl ?_
      refine wq_getF (q := 100) f_Lt_165 rfl rfl (Nat.le_of_ble_eq_true rfl) rfl rfl rfl ?_
      refine wq_iload_n (kk := 1) (q := 101) rfl rfl rfl ?_
      refine wq_iald (q := 102) rfl (Or.inl ⟨rfl, Nat.le_of_ble_eq_true rfl⟩) rfl rfl (by first | omega | (have := hD (by omega) (by omega); omega)) (by first | omega | (have := hD (by omega) (by omega); omega)) ?_
      refine wq_callV (q := 105) (m' := m_Lt_answer) (R' := rm 1) (As := [_]) rfl rfl l_Lt_113 vm_Lt_answer rfl rfl rfl (Or.inl ⟨rfl, Nat.le_of_ble_eq_true rfl⟩) (Nat.le_of_ble_eq_true rfl) (Nat.le_of_ble_eq_true rfl) (Nat.le_refl _) (Nat.le_refl _) (Nat.le_of_ble_eq_true rfl) (Lt_answer_ok _ _ _) rfl ?_
      rintro rv h1 r ⟨rfl, rfl, rfl⟩ -
      subst c18
      first
      | exact wq_iret rfl rfl (Nat.le_refl _) (Nat.le_refl _) (qP.y q0 (by omega) rfl)
      | exact wq_iret rfl rfl (Nat.le_refl _) (Nat.le_refl _) (qP.y q0 (by omega) (by have := hD (by omega) (by omega); show _ = 1 - h 12 d; omega))
    · skip
      refine wq_aload_n (kk := 0) (q := 107) rfl rfl rfl ?_
      refine wq_aload_n (kk := 0) (q := 108) rfl rfl rfl ?_
      refine wq_getR (q := 111) f_Lt_16 rfl rfl (Or.inl ⟨rfl, Nat.le_of_ble_eq_true rfl⟩) hcur rfl rfl ?_
      refine wq_getF (q := 114) f_Lt_168 rfl rfl (Nat.le_of_ble_eq_true rfl) rfl rfl rfl ?_
      refine wq_iload_n (kk := 1) (q := 115) rfl rfl rfl ?_
      refine wq_iald (q := 116) rfl (Or.inl ⟨rfl, Nat.le_of_ble_eq_true rfl⟩) rfl rfl (by first | omega | (have := hD (by omega) (by omega); omega)) (by first | omega | (have := hD (by omega) (by omega); omega)) ?_
      refine wq_aload_n (kk := 0) (q := 117) rfl rfl rfl ?_
      refine wq_getR (q := 120) f_Lt_16 rfl rfl (Or.inl ⟨rfl, Nat.le_of_ble_eq_true rfl⟩) hcur rfl rfl ?_
      refine wq_getF (q := 123) f_Lt_171 rfl rfl (Nat.le_of_ble_eq_true rfl) rfl rfl rfl ?_
      refine wq_iload_n (kk := 1) (q := 124) rfl rfl rfl ?_
      refine wq_iald (q := 125) rfl (Or.inl ⟨rfl, Nat.le_of_ble_eq_true rfl⟩) rfl rfl (by first | omega | (have := hD (by omega) (by omega); omega)) (by first | omega | (have := hD (by omega) (by omega); omega)) ?_
      refine wq_iadd (q := 126) rfl rfl (by first | omega | (have := hD (by omega) (by omega); omega)) (by first | omega | (have := hD (by omega) (by omega); omega)) ?_
      refine wq_callV (q := 129) (m' := m_Lt_answer) (R' := rm 1) (As := [_]) rfl rfl l_Lt_113 vm_Lt_answer rfl rfl rfl (Or.inl ⟨rfl, Nat.le_of_ble_eq_true rfl⟩) (Nat.le_of_ble_eq_true rfl) (Nat.le_of_ble_eq_true rfl) (Nat.le_refl _) (Nat.le_refl _) (Nat.le_of_ble_eq_true rfl) (Lt_answer_ok _ _ _) rfl ?_
      rintro rv h1 r ⟨rfl, rfl, rfl⟩ -
      subst c18
      first
      | exact wq_iret rfl rfl (Nat.le_refl _) (Nat.le_refl _) (qP.y q0 (by omega) rfl)
      | exact wq_iret rfl rfl (Nat.le_refl _) (Nat.le_refl _) (qP.y q0 (by omega) (by have := hD (by omega) (by omega); show _ = 1 - h 12 d; omega))
    · skip
      refine wq_aload_n (kk := 0) (q := 131) rfl rfl rfl ?_
      refine wq_aload_n (kk := 0) (q := 132) rfl rfl rfl ?_
      refine wq_getR (q := 135) f_Lt_16 rfl rfl (Or.inl ⟨rfl, Nat.le_of_ble_eq_true rfl⟩) hcur rfl rfl ?_
      refine wq_getF (q := 138) f_Lt_168 rfl rfl (Nat.le_of_ble_eq_true rfl) rfl rfl rfl ?_
      refine wq_iload_n (kk := 1) (q := 139) rfl rfl rfl ?_
      refine wq_iald (q := 140) rfl (Or.inl ⟨rfl, Nat.le_of_ble_eq_true rfl⟩) rfl rfl (by first | omega | (have := hD (by omega) (by omega); omega)) (by first | omega | (have := hD (by omega) (by omega); omega)) ?_
      refine wq_aload_n (kk := 0) (q := 141) rfl rfl rfl ?_
      refine wq_getR (q := 144) f_Lt_16 rfl rfl (Or.inl ⟨rfl, Nat.le_of_ble_eq_true rfl⟩) hcur rfl rfl ?_
      refine wq_getF (q := 147) f_Lt_171 rfl rfl (Nat.le_of_ble_eq_true rfl) rfl rfl rfl ?_
      refine wq_iload_n (kk := 1) (q := 148) rfl rfl rfl ?_
      refine wq_iald (q := 149) rfl (Or.inl ⟨rfl, Nat.le_of_ble_eq_true rfl⟩) rfl rfl (by first | omega | (have := hD (by omega) (by omega); omega)) (by first | omega | (have := hD (by omega) (by omega); omega)) ?_
      refine wq_iadd (q := 150) rfl rfl (by first | omega | (have := hD (by omega) (by omega); omega)) (by first | omega | (have := hD (by omega) (by omega); omega)) ?_
      refine wq_aload_n (kk := 0) (q := 151) rfl rfl rfl ?_
      refine wq_getR (q := 154) f_Lt_16 rfl rfl (Or.inl ⟨rfl, Nat.le_of_ble_eq_true rfl⟩) hcur rfl rfl ?_
      refine wq_getF (q := 157) f_Lt_174 rfl rfl (Nat.le_of_ble_eq_true rfl) rfl rfl rfl ?_
      refine wq_iload_n (kk := 1) (q := 158) rfl rfl rfl ?_
      refine wq_iald (q := 159) rfl (Or.inl ⟨rfl, Nat.le_of_ble_eq_true rfl⟩) rfl rfl (by first | omega | (have := hD (by omega) (by omega); omega)) (by first | omega | (have := hD (by omega) (by omega); omega)) ?_
      refine wq_iadd (q := 160) rfl rfl (by first | omega | (have := hD (by omega) (by omega); omega)) (by first | omega | (have := hD (by omega) (by omega); omega)) ?_
      refine wq_callV (q := 163) (m' := m_Lt_answer) (R' := rm 1) (As := [_]) rfl rfl l_Lt_113 vm_Lt_answer rfl rfl rfl (Or.inl ⟨rfl, Nat.le_of_ble_eq_true rfl⟩) (Nat.le_of_ble_eq_true rfl) (Nat.le_of_ble_eq_true rfl) (Nat.le_refl _) (Nat.le_refl _) (Nat.le_of_ble_eq_true rfl) (Lt_answer_ok _ _ _) rfl ?_
      rintro rv h1 r ⟨rfl, rfl, rfl⟩ -
      subst c18
      first
      | exact wq_iret rfl rfl (Nat.le_refl _) (Nat.le_refl _) (qP.y q0 (by omega) rfl)
      | exact wq_iret rfl rfl (Nat.le_refl _) (Nat.le_refl _) (qP.y q0 (by omega) (by have := hD (by omega) (by omega); show _ = 1 - h 12 d; omega))
    · skip
      refine wq_aload_n (kk := 0) (q := 165) rfl rfl rfl ?_
      refine wq_aload_n (kk := 0) (q := 166) rfl rfl rfl ?_
      refine wq_getR (q := 169) f_Lt_16 rfl rfl (Or.inl ⟨rfl, Nat.le_of_ble_eq_true rfl⟩) hcur rfl rfl ?_
      refine wq_getF (q := 172) f_Lt_171 rfl rfl (Nat.le_of_ble_eq_true rfl) rfl rfl rfl ?_
      refine wq_iload_n (kk := 1) (q := 173) rfl rfl rfl ?_
      refine wq_iald (q := 174) rfl (Or.inl ⟨rfl, Nat.le_of_ble_eq_true rfl⟩) rfl rfl (by first | omega | (have := hD (by omega) (by omega); omega)) (by first | omega | (have := hD (by omega) (by omega); omega)) ?_
      refine wq_callV (q := 177) (m' := m_Lt_answer) (R' := rm 1) (As := [_]) rfl rfl l_Lt_113 vm_Lt_answer rfl rfl rfl (Or.inl ⟨rfl, Nat.le_of_ble_eq_true rfl⟩) (Nat.le_of_ble_eq_true rfl) (Nat.le_of_ble_eq_true rfl) (Nat.le_refl _) (Nat.le_refl _) (Nat.le_of_ble_eq_true rfl) (Lt_answer_ok _ _ _) rfl ?_
      rintro rv h1 r ⟨rfl, rfl, rfl⟩ -
      subst c18
      first
      | exact wq_iret rfl rfl (Nat.le_refl _) (Nat.le_refl _) (qP.y q0 (by omega) rfl)
      | exact wq_iret rfl rfl (Nat.le_refl _) (Nat.le_refl _) (qP.y q0 (by omega) (by have := hD (by omega) (by omega); show _ = 1 - h 12 d; omega))
    · skip
      refine wq_aload_n (kk := 0) (q := 179) rfl rfl rfl ?_
      refine wq_aload_n (kk := 0) (q := 180) rfl rfl rfl ?_
      refine wq_getR (q := 183) f_Lt_16 rfl rfl (Or.inl ⟨rfl, Nat.le_of_ble_eq_true rfl⟩) hcur rfl rfl ?_
      refine wq_getF (q := 186) f_Lt_177 rfl rfl (Nat.le_of_ble_eq_true rfl) rfl rfl rfl ?_
      refine wq_iload_n (kk := 1) (q := 187) rfl rfl rfl ?_
      refine wq_zald (q := 188) rfl (Or.inl ⟨rfl, Nat.le_of_ble_eq_true rfl⟩) rfl rfl (by first | omega | (have := hD (by omega) (by omega); omega)) (by first | omega | (have := hD (by omega) (by omega); omega)) ?_
      refine wq_if_eq (tgt := 195) (q := 191) rfl rfl rfl (fun c188 => ?_) (fun c188 => ?_)
      · skip
        refine wq_iconst (n := 1) (q := 196) rfl rfl rfl ?_
        refine wq_callV (q := 199) (m' := m_Lt_answer) (R' := rm 1) (As := [_]) rfl rfl l_Lt_113 vm_Lt_answer rfl rfl rfl (Or.inl ⟨rfl, Nat.le_of_ble_eq_true rfl⟩) (Nat.le_of_ble_eq_true rfl) (Nat.le_of_ble_eq_true rfl) (Nat.le_refl _) (Nat.le_refl _) (Nat.le_of_ble_eq_true rfl) (Lt_answer_ok _ _ _) rfl ?_
        rintro rv h1 r ⟨rfl, rfl, rfl⟩ -
        subst c18
        first
        | exact wq_iret rfl rfl (Nat.le_refl _) (Nat.le_refl _) (qP.y q0 (by omega) rfl)
        | exact wq_iret rfl rfl (Nat.le_refl _) (Nat.le_refl _) (qP.y q0 (by omega) (by have := hD (by omega) (by omega); show _ = 1 - h 12 d; omega))
      · skip
        refine wq_iconst (n := 0) (q := 192) rfl rfl rfl ?_
        refine wq_goto (tgt := 196) rfl rfl ?_
        refine wq_callV (q := 199) (m' := m_Lt_answer) (R' := rm 1) (As := [_]) rfl rfl l_Lt_113 vm_Lt_answer rfl rfl rfl (Or.inl ⟨rfl, Nat.le_of_ble_eq_true rfl⟩) (Nat.le_of_ble_eq_true rfl) (Nat.le_of_ble_eq_true rfl) (Nat.le_refl _) (Nat.le_refl _) (Nat.le_of_ble_eq_true rfl) (Lt_answer_ok _ _ _) rfl ?_
        rintro rv h1 r ⟨rfl, rfl, rfl⟩ -
        subst c18
        first
        | exact wq_iret rfl rfl (Nat.le_refl _) (Nat.le_refl _) (qP.y q0 (by omega) rfl)
        | exact wq_iret rfl rfl (Nat.le_refl _) (Nat.le_refl _) (qP.y q0 (by omega) (by have := hD (by omega) (by omega); show _ = 1 - h 12 d; omega))
    · skip
      refine wq_aload_n (kk := 0) (q := 201) rfl rfl rfl ?_
      refine wq_aload_n (kk := 0) (q := 202) rfl rfl rfl ?_
      refine wq_getR (q := 205) f_Lt_16 rfl rfl (Or.inl ⟨rfl, Nat.le_of_ble_eq_true rfl⟩) hcur rfl rfl ?_
      refine wq_getF (q := 208) f_Lt_181 rfl rfl (Nat.le_of_ble_eq_true rfl) rfl rfl rfl ?_
      refine wq_iload_n (kk := 1) (q := 209) rfl rfl rfl ?_
      refine wq_iald (q := 210) rfl (Or.inl ⟨rfl, Nat.le_of_ble_eq_true rfl⟩) rfl rfl (by first | omega | (have := hD (by omega) (by omega); omega)) (by first | omega | (have := hD (by omega) (by omega); omega)) ?_
      refine wq_callV (q := 213) (m' := m_Lt_answer) (R' := rm 1) (As := [_]) rfl rfl l_Lt_113 vm_Lt_answer rfl rfl rfl (Or.inl ⟨rfl, Nat.le_of_ble_eq_true rfl⟩) (Nat.le_of_ble_eq_true rfl) (Nat.le_of_ble_eq_true rfl) (Nat.le_refl _) (Nat.le_refl _) (Nat.le_of_ble_eq_true rfl) (Lt_answer_ok _ _ _) rfl ?_
      rintro rv h1 r ⟨rfl, rfl, rfl⟩ -
      subst c18
      first
      | exact wq_iret rfl rfl (Nat.le_refl _) (Nat.le_refl _) (qP.y q0 (by omega) rfl)
      | exact wq_iret rfl rfl (Nat.le_refl _) (Nat.le_refl _) (qP.y q0 (by omega) (by have := hD (by omega) (by omega); show _ = 1 - h 12 d; omega))
  · skip
    refine wq_aload_n (kk := 0) (q := 12) rfl rfl rfl ?_
    refine wq_iconst (n := 1) (q := 13) rfl rfl rfl ?_
    refine wq_callV (q := 16) (m' := m_Lt_refuse) (R' := rm 1) (As := [_]) rfl rfl l_Lt_87 vm_Lt_refuse rfl rfl rfl (Or.inl ⟨rfl, Nat.le_of_ble_eq_true rfl⟩) (Nat.le_of_ble_eq_true rfl) (Nat.le_of_ble_eq_true rfl) (Nat.le_refl _) (Nat.le_refl _) (Nat.le_of_ble_eq_true rfl) (Lt_refuse_ok _ _ _) rfl ?_
    rintro rv h1 r ⟨rfl, rfl, rfl⟩ -
    exact wq_iret rfl rfl (Nat.le_refl _) (Nat.le_refl _) (qP.o q0 (by first | omega | (simp at c18; omega)))
def szV (h : mH) (w : Int) : Int := if w = 0 then h 0 1 else if w = 1 then h 27 0 else if w = 2 then cn (fun d => decide (0 < h 10 d)) (h 2 4).toNat else -1
set_option maxRecDepth 100000 in
theorem Lt_size_ok (w : Int) (h : mH) (r : mR) (hI : IQ h r) : Meets true (rm 2) m_Lt_size [vR 0, vI w] h r (pI (szV h w) h r) := by
  have hcur := hI.2.2.2.1
  refine ⟨ok_Lt_size, Nat.le_of_ble_eq_true rfl, ?_⟩
  refine wq_iload_n (kk := 1) (q := 1) rfl rfl rfl ?_
  refine wq_tabL (tg := [28, 33, 41]) (td := 49) rfl rfl rfl (fun c1 => ?_) (tab_c (fun c1 => ?_) (tab_c (fun c1 => ?_) (tab_c (fun c1 => ?_) (tab_n))))
  · skip
    refine wq_iconst (n := -1) (q := 50) rfl rfl rfl ?_
    refine wq_iret rfl rfl (Nat.le_refl _) (Nat.le_refl _) ?_
    refine ⟨?_, rfl, rfl⟩
    unfold szV
    first | (subst c1; rfl) | (simp at c1; rw [if_neg (by omega), if_neg (by omega), if_neg (by omega)])
  · skip
    refine wq_aload_n (kk := 0) (q := 29) rfl rfl rfl ?_
    refine wq_getI (kz := 1) (q := 32) rfl f_Lt_79 rfl rfl (Or.inl ⟨rfl, Nat.le_of_ble_eq_true rfl⟩) rfl rfl ?_
    refine wq_iret rfl rfl (Nat.le_refl _) (Nat.le_refl _) ?_
    refine ⟨?_, rfl, rfl⟩
    unfold szV
    first | (subst c1; rfl) | (simp at c1; rw [if_neg (by omega), if_neg (by omega), if_neg (by omega)])
  · skip
    refine wq_aload_n (kk := 0) (q := 34) rfl rfl rfl ?_
    refine wq_getF (q := 37) f_Lt_35 rfl rfl (Nat.le_of_ble_eq_true rfl) rfl rfl rfl ?_
    refine wq_getI (kz := 0) (q := 40) rfl f_Lt_345 rfl rfl (Or.inl ⟨rfl, Nat.le_of_ble_eq_true rfl⟩) rfl rfl ?_
    refine wq_iret rfl rfl (Nat.le_refl _) (Nat.le_refl _) ?_
    refine ⟨?_, rfl, rfl⟩
    unfold szV
    first | (subst c1; rfl) | (simp at c1; rw [if_neg (by omega), if_neg (by omega), if_neg (by omega)])
  · skip
    refine wq_aload_n (kk := 0) (q := 42) rfl rfl rfl ?_
    refine wq_getR (q := 45) f_Lt_16 rfl rfl (Or.inl ⟨rfl, Nat.le_of_ble_eq_true rfl⟩) hcur rfl rfl ?_
    refine wq_callV (q := 48) (m' := m_De_lateCount) (R' := rm 1) (As := []) rfl rfl l_Lt_354 vm_De_lateCount rfl rfl rfl (Or.inl ⟨rfl, Nat.le_of_ble_eq_true rfl⟩) (Nat.le_of_ble_eq_true rfl) (Nat.le_of_ble_eq_true rfl) (Nat.le_refl _) (Nat.le_refl _) (Nat.le_of_ble_eq_true rfl) (De_lateCount_ok h r hI.1.1) rfl ?_
    rintro rv h r ⟨rfl, rfl, rfl⟩ -
    refine wq_iret rfl rfl (Nat.le_refl _) (Nat.le_refl _) ?_
    refine ⟨?_, rfl, rfl⟩
    unfold szV
    first | (subst c1; rfl) | (simp at c1; rw [if_neg (by omega), if_neg (by omega), if_neg (by omega)])
set_option maxRecDepth 100000 in
theorem Lt_trouble_ok (h : mH) (r : mR) : Meets true (rm 1) m_Lt_trouble [vR 0] h r (pI (h 0 12) h r) := by
  refine ⟨ok_Lt_trouble, Nat.le_of_ble_eq_true rfl, ?_⟩
  refine wq_aload_n (kk := 0) (q := 1) rfl rfl rfl ?_
  refine wq_getI (kz := 12) (q := 4) rfl f_Lt_116 rfl rfl (Or.inl ⟨rfl, Nat.le_of_ble_eq_true rfl⟩) rfl rfl ?_
  refine wq_iret rfl rfl (Nat.le_refl _) (Nat.le_refl _) ?_
  first | exact ⟨rfl, rfl, rfl⟩ | exact pB_t (by omega) | exact pB_f (by omega) | exact pC_t (by omega) | exact pC_f (by omega) | (exfalso; omega)
set_option maxRecDepth 100000 in
theorem Lt_fault_ok (h : mH) (r : mR) : Meets true (rm 1) m_Lt_fault [vR 0] h r (pI (h 0 13) h r) := by
  refine ⟨ok_Lt_fault, Nat.le_of_ble_eq_true rfl, ?_⟩
  refine wq_aload_n (kk := 0) (q := 1) rfl rfl rfl ?_
  refine wq_getI (kz := 13) (q := 4) rfl f_Lt_98 rfl rfl (Or.inl ⟨rfl, Nat.le_of_ble_eq_true rfl⟩) rfl rfl ?_
  refine wq_iret rfl rfl (Nat.le_refl _) (Nat.le_refl _) ?_
  first | exact ⟨rfl, rfl, rfl⟩ | exact pB_t (by omega) | exact pB_f (by omega) | exact pC_t (by omega) | exact pC_f (by omega) | (exfalso; omega)
set_option maxRecDepth 100000 in
theorem Lt_where_ok (h : mH) (r : mR) : Meets true (rm 1) m_Lt_where [vR 0] h r (pI (if h 0 12 = 4 then h 0 14 else -1) h r) := by
  refine ⟨ok_Lt_where, Nat.le_of_ble_eq_true rfl, ?_⟩
  refine wq_aload_n (kk := 0) (q := 1) rfl rfl rfl ?_
  refine wq_getI (kz := 12) (q := 4) rfl f_Lt_116 rfl rfl (Or.inl ⟨rfl, Nat.le_of_ble_eq_true rfl⟩) rfl rfl ?_
  refine wq_iconst (n := 4) (q := 5) rfl rfl rfl ?_
  refine wq_icmp_ne (tgt := 15) (q := 8) rfl rfl rfl (fun c5 => ?_) (fun c5 => ?_)
  · skip
    refine wq_iconst (n := -1) (q := 16) rfl rfl rfl ?_
    refine wq_iret rfl rfl (Nat.le_refl _) (Nat.le_refl _) ?_
    refine ⟨?_, rfl, rfl⟩
    first | (rw [if_pos c5]) | (rw [if_neg c5])
  · skip
    refine wq_aload_n (kk := 0) (q := 9) rfl rfl rfl ?_
    refine wq_getI (kz := 14) (q := 12) rfl f_Lt_104 rfl rfl (Or.inl ⟨rfl, Nat.le_of_ble_eq_true rfl⟩) rfl rfl ?_
    refine wq_goto (tgt := 16) rfl rfl ?_
    refine wq_iret rfl rfl (Nat.le_refl _) (Nat.le_refl _) ?_
    refine ⟨?_, rfl, rfl⟩
    first | (rw [if_pos c5]) | (rw [if_neg c5])

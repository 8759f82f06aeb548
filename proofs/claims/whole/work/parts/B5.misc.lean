/-! LinkTimesModel: about, spot, departure, ordered, size, still .. -/
theorem kO_u {P : Prop} : (if bI P = 0 then (1 : Int) else 0) = kO P := by
  by_cases h : P
  · rw [bI_t h, kO_t h]; rfl
  · rw [bI_f h, kO_f h]; rfl
theorem kO_b {P : Prop} : 0 ≤ kO P ∧ kO P ≤ 1 := by
  by_cases h : P
  · rw [kO_t h]; omega
  · rw [kO_f h]; omega
/-- the rest of a call that is refused unless P -/
theorem kO_0 {P : Prop} (h : kO P = 0) : P := Classical.byContradiction (fun z => by rw [kO_f z] at h; omega)
def abR (h : mH) (N : mN) (w : Int) : Int := if w = 5 then cn (fun d => rn N d == 1) (nN N).toNat else h 66 w
set_option maxRecDepth 100000 in
set_option maxHeartbeats 1000000 in
theorem Mo_aboutA (w g : Int) (N : mN) (h : mH) (r : mR) (hI : mI h N) (hg : g = bI (0 < nS N ∧ 0 ≤ w ∧ w ≤ 5)) : WP (true, rm 4) m_Mo_about (rt m_Mo_about (rm 4) (rqQ h r (Ans (kO (0 < nS N ∧ 0 ≤ w ∧ w ≤ 5)) (fun v tr => tr = 0 ∧ v = abR h N w)))) 22 [some (vR 64), some (vI w)] [vI g, vR 64] h r (0, 0) := by
  subst hg
  refine wq_callS (q := 25) (m' := m_Mo_unless) (R' := rm 1) (As := [_]) rfl rfl l_Mo_256 sm_Mo_unless rfl (Nat.le_of_ble_eq_true rfl) (Nat.le_of_ble_eq_true rfl) (Nat.le_refl _) (Nat.le_refl _) (Nat.le_of_ble_eq_true rfl) (Mo_unless_ok _ h r) rfl ?_
  rintro rv h r ⟨rfl, rfl, rfl⟩ -
  rw [kO_u]
  generalize hk : kO (0 < nS N ∧ 0 ≤ w ∧ w ≤ 5) = k
  refine wq_callV (q := 28) (m' := m_Mo_isRefused) (R' := rm 1) (As := [_]) rfl rfl l_Mo_228 vm_Mo_isRefused rfl rfl rfl (Or.inl ⟨rfl, Nat.le_of_ble_eq_true rfl⟩) (Nat.le_of_ble_eq_true rfl) (Nat.le_of_ble_eq_true rfl) (Nat.le_refl _) (Nat.le_refl _) (Nat.le_of_ble_eq_true rfl) (Mo_isRefused_ok k h r) rfl ?_
  rintro rv h1 r ⟨rfl, rfl, rfl⟩ -
  have f1 := x_ref_f (S := qF) (C := qK) (h := h) (k := k) (by decide) (by decide) (by decide) (by decide)
  have I1 := mI_f hI f1 (by decide) (by decide)
  refine wq_cif_eq (tgt := 33) (q := 31) rfl rfl rfl (fun c28 => ?_) (fun c28 => ?_)
  · skip
    have k0 : k = 0 := by simpa using c28
    subst k0
    have hw := kO_0 hk
    refine wq_iload_n (kk := 1) (q := 34) rfl rfl rfl ?_
    refine wq_iconst (n := 5) (q := 35) rfl rfl rfl ?_
    refine wq_icmp_ne (tgt := 45) (q := 38) rfl rfl rfl (fun c35 => ?_) (fun c35 => ?_)
    · skip
      refine wq_aload_n (kk := 0) (q := 46) rfl rfl rfl ?_
      refine wq_getF (q := 49) f_Mo_17 rfl rfl (Nat.le_of_ble_eq_true rfl) rfl rfl rfl ?_
      refine wq_iload_n (kk := 1) (q := 50) rfl rfl rfl ?_
      refine wq_iald (q := 51) rfl (Or.inl ⟨rfl, Nat.le_of_ble_eq_true rfl⟩) rfl rfl (by first | omega | (simp [hup]; omega)) (by first | omega | (simp [hup]; omega)) ?_
      refine wq_iret rfl rfl (Nat.le_refl _) (Nat.le_refl _) ⟨_, rfl, rfl, Or.inr ⟨rfl, x_ref_1, ?_⟩, by rw [x_ref_1]; decide, f1⟩
      first | exact (if_pos c35).symm | exact (if_neg c35).symm
    · skip
      refine wq_aload_n (kk := 0) (q := 39) rfl rfl rfl ?_
      refine wq_callV (q := 42) (m' := m_Mo_runMany) (R' := rm 3) (As := []) rfl rfl l_Mo_260 vm_Mo_runMany rfl rfl rfl (Or.inl ⟨rfl, Nat.le_of_ble_eq_true rfl⟩) (Nat.le_of_ble_eq_true rfl) (Nat.le_of_ble_eq_true rfl) (Nat.le_refl _) (Nat.le_refl _) (Nat.le_of_ble_eq_true rfl) (Mo_runMany_ok N _ r I1.1) rfl ?_
      rintro rv h2 r ⟨rfl, rfl, rfl⟩ -
      refine wq_goto (tgt := 51) rfl rfl ?_
      refine wq_iret rfl rfl (Nat.le_refl _) (Nat.le_refl _) ⟨_, rfl, rfl, Or.inr ⟨rfl, x_ref_1, ?_⟩, by rw [x_ref_1]; decide, f1⟩
      first | exact (if_pos c35).symm | exact (if_neg c35).symm
  · skip
    refine wq_iconst (n := -1) (q := 32) rfl rfl rfl ?_
    exact wq_iret rfl rfl (Nat.le_refl _) (Nat.le_refl _) ⟨_, rfl, rfl, Or.inl ⟨c28, rfl, x_ref_1⟩, by rw [x_ref_1]; have := kO_b (P := 0 < nS N ∧ 0 ≤ w ∧ w ≤ 5); omega, f1⟩
set_option maxRecDepth 100000 in
set_option maxHeartbeats 1000000 in
theorem Mo_about_ok (w : Int) (N : mN) (h : mH) (r : mR) (hI : mI h N) : Meets true (rm 4) m_Mo_about [vR 64, vI w] h r (rqQ h r (Ans (kO (0 < nS N ∧ 0 ≤ w ∧ w ≤ 5)) (fun v tr => tr = 0 ∧ v = abR h N w))) := by
  have hT := hI.2
  refine ⟨ok_Mo_about, Nat.le_of_ble_eq_true rfl, ?_⟩
  refine wq_aload_n (kk := 0) (q := 1) rfl rfl rfl ?_
  refine wq_aload_n (kk := 0) (q := 2) rfl rfl rfl ?_
  refine wq_getI (kz := 11) (q := 5) rfl f_Mo_244 rfl rfl (Or.inl ⟨rfl, Nat.le_of_ble_eq_true rfl⟩) rfl rfl ?_
  refine wq_if_eq (tgt := 21) (q := 8) rfl rfl rfl (fun c5 => ?_) (fun c5 => ?_)
  · skip
    refine wq_iconst (n := 0) (q := 22) rfl rfl rfl ?_
    first
    | exact Mo_aboutA w 1 N h r hI (bI_t (by omega)).symm
    | exact Mo_aboutA w 0 N h r hI (bI_f (by omega)).symm
  · skip
    refine wq_iload_n (kk := 1) (q := 9) rfl rfl rfl ?_
    refine wq_iconst (n := 0) (q := 10) rfl rfl rfl ?_
    refine wq_iconst (n := 5) (q := 11) rfl rfl rfl ?_
    refine wq_callS (q := 14) (m' := m_Mo_in) (R' := rm 1) (As := [_, _, _]) rfl rfl l_Mo_107 sm_Mo_in rfl (Nat.le_of_ble_eq_true rfl) (Nat.le_of_ble_eq_true rfl) (Nat.le_refl _) (Nat.le_refl _) (Nat.le_of_ble_eq_true rfl) (Mo_in_ok _ _ _ h r) rfl ?_
    rintro rv h r ⟨rfl, rfl, rfl⟩ -
    refine wq_cif_eq (tgt := 21) (q := 17) rfl rfl rfl (fun c14 => ?_) (fun c14 => ?_)
    · skip
      refine wq_iconst (n := 0) (q := 22) rfl rfl rfl ?_
      first
      | exact Mo_aboutA w 1 N h r hI (bI_t (by omega)).symm
      | exact Mo_aboutA w 0 N h r hI (bI_f (by omega)).symm
    · skip
      refine wq_iconst (n := 1) (q := 18) rfl rfl rfl ?_
      refine wq_goto (tgt := 22) rfl rfl ?_
      first
      | exact Mo_aboutA w 1 N h r hI (bI_t (by omega)).symm
      | exact Mo_aboutA w 0 N h r hI (bI_f (by omega)).symm
def spR (h : mH) (N : mN) (s w : Int) : Int := if w = 0 then h 66 (5 + s) else if w = 1 then h 66 (15 + s) else if w = 2 then cn (fun d => (rn N d == 1) && (frm N d == s)) (nN N).toNat else cn (fun d => (rn N d == 1) && (dst N d == s)) (nN N).toNat
set_option maxRecDepth 100000 in
set_option maxHeartbeats 1000000 in
theorem Mo_spotA (s w g : Int) (N : mN) (h : mH) (r : mR) (hI : mI h N) (hg : g = bI ((0 ≤ s ∧ s < nS N) ∧ 0 ≤ w ∧ w ≤ 3)) : WP (true, rm 4) m_Mo_spot (rt m_Mo_spot (rm 4) (rqQ h r (Ans (kO ((0 ≤ s ∧ s < nS N) ∧ 0 ≤ w ∧ w ≤ 3)) (fun v tr => tr = 0 ∧ v = spR h N s w)))) 23 [some (vR 64), some (vI s), some (vI w)] [vI g, vR 64] h r (0, 0) := by
  have hS := hI.1.1.2.1
  subst hg
  refine wq_callS (q := 26) (m' := m_Mo_unless) (R' := rm 1) (As := [_]) rfl rfl l_Mo_256 sm_Mo_unless rfl (Nat.le_of_ble_eq_true rfl) (Nat.le_of_ble_eq_true rfl) (Nat.le_refl _) (Nat.le_refl _) (Nat.le_of_ble_eq_true rfl) (Mo_unless_ok _ h r) rfl ?_
  rintro rv h r ⟨rfl, rfl, rfl⟩ -
  rw [kO_u]
  generalize hk : kO ((0 ≤ s ∧ s < nS N) ∧ 0 ≤ w ∧ w ≤ 3) = k
  refine wq_callV (q := 29) (m' := m_Mo_isRefused) (R' := rm 1) (As := [_]) rfl rfl l_Mo_228 vm_Mo_isRefused rfl rfl rfl (Or.inl ⟨rfl, Nat.le_of_ble_eq_true rfl⟩) (Nat.le_of_ble_eq_true rfl) (Nat.le_of_ble_eq_true rfl) (Nat.le_refl _) (Nat.le_refl _) (Nat.le_of_ble_eq_true rfl) (Mo_isRefused_ok k h r) rfl ?_
  rintro rv h1 r ⟨rfl, rfl, rfl⟩ -
  have f1 := x_ref_f (S := qF) (C := qK) (h := h) (k := k) (by decide) (by decide) (by decide) (by decide)
  have I1 := mI_f hI f1 (by decide) (by decide)
  refine wq_cif_eq (tgt := 34) (q := 32) rfl rfl rfl (fun c29 => ?_) (fun c29 => ?_)
  · skip
    have k0 : k = 0 := by simpa using c29
    subst k0
    have hw := kO_0 hk
    refine wq_iload_n (kk := 2) (q := 35) rfl rfl rfl ?_
    refine wq_tabL (tg := [60, 69, 79]) (td := 86) rfl rfl rfl (fun c35 => ?_) (tab_c (fun c35 => ?_) (tab_c (fun c35 => ?_) (tab_c (fun c35 => ?_) (tab_n))))
    · skip
      refine wq_aload_n (kk := 0) (q := 87) rfl rfl rfl ?_
      refine wq_iload_n (kk := 1) (q := 88) rfl rfl rfl ?_
      refine wq_iconst (n := 2) (q := 89) rfl rfl rfl ?_
      refine wq_callV (q := 92) (m' := m_Mo_runsBy) (R' := rm 3) (As := [_, _]) rfl rfl l_Mo_266 vm_Mo_runsBy rfl rfl rfl (Or.inl ⟨rfl, Nat.le_of_ble_eq_true rfl⟩) (Nat.le_of_ble_eq_true rfl) (Nat.le_of_ble_eq_true rfl) (Nat.le_refl _) (Nat.le_refl _) (Nat.le_of_ble_eq_true rfl) (Mo_runsBy_ok N s 2 (dst N) (Or.inr ⟨rfl, rfl⟩) _ r I1.1) rfl ?_
      rintro rv h2 r ⟨rfl, rfl, rfl⟩ -
      refine wq_iret rfl rfl (Nat.le_refl _) (Nat.le_refl _) ⟨_, rfl, rfl, Or.inr ⟨rfl, x_ref_1, ?_⟩, by rw [x_ref_1]; decide, f1⟩
      first
      | (subst c35; rfl)
      | (simp at c35; unfold spR; rw [if_neg (by omega), if_neg (by omega), if_neg (by omega)])
    · skip
      refine wq_aload_n (kk := 0) (q := 61) rfl rfl rfl ?_
      refine wq_getF (q := 64) f_Mo_17 rfl rfl (Nat.le_of_ble_eq_true rfl) rfl rfl rfl ?_
      refine wq_iconst (n := 5) (q := 65) rfl rfl rfl ?_
      refine wq_iload_n (kk := 1) (q := 66) rfl rfl rfl ?_
      refine wq_iadd (q := 67) rfl rfl (by first | omega | (simp [hup]; omega)) (by first | omega | (simp [hup]; omega)) ?_
      refine wq_iald (q := 68) rfl (Or.inl ⟨rfl, Nat.le_of_ble_eq_true rfl⟩) rfl rfl (by first | omega | (simp [hup]; omega)) (by first | omega | (simp [hup]; omega)) ?_
      refine wq_iret rfl rfl (Nat.le_refl _) (Nat.le_refl _) ⟨_, rfl, rfl, Or.inr ⟨rfl, x_ref_1, ?_⟩, by rw [x_ref_1]; decide, f1⟩
      first
      | (subst c35; rfl)
      | (simp at c35; unfold spR; rw [if_neg (by omega), if_neg (by omega), if_neg (by omega)])
    · skip
      refine wq_aload_n (kk := 0) (q := 70) rfl rfl rfl ?_
      refine wq_getF (q := 73) f_Mo_17 rfl rfl (Nat.le_of_ble_eq_true rfl) rfl rfl rfl ?_
      refine wq_bipush (n := 15) (q := 75) rfl rfl rfl ?_
      refine wq_iload_n (kk := 1) (q := 76) rfl rfl rfl ?_
      refine wq_iadd (q := 77) rfl rfl (by first | omega | (simp [hup]; omega)) (by first | omega | (simp [hup]; omega)) ?_
      refine wq_iald (q := 78) rfl (Or.inl ⟨rfl, Nat.le_of_ble_eq_true rfl⟩) rfl rfl (by first | omega | (simp [hup]; omega)) (by first | omega | (simp [hup]; omega)) ?_
      refine wq_iret rfl rfl (Nat.le_refl _) (Nat.le_refl _) ⟨_, rfl, rfl, Or.inr ⟨rfl, x_ref_1, ?_⟩, by rw [x_ref_1]; decide, f1⟩
      first
      | (subst c35; rfl)
      | (simp at c35; unfold spR; rw [if_neg (by omega), if_neg (by omega), if_neg (by omega)])
    · skip
      refine wq_aload_n (kk := 0) (q := 80) rfl rfl rfl ?_
      refine wq_iload_n (kk := 1) (q := 81) rfl rfl rfl ?_
      refine wq_iconst (n := 1) (q := 82) rfl rfl rfl ?_
      refine wq_callV (q := 85) (m' := m_Mo_runsBy) (R' := rm 3) (As := [_, _]) rfl rfl l_Mo_266 vm_Mo_runsBy rfl rfl rfl (Or.inl ⟨rfl, Nat.le_of_ble_eq_true rfl⟩) (Nat.le_of_ble_eq_true rfl) (Nat.le_of_ble_eq_true rfl) (Nat.le_refl _) (Nat.le_refl _) (Nat.le_of_ble_eq_true rfl) (Mo_runsBy_ok N s 1 (frm N) (Or.inl ⟨rfl, rfl⟩) _ r I1.1) rfl ?_
      rintro rv h2 r ⟨rfl, rfl, rfl⟩ -
      refine wq_iret rfl rfl (Nat.le_refl _) (Nat.le_refl _) ⟨_, rfl, rfl, Or.inr ⟨rfl, x_ref_1, ?_⟩, by rw [x_ref_1]; decide, f1⟩
      first
      | (subst c35; rfl)
      | (simp at c35; unfold spR; rw [if_neg (by omega), if_neg (by omega), if_neg (by omega)])
  · skip
    refine wq_iconst (n := -1) (q := 33) rfl rfl rfl ?_
    exact wq_iret rfl rfl (Nat.le_refl _) (Nat.le_refl _) ⟨_, rfl, rfl, Or.inl ⟨c29, rfl, x_ref_1⟩, by rw [x_ref_1]; have := kO_b (P := (0 ≤ s ∧ s < nS N) ∧ 0 ≤ w ∧ w ≤ 3); omega, f1⟩
set_option maxRecDepth 100000 in
set_option maxHeartbeats 1000000 in
theorem Mo_spot_ok (s w : Int) (N : mN) (h : mH) (r : mR) (hI : mI h N) : Meets true (rm 4) m_Mo_spot [vR 64, vI s, vI w] h r (rqQ h r (Ans (kO ((0 ≤ s ∧ s < nS N) ∧ 0 ≤ w ∧ w ≤ 3)) (fun v tr => tr = 0 ∧ v = spR h N s w))) := by
  have e1 := hI.1.2.2.1
  have hS := hI.1.1.2.1
  have hT := hI.2
  refine ⟨ok_Mo_spot, Nat.le_of_ble_eq_true rfl, ?_⟩
  refine wq_aload_n (kk := 0) (q := 1) rfl rfl rfl ?_
  refine wq_aload_n (kk := 0) (q := 2) rfl rfl rfl ?_
  refine wq_iload_n (kk := 1) (q := 3) rfl rfl rfl ?_
  refine wq_callV (q := 6) (m' := m_Mo_isSpot) (R' := rm 2) (As := [_]) rfl rfl l_Mo_263 vm_Mo_isSpot rfl rfl rfl (Or.inl ⟨rfl, Nat.le_of_ble_eq_true rfl⟩) (Nat.le_of_ble_eq_true rfl) (Nat.le_of_ble_eq_true rfl) (Nat.le_refl _) (Nat.le_refl _) (Nat.le_of_ble_eq_true rfl) (Mo_isSpot_ok s h r (by omega) (by omega) (by omega)) rfl ?_
  rintro rv h r ⟨rfl, rfl, rfl⟩ -
  refine wq_cif_eq (tgt := 22) (q := 9) rfl rfl rfl (fun c6 => ?_) (fun c6 => ?_)
  · skip
    refine wq_iconst (n := 0) (q := 23) rfl rfl rfl ?_
    first
    | exact Mo_spotA s w 1 N h r hI (bI_t (by omega)).symm
    | exact Mo_spotA s w 0 N h r hI (bI_f (by omega)).symm
  · skip
    refine wq_iload_n (kk := 2) (q := 10) rfl rfl rfl ?_
    refine wq_iconst (n := 0) (q := 11) rfl rfl rfl ?_
    refine wq_iconst (n := 3) (q := 12) rfl rfl rfl ?_
    refine wq_callS (q := 15) (m' := m_Mo_in) (R' := rm 1) (As := [_, _, _]) rfl rfl l_Mo_107 sm_Mo_in rfl (Nat.le_of_ble_eq_true rfl) (Nat.le_of_ble_eq_true rfl) (Nat.le_refl _) (Nat.le_refl _) (Nat.le_of_ble_eq_true rfl) (Mo_in_ok _ _ _ h r) rfl ?_
    rintro rv h r ⟨rfl, rfl, rfl⟩ -
    refine wq_cif_eq (tgt := 22) (q := 18) rfl rfl rfl (fun c15 => ?_) (fun c15 => ?_)
    · skip
      refine wq_iconst (n := 0) (q := 23) rfl rfl rfl ?_
      first
      | exact Mo_spotA s w 1 N h r hI (bI_t (by omega)).symm
      | exact Mo_spotA s w 0 N h r hI (bI_f (by omega)).symm
    · skip
      refine wq_iconst (n := 1) (q := 19) rfl rfl rfl ?_
      refine wq_goto (tgt := 23) rfl rfl ?_
      first
      | exact Mo_spotA s w 1 N h r hI (bI_t (by omega)).symm
      | exact Mo_spotA s w 0 N h r hI (bI_f (by omega)).symm
def deR (h : mH) (N : mN) (d w : Int) : Int := if w = 3 then lv N d else if w = 4 then ar N d else h 66 (25 + 8 * d + w)
set_option maxRecDepth 100000 in
set_option maxHeartbeats 1000000 in
theorem Mo_depA (d w g : Int) (N : mN) (h : mH) (r : mR) (hI : mI h N) (hg : g = bI ((0 ≤ d ∧ d < nN N) ∧ 0 ≤ w ∧ w ≤ 7)) : WP (true, rm 4) m_Mo_departure (rt m_Mo_departure (rm 4) (rqQ h r (Ans (kO ((0 ≤ d ∧ d < nN N) ∧ 0 ≤ w ∧ w ≤ 7)) (fun v tr => tr = 0 ∧ v = deR h N d w)))) 24 [some (vR 64), some (vI d), some (vI w)] [vI g, vR 64] h r (0, 0) := by
  have hn := hI.1.1.1
  subst hg
  refine wq_callS (q := 27) (m' := m_Mo_unless) (R' := rm 1) (As := [_]) rfl rfl l_Mo_256 sm_Mo_unless rfl (Nat.le_of_ble_eq_true rfl) (Nat.le_of_ble_eq_true rfl) (Nat.le_refl _) (Nat.le_refl _) (Nat.le_of_ble_eq_true rfl) (Mo_unless_ok _ h r) rfl ?_
  rintro rv h r ⟨rfl, rfl, rfl⟩ -
  rw [kO_u]
  generalize hk : kO ((0 ≤ d ∧ d < nN N) ∧ 0 ≤ w ∧ w ≤ 7) = k
  refine wq_callV (q := 30) (m' := m_Mo_isRefused) (R' := rm 1) (As := [_]) rfl rfl l_Mo_228 vm_Mo_isRefused rfl rfl rfl (Or.inl ⟨rfl, Nat.le_of_ble_eq_true rfl⟩) (Nat.le_of_ble_eq_true rfl) (Nat.le_of_ble_eq_true rfl) (Nat.le_refl _) (Nat.le_refl _) (Nat.le_of_ble_eq_true rfl) (Mo_isRefused_ok k h r) rfl ?_
  rintro rv h1 r ⟨rfl, rfl, rfl⟩ -
  have f1 := x_ref_f (S := qF) (C := qK) (h := h) (k := k) (by decide) (by decide) (by decide) (by decide)
  have I1 := mI_f hI f1 (by decide) (by decide)
  refine wq_cif_eq (tgt := 35) (q := 33) rfl rfl rfl (fun c30 => ?_) (fun c30 => ?_)
  · skip
    have k0 : k = 0 := by simpa using c30
    subst k0
    have hw := kO_0 hk
    refine wq_iload_n (kk := 2) (q := 36) rfl rfl rfl ?_
    refine wq_iconst (n := 3) (q := 37) rfl rfl rfl ?_
    refine wq_icmp_ne (tgt := 48) (q := 40) rfl rfl rfl (fun c37 => ?_) (fun c37 => ?_)
    · skip
      refine wq_iload_n (kk := 2) (q := 49) rfl rfl rfl ?_
      refine wq_iconst (n := 4) (q := 50) rfl rfl rfl ?_
      refine wq_icmp_ne (tgt := 61) (q := 53) rfl rfl rfl (fun c50 => ?_) (fun c50 => ?_)
      · skip
        refine wq_aload_n (kk := 0) (q := 62) rfl rfl rfl ?_
        refine wq_getF (q := 65) f_Mo_17 rfl rfl (Nat.le_of_ble_eq_true rfl) rfl rfl rfl ?_
        refine wq_iload_n (kk := 1) (q := 66) rfl rfl rfl ?_
        refine wq_iload_n (kk := 2) (q := 67) rfl rfl rfl ?_
        refine wq_callS (q := 70) (m' := m_Mo_at) (R' := rm 1) (As := [_, _]) rfl rfl l_Mo_209 sm_Mo_at rfl (Nat.le_of_ble_eq_true rfl) (Nat.le_of_ble_eq_true rfl) (Nat.le_refl _) (Nat.le_refl _) (Nat.le_of_ble_eq_true rfl) (Mo_at_ok d w _ r (by omega) (by omega)) rfl ?_
        rintro rv h2 r ⟨rfl, rfl, rfl⟩ -
        refine wq_iald (q := 71) rfl (Or.inl ⟨rfl, Nat.le_of_ble_eq_true rfl⟩) rfl rfl (by first | omega | (simp [hup]; omega)) (by first | omega | (simp [hup]; omega)) ?_
        refine wq_iret rfl rfl (Nat.le_refl _) (Nat.le_refl _) ⟨_, rfl, rfl, Or.inr ⟨rfl, x_ref_1, ?_⟩, by rw [x_ref_1]; decide, f1⟩
        unfold deR
        first
        | rw [if_pos c37]
        | rw [if_neg c37, if_pos c50]
        | (rw [if_neg c37, if_neg c50]; rfl)
      · skip
        refine wq_aload_n (kk := 0) (q := 54) rfl rfl rfl ?_
        refine wq_iload_n (kk := 1) (q := 55) rfl rfl rfl ?_
        refine wq_callV (q := 58) (m' := m_Mo_arrivesAt) (R' := rm 3) (As := [_]) rfl rfl l_Mo_272 vm_Mo_arrivesAt rfl rfl rfl (Or.inl ⟨rfl, Nat.le_of_ble_eq_true rfl⟩) (Nat.le_of_ble_eq_true rfl) (Nat.le_of_ble_eq_true rfl) (Nat.le_refl _) (Nat.le_refl _) (Nat.le_of_ble_eq_true rfl) (Mo_arrivesAt_ok N d _ r I1.1 hw.1) rfl ?_
        rintro rv h2 r ⟨rfl, rfl, rfl⟩ -
        refine wq_goto (tgt := 71) rfl rfl ?_
        refine wq_iret rfl rfl (Nat.le_refl _) (Nat.le_refl _) ⟨_, rfl, rfl, Or.inr ⟨rfl, x_ref_1, ?_⟩, by rw [x_ref_1]; decide, f1⟩
        unfold deR
        first
        | rw [if_pos c37]
        | rw [if_neg c37, if_pos c50]
        | (rw [if_neg c37, if_neg c50]; rfl)
    · skip
      refine wq_aload_n (kk := 0) (q := 41) rfl rfl rfl ?_
      refine wq_iload_n (kk := 1) (q := 42) rfl rfl rfl ?_
      refine wq_callV (q := 45) (m' := m_Mo_leavesAt) (R' := rm 2) (As := [_]) rfl rfl l_Mo_250 vm_Mo_leavesAt rfl rfl rfl (Or.inl ⟨rfl, Nat.le_of_ble_eq_true rfl⟩) (Nat.le_of_ble_eq_true rfl) (Nat.le_of_ble_eq_true rfl) (Nat.le_refl _) (Nat.le_refl _) (Nat.le_of_ble_eq_true rfl) (Mo_leavesAt_ok N d _ r I1.1 hw.1) rfl ?_
      rintro rv h2 r ⟨rfl, rfl, rfl⟩ -
      refine wq_goto (tgt := 71) rfl rfl ?_
      refine wq_iret rfl rfl (Nat.le_refl _) (Nat.le_refl _) ⟨_, rfl, rfl, Or.inr ⟨rfl, x_ref_1, ?_⟩, by rw [x_ref_1]; decide, f1⟩
      unfold deR
      first
      | rw [if_pos c37]
      | rw [if_neg c37, if_pos c50]
      | (rw [if_neg c37, if_neg c50]; rfl)
  · skip
    refine wq_iconst (n := -1) (q := 34) rfl rfl rfl ?_
    exact wq_iret rfl rfl (Nat.le_refl _) (Nat.le_refl _) ⟨_, rfl, rfl, Or.inl ⟨c30, rfl, x_ref_1⟩, by rw [x_ref_1]; have := kO_b (P := (0 ≤ d ∧ d < nN N) ∧ 0 ≤ w ∧ w ≤ 7); omega, f1⟩
set_option maxRecDepth 100000 in
set_option maxHeartbeats 1000000 in
theorem Mo_departure_ok (d w : Int) (N : mN) (h : mH) (r : mR) (hI : mI h N) : Meets true (rm 4) m_Mo_departure [vR 64, vI d, vI w] h r (rqQ h r (Ans (kO ((0 ≤ d ∧ d < nN N) ∧ 0 ≤ w ∧ w ≤ 7)) (fun v tr => tr = 0 ∧ v = deR h N d w))) := by
  have e4 := hI.1.2.1
  have hn := hI.1.1.1
  have hT := hI.2
  refine ⟨ok_Mo_departure, Nat.le_of_ble_eq_true rfl, ?_⟩
  refine wq_aload_n (kk := 0) (q := 1) rfl rfl rfl ?_
  refine wq_aload_n (kk := 0) (q := 2) rfl rfl rfl ?_
  refine wq_iload_n (kk := 1) (q := 3) rfl rfl rfl ?_
  refine wq_callV (q := 6) (m' := m_Mo_isOne) (R' := rm 2) (As := [_]) rfl rfl l_Mo_269 vm_Mo_isOne rfl rfl rfl (Or.inl ⟨rfl, Nat.le_of_ble_eq_true rfl⟩) (Nat.le_of_ble_eq_true rfl) (Nat.le_of_ble_eq_true rfl) (Nat.le_refl _) (Nat.le_refl _) (Nat.le_of_ble_eq_true rfl) (Mo_isOne_ok d h r (by omega) (by omega) (by omega)) rfl ?_
  rintro rv h r ⟨rfl, rfl, rfl⟩ -
  refine wq_cif_eq (tgt := 23) (q := 9) rfl rfl rfl (fun c6 => ?_) (fun c6 => ?_)
  · skip
    refine wq_iconst (n := 0) (q := 24) rfl rfl rfl ?_
    first
    | exact Mo_depA d w 1 N h r hI (bI_t (by omega)).symm
    | exact Mo_depA d w 0 N h r hI (bI_f (by omega)).symm
  · skip
    refine wq_iload_n (kk := 2) (q := 10) rfl rfl rfl ?_
    refine wq_iconst (n := 0) (q := 11) rfl rfl rfl ?_
    refine wq_bipush (n := 7) (q := 13) rfl rfl rfl ?_
    refine wq_callS (q := 16) (m' := m_Mo_in) (R' := rm 1) (As := [_, _, _]) rfl rfl l_Mo_107 sm_Mo_in rfl (Nat.le_of_ble_eq_true rfl) (Nat.le_of_ble_eq_true rfl) (Nat.le_refl _) (Nat.le_refl _) (Nat.le_of_ble_eq_true rfl) (Mo_in_ok _ _ _ h r) rfl ?_
    rintro rv h r ⟨rfl, rfl, rfl⟩ -
    refine wq_cif_eq (tgt := 23) (q := 19) rfl rfl rfl (fun c16 => ?_) (fun c16 => ?_)
    · skip
      refine wq_iconst (n := 0) (q := 24) rfl rfl rfl ?_
      first
      | exact Mo_depA d w 1 N h r hI (bI_t (by omega)).symm
      | exact Mo_depA d w 0 N h r hI (bI_f (by omega)).symm
    · skip
      refine wq_iconst (n := 1) (q := 20) rfl rfl rfl ?_
      refine wq_goto (tgt := 24) rfl rfl ?_
      first
      | exact Mo_depA d w 1 N h r hI (bI_t (by omega)).symm
      | exact Mo_depA d w 0 N h r hI (bI_f (by omega)).symm
set_option maxRecDepth 100000 in
set_option maxHeartbeats 1000000 in
theorem Mo_ordI (N : mN) (k d : Int) (X : mX) (h1 : mH) (r : mR) (hM : isM h1 N) (hd : dp N d) (K : ∀ x4, WP (true, rm 3) m_Mo_ordered X 112 [some (vR 64), some (vI k), some (vI d), some (vI (ahd N d)), x4] [] h1 r (0, 0)) : ∀ (M : Nat) (o c : Int), (nN N - o).toNat = M → 0 ≤ o → o ≤ nN N → c = cn (fun o => (rn N o == 1) && decide (lv N o < lv N d ∨ lv N o = lv N d ∧ o < d)) o.toNat → WP (true, rm 3) m_Mo_ordered X 44 [some (vR 64), some (vI k), some (vI d), some (vI c), some (vI o)] [] h1 r (0, 0) := by
  intro M
  induction M using Nat.strongRecOn with
  | ind M ih =>
    intro o c hN o0 o1 hc
    have hn := hM.1.1
    have e4 := hM.2.1
    have hb := cn_b (fun o => (rn N o == 1) && decide (lv N o < lv N d ∨ lv N o = lv N d ∧ o < d)) o.toNat
    have hdp : o < nN N → dp N o := fun z => ⟨o0, z⟩
    refine wq_iload (i := 4) (q := 46) rfl rfl rfl ?_
    refine wq_aload_n (kk := 0) (q := 47) rfl rfl rfl ?_
    refine wq_getF (q := 50) f_Mo_17 rfl rfl (Nat.le_of_ble_eq_true rfl) rfl rfl rfl ?_
    refine wq_iconst (n := 4) (q := 51) rfl rfl rfl ?_
    refine wq_iald (q := 52) rfl (Or.inl ⟨rfl, Nat.le_of_ble_eq_true rfl⟩) rfl rfl (by first | omega | (simp [hup]; omega)) (by first | omega | (simp [hup]; omega)) ?_
    refine wq_icmp_ge (tgt := 112) (q := 55) rfl rfl rfl (fun c52 => ?_) (fun c52 => ?_)
    · skip
      have eo : o = nN N := by omega
      have : c = ahd N d := by rw [hc, eo]; rfl
      rw [this]
      exact K _
    · skip
      refine wq_iload_n (kk := 3) (q := 56) rfl rfl rfl ?_
      refine wq_aload_n (kk := 0) (q := 57) rfl rfl rfl ?_
      refine wq_iload (i := 4) (q := 59) rfl rfl rfl ?_
      refine wq_callV (q := 62) (m' := m_Mo_runs) (R' := rm 2) (As := [_]) rfl rfl l_Mo_253 vm_Mo_runs rfl rfl rfl (Or.inl ⟨rfl, Nat.le_of_ble_eq_true rfl⟩) (Nat.le_of_ble_eq_true rfl) (Nat.le_of_ble_eq_true rfl) (Nat.le_refl _) (Nat.le_refl _) (Nat.le_of_ble_eq_true rfl) (Mo_runs_ok N o h1 r hM (hdp (by omega))) rfl ?_
      rintro rv h1 r ⟨rfl, rfl, rfl⟩ -
      refine wq_cif_eq (tgt := 103) (q := 65) rfl rfl rfl (fun c62 => ?_) (fun c62 => ?_)
      · skip
        refine wq_iconst (n := 0) (q := 104) rfl rfl rfl ?_
        refine wq_iadd (q := 105) rfl rfl (by first | omega | (simp [hup]; omega)) (by first | omega | (simp [hup]; omega)) ?_
        refine wq_istore_n (kk := 3) (q := 106) rfl rfl (Nat.le_of_ble_eq_true rfl) rfl ?_
        refine wq_iinc (i := 4) (n := 1) (q := 109) rfl rfl rfl (Nat.le_of_ble_eq_true rfl) rfl (by first | omega | (simp [hup]; omega)) (by first | omega | (simp [hup]; omega)) ?_
        refine wq_goto (tgt := 44) rfl rfl ?_
        refine ih _ (by omega) (o + 1) _ rfl (by omega) (by omega) ?_
        rw [cn_s o0, hc]
        simp only [Bool.and_eq_true, beq_iff_eq, decide_eq_true_eq]
        split <;> omega
      · skip
        refine wq_aload_n (kk := 0) (q := 66) rfl rfl rfl ?_
        refine wq_iload (i := 4) (q := 68) rfl rfl rfl ?_
        refine wq_callV (q := 71) (m' := m_Mo_leavesAt) (R' := rm 2) (As := [_]) rfl rfl l_Mo_250 vm_Mo_leavesAt rfl rfl rfl (Or.inl ⟨rfl, Nat.le_of_ble_eq_true rfl⟩) (Nat.le_of_ble_eq_true rfl) (Nat.le_of_ble_eq_true rfl) (Nat.le_refl _) (Nat.le_refl _) (Nat.le_of_ble_eq_true rfl) (Mo_leavesAt_ok N o h1 r hM (hdp (by omega))) rfl ?_
        rintro rv h1 r ⟨rfl, rfl, rfl⟩ -
        refine wq_aload_n (kk := 0) (q := 72) rfl rfl rfl ?_
        refine wq_iload_n (kk := 2) (q := 73) rfl rfl rfl ?_
        refine wq_callV (q := 76) (m' := m_Mo_leavesAt) (R' := rm 2) (As := [_]) rfl rfl l_Mo_250 vm_Mo_leavesAt rfl rfl rfl (Or.inl ⟨rfl, Nat.le_of_ble_eq_true rfl⟩) (Nat.le_of_ble_eq_true rfl) (Nat.le_of_ble_eq_true rfl) (Nat.le_refl _) (Nat.le_refl _) (Nat.le_of_ble_eq_true rfl) (Mo_leavesAt_ok N d h1 r hM hd) rfl ?_
        rintro rv h1 r ⟨rfl, rfl, rfl⟩ -
        refine wq_icmp_lt (tgt := 99) (q := 79) rfl rfl rfl (fun c76 => ?_) (fun c76 => ?_)
        · skip
          refine wq_iconst (n := 1) (q := 100) rfl rfl rfl ?_
          refine wq_goto (tgt := 104) rfl rfl ?_
          refine wq_iadd (q := 105) rfl rfl (by first | omega | (simp [hup]; omega)) (by first | omega | (simp [hup]; omega)) ?_
          refine wq_istore_n (kk := 3) (q := 106) rfl rfl (Nat.le_of_ble_eq_true rfl) rfl ?_
          refine wq_iinc (i := 4) (n := 1) (q := 109) rfl rfl rfl (Nat.le_of_ble_eq_true rfl) rfl (by first | omega | (simp [hup]; omega)) (by first | omega | (simp [hup]; omega)) ?_
          refine wq_goto (tgt := 44) rfl rfl ?_
          refine ih _ (by omega) (o + 1) _ rfl (by omega) (by omega) ?_
          rw [cn_s o0, hc]
          simp only [Bool.and_eq_true, beq_iff_eq, decide_eq_true_eq]
          split <;> omega
        · skip
          refine wq_aload_n (kk := 0) (q := 80) rfl rfl rfl ?_
          refine wq_iload (i := 4) (q := 82) rfl rfl rfl ?_
          refine wq_callV (q := 85) (m' := m_Mo_leavesAt) (R' := rm 2) (As := [_]) rfl rfl l_Mo_250 vm_Mo_leavesAt rfl rfl rfl (Or.inl ⟨rfl, Nat.le_of_ble_eq_true rfl⟩) (Nat.le_of_ble_eq_true rfl) (Nat.le_of_ble_eq_true rfl) (Nat.le_refl _) (Nat.le_refl _) (Nat.le_of_ble_eq_true rfl) (Mo_leavesAt_ok N o h1 r hM (hdp (by omega))) rfl ?_
          rintro rv h1 r ⟨rfl, rfl, rfl⟩ -
          refine wq_aload_n (kk := 0) (q := 86) rfl rfl rfl ?_
          refine wq_iload_n (kk := 2) (q := 87) rfl rfl rfl ?_
          refine wq_callV (q := 90) (m' := m_Mo_leavesAt) (R' := rm 2) (As := [_]) rfl rfl l_Mo_250 vm_Mo_leavesAt rfl rfl rfl (Or.inl ⟨rfl, Nat.le_of_ble_eq_true rfl⟩) (Nat.le_of_ble_eq_true rfl) (Nat.le_of_ble_eq_true rfl) (Nat.le_refl _) (Nat.le_refl _) (Nat.le_of_ble_eq_true rfl) (Mo_leavesAt_ok N d h1 r hM hd) rfl ?_
          rintro rv h1 r ⟨rfl, rfl, rfl⟩ -
          refine wq_icmp_ne (tgt := 103) (q := 93) rfl rfl rfl (fun c90 => ?_) (fun c90 => ?_)
          · skip
            refine wq_iconst (n := 0) (q := 104) rfl rfl rfl ?_
            refine wq_iadd (q := 105) rfl rfl (by first | omega | (simp [hup]; omega)) (by first | omega | (simp [hup]; omega)) ?_
            refine wq_istore_n (kk := 3) (q := 106) rfl rfl (Nat.le_of_ble_eq_true rfl) rfl ?_
            refine wq_iinc (i := 4) (n := 1) (q := 109) rfl rfl rfl (Nat.le_of_ble_eq_true rfl) rfl (by first | omega | (simp [hup]; omega)) (by first | omega | (simp [hup]; omega)) ?_
            refine wq_goto (tgt := 44) rfl rfl ?_
            refine ih _ (by omega) (o + 1) _ rfl (by omega) (by omega) ?_
            rw [cn_s o0, hc]
            simp only [Bool.and_eq_true, beq_iff_eq, decide_eq_true_eq]
            split <;> omega
          · skip
            refine wq_iload (i := 4) (q := 95) rfl rfl rfl ?_
            refine wq_iload_n (kk := 2) (q := 96) rfl rfl rfl ?_
            refine wq_icmp_ge (tgt := 103) (q := 99) rfl rfl rfl (fun c96 => ?_) (fun c96 => ?_)
            · skip
              refine wq_iconst (n := 0) (q := 104) rfl rfl rfl ?_
              refine wq_iadd (q := 105) rfl rfl (by first | omega | (simp [hup]; omega)) (by first | omega | (simp [hup]; omega)) ?_
              refine wq_istore_n (kk := 3) (q := 106) rfl rfl (Nat.le_of_ble_eq_true rfl) rfl ?_
              refine wq_iinc (i := 4) (n := 1) (q := 109) rfl rfl rfl (Nat.le_of_ble_eq_true rfl) rfl (by first | omega | (simp [hup]; omega)) (by first | omega | (simp [hup]; omega)) ?_
              refine wq_goto (tgt := 44) rfl rfl ?_
              refine ih _ (by omega) (o + 1) _ rfl (by omega) (by omega) ?_
              rw [cn_s o0, hc]
              simp only [Bool.and_eq_true, beq_iff_eq, decide_eq_true_eq]
              split <;> omega
            · skip
              refine wq_iconst (n := 1) (q := 100) rfl rfl rfl ?_
              refine wq_goto (tgt := 104) rfl rfl ?_
              refine wq_iadd (q := 105) rfl rfl (by first | omega | (simp [hup]; omega)) (by first | omega | (simp [hup]; omega)) ?_
              refine wq_istore_n (kk := 3) (q := 106) rfl rfl (Nat.le_of_ble_eq_true rfl) rfl ?_
              refine wq_iinc (i := 4) (n := 1) (q := 109) rfl rfl rfl (Nat.le_of_ble_eq_true rfl) rfl (by first | omega | (simp [hup]; omega)) (by first | omega | (simp [hup]; omega)) ?_
              refine wq_goto (tgt := 44) rfl rfl ?_
              refine ih _ (by omega) (o + 1) _ rfl (by omega) (by omega) ?_
              rw [cn_s o0, hc]
              simp only [Bool.and_eq_true, beq_iff_eq, decide_eq_true_eq]
              split <;> omega
set_option maxRecDepth 100000 in
set_option maxHeartbeats 1000000 in
theorem Mo_ordL (N : mN) (k : Int) (h : mH) (r : mR) (h1 : mH) (hM : isM h1 N) (e1 : h1 64 1 = 0) (f1 : f64 qF qK h h1) : ∀ (M : Nat) (d : Int) (x3 x4 : Option mV), (nN N - d).toNat = M → 0 ≤ d → d ≤ nN N → (∀ e, 0 ≤ e → e < d → rn N e = 1 → ahd N e ≠ k) → (match x3 with | some (.inr (.inl _)) => false | _ => true) = true → WP (true, rm 3) m_Mo_ordered (rt m_Mo_ordered (rm 3) (rqQ h r (Orq N k))) 18 [some (vR 64), some (vI k), some (vI d), x3, x4] [] h1 r (0, 0) := by
  intro M
  induction M using Nat.strongRecOn with
  | ind M ih =>
    intro d x3 x4 hN d0 d1 hp p3
    have hn := hM.1.1
    have e4 := hM.2.1
    have hdp : d < nN N → dp N d := fun z => ⟨d0, z⟩
    refine wq_iload_n (kk := 2) (q := 19) rfl rfl rfl ?_
    refine wq_aload_n (kk := 0) (q := 20) rfl rfl rfl ?_
    refine wq_getF (q := 23) f_Mo_17 rfl rfl (Nat.le_of_ble_eq_true rfl) rfl rfl rfl ?_
    refine wq_iconst (n := 4) (q := 24) rfl rfl rfl ?_
    refine wq_iald (q := 25) rfl (Or.inl ⟨rfl, Nat.le_of_ble_eq_true rfl⟩) rfl rfl (by first | omega | (simp [hup]; omega)) (by first | omega | (simp [hup]; omega)) ?_
    refine wq_icmp_ge (tgt := 125) (q := 28) rfl rfl rfl (fun c25 => ?_) (fun c25 => ?_)
    · skip
      refine wq_aload_n (kk := 0) (q := 126) rfl rfl rfl ?_
      refine wq_iconst (n := 1) (q := 127) rfl rfl rfl ?_
      refine wq_callV (q := 130) (m' := m_Mo_no) (R' := rm 1) (As := [_]) rfl rfl l_Mo_237 vm_Mo_no rfl rfl rfl (Or.inl ⟨rfl, Nat.le_of_ble_eq_true rfl⟩) (Nat.le_of_ble_eq_true rfl) (Nat.le_of_ble_eq_true rfl) (Nat.le_refl _) (Nat.le_refl _) (Nat.le_of_ble_eq_true rfl) (Mo_no_ok 1 h1 r) rfl ?_
      rintro rv h2 r ⟨rfl, rfl, rfl⟩ -
      refine wq_iret rfl rfl (Nat.le_refl _) (Nat.le_refl _) ⟨_, rfl, rfl, Or.inr ⟨fun e he er => ?_, rfl, hup_s⟩, by rw [hup_s]; decide, f1.up (by decide) (by decide)⟩
      exact hp e he.1 (by have := he.2; omega) er
    · skip
      refine wq_aload_n (kk := 0) (q := 29) rfl rfl rfl ?_
      refine wq_iload_n (kk := 2) (q := 30) rfl rfl rfl ?_
      refine wq_callV (q := 33) (m' := m_Mo_runs) (R' := rm 2) (As := [_]) rfl rfl l_Mo_253 vm_Mo_runs rfl rfl rfl (Or.inl ⟨rfl, Nat.le_of_ble_eq_true rfl⟩) (Nat.le_of_ble_eq_true rfl) (Nat.le_of_ble_eq_true rfl) (Nat.le_refl _) (Nat.le_refl _) (Nat.le_of_ble_eq_true rfl) (Mo_runs_ok N d h1 r hM (hdp (by omega))) rfl ?_
      rintro rv h1 r ⟨rfl, rfl, rfl⟩ -
      refine wq_cif_ne (tgt := 39) (q := 36) rfl rfl rfl (fun c33 => ?_) (fun c33 => ?_)
      · skip
        refine wq_iconst (n := 0) (q := 40) rfl rfl rfl ?_
        refine wq_istore_n (kk := 3) (q := 41) rfl rfl (Nat.le_of_ble_eq_true rfl) rfl ?_
        refine wq_iconst (n := 0) (q := 42) rfl rfl rfl ?_
        refine wq_istore (i := 4) (q := 44) rfl rfl (Nat.le_of_ble_eq_true rfl) rfl ?_
        refine Mo_ordI N k d _ h1 r hM (hdp (by omega)) (fun y4 => ?_) _ 0 0 rfl (by omega) (by omega) rfl
        refine wq_iload_n (kk := 3) (q := 113) rfl rfl rfl ?_
        refine wq_iload_n (kk := 1) (q := 114) rfl rfl rfl ?_
        refine wq_icmp_ne (tgt := 119) (q := 117) rfl rfl rfl (fun c114 => ?_) (fun c114 => ?_)
        · refine wq_iinc (i := 2) (n := 1) (q := 122) rfl rfl rfl (Nat.le_of_ble_eq_true rfl) rfl (by omega) (by omega) ?_
          refine wq_goto (tgt := 18) rfl rfl ?_
          refine ih _ (by omega) (d + 1) _ _ rfl (by omega) (by omega) (fun e e0 e1 er => ?_) rfl
          by_cases ee : e = d
          · subst ee; exact c114
          · exact hp e e0 (by omega) er
        · refine wq_iload_n (kk := 2) (q := 118) rfl rfl rfl ?_
          exact wq_iret rfl rfl (Nat.le_refl _) (Nat.le_refl _) ⟨_, rfl, rfl, Or.inl ⟨d, hdp (by omega), c33, by omega, rfl, e1⟩, by omega, f1⟩
      · skip
        refine wq_goto (tgt := 119) rfl rfl ?_
        refine wq_iinc (i := 2) (n := 1) (q := 122) rfl rfl rfl (Nat.le_of_ble_eq_true rfl) rfl (by first | omega | (simp [hup]; omega)) (by first | omega | (simp [hup]; omega)) ?_
        refine wq_goto (tgt := 18) rfl rfl ?_
        refine ih _ (by omega) (d + 1) _ _ rfl (by omega) (by omega) (fun e e0 e1 er => ?_) p3
        by_cases ee : e = d
        · subst ee; exact absurd er c33
        · exact hp e e0 (by omega) er
set_option maxRecDepth 100000 in
set_option maxHeartbeats 1000000 in
theorem Mo_ordered_ok (k : Int) (N : mN) (h : mH) (r : mR) (hI : mI h N) : Meets true (rm 3) m_Mo_ordered [vR 64, vI k] h r (rqQ h r (Orq N k)) := by
  have hT := hI.2
  have hn := hI.1.1.1
  refine ⟨ok_Mo_ordered, Nat.le_of_ble_eq_true rfl, ?_⟩
  refine wq_aload_n (kk := 0) (q := 1) rfl rfl rfl ?_
  refine wq_aload_n (kk := 0) (q := 2) rfl rfl rfl ?_
  refine wq_getI (kz := 11) (q := 5) rfl f_Mo_244 rfl rfl (Or.inl ⟨rfl, Nat.le_of_ble_eq_true rfl⟩) rfl rfl ?_
  refine wq_callS (q := 8) (m' := m_Mo_unless) (R' := rm 1) (As := [_]) rfl rfl l_Mo_256 sm_Mo_unless rfl (Nat.le_of_ble_eq_true rfl) (Nat.le_of_ble_eq_true rfl) (Nat.le_refl _) (Nat.le_refl _) (Nat.le_of_ble_eq_true rfl) (Mo_unless_ok _ h r) rfl ?_
  rintro rv h r ⟨rfl, rfl, rfl⟩ -
  generalize hk : (if h 64 11 = 0 then (1 : Int) else 0) = w
  refine wq_callV (q := 11) (m' := m_Mo_isRefused) (R' := rm 1) (As := [_]) rfl rfl l_Mo_228 vm_Mo_isRefused rfl rfl rfl (Or.inl ⟨rfl, Nat.le_of_ble_eq_true rfl⟩) (Nat.le_of_ble_eq_true rfl) (Nat.le_of_ble_eq_true rfl) (Nat.le_refl _) (Nat.le_refl _) (Nat.le_of_ble_eq_true rfl) (Mo_isRefused_ok w h r) rfl ?_
  rintro rv h1 r ⟨rfl, rfl, rfl⟩ -
  have f1 := x_ref_f (S := qF) (C := qK) (h := h) (k := w) (by decide) (by decide) (by decide) (by decide)
  have I1 := mI_f hI f1 (by decide) (by decide)
  refine wq_cif_eq (tgt := 16) (q := 14) rfl rfl rfl (fun c11 => ?_) (fun c11 => ?_)
  · skip
    refine wq_iconst (n := 0) (q := 17) rfl rfl rfl ?_
    refine wq_istore_n (kk := 2) (q := 18) rfl rfl (Nat.le_of_ble_eq_true rfl) rfl ?_
    have w0 : w = 0 := by simpa using c11
    subst w0
    exact Mo_ordL N k h r _ I1.1 x_ref_1 f1 _ 0 none none rfl (by omega) (by omega) (fun e e0 e1 => by omega) rfl
  · skip
    refine wq_iconst (n := -1) (q := 15) rfl rfl rfl ?_
    have w1 : w = 1 ∧ h 64 11 = 0 := by
      split at hk <;> omega
    refine wq_iret rfl rfl (Nat.le_refl _) (Nat.le_refl _) ⟨_, rfl, rfl, Or.inr ⟨fun d hd => ?_, rfl, by rw [x_ref_1]; exact w1.1⟩, by rw [x_ref_1]; omega, f1⟩
    have d0 := hd.1
    have d1 := hd.2
    omega
set_option maxRecDepth 100000 in
set_option maxHeartbeats 1000000 in
theorem Mo_lateMany_lp (n : Int) (hn : 0 ≤ n ∧ n ≤ 120) (h : mH) (r : mR) (e4 : h 66 4 = n) : ∀ (M : Nat) (d f : Int), (n - d).toNat = M → 0 ≤ d → d ≤ n → f = cn (fun d => decide (0 < h 66 (25 + 8 * d + 5))) d.toNat → WP (true, rm 2) m_Mo_lateMany (rt m_Mo_lateMany (rm 2) (pI (cn (fun d => decide (0 < h 66 (25 + 8 * d + 5))) n.toNat) h r)) 4 [some (vR 64), some (vI f), some (vI d)] [] h r (0, 0) := by
  intro M
  induction M using Nat.strongRecOn with
  | ind M ih =>
    intro d f hN h0 h1 hf
    have hb := cn_b (fun d => decide (0 < h 66 (25 + 8 * d + 5))) d.toNat
    refine wq_iload_n (kk := 2) (q := 5) rfl rfl rfl ?_
    refine wq_aload_n (kk := 0) (q := 6) rfl rfl rfl ?_
    refine wq_getF (q := 9) f_Mo_17 rfl rfl (Nat.le_of_ble_eq_true rfl) rfl rfl rfl ?_
    refine wq_iconst (n := 4) (q := 10) rfl rfl rfl ?_
    refine wq_iald (q := 11) rfl (Or.inl ⟨rfl, Nat.le_of_ble_eq_true rfl⟩) rfl rfl (by first | omega | (simp [hup]; omega)) (by first | omega | (simp [hup]; omega)) ?_
    refine wq_icmp_ge (tgt := 41) (q := 14) rfl rfl rfl (fun c11 => ?_) (fun c11 => ?_)
    · skip
      refine wq_iload_n (kk := 1) (q := 42) rfl rfl rfl ?_
      refine wq_iret rfl rfl (Nat.le_refl _) (Nat.le_refl _) ⟨?_, rfl, rfl⟩
      have e : d = n := by omega
      rw [hf, e]
    · skip
      refine wq_iload_n (kk := 1) (q := 15) rfl rfl rfl ?_
      refine wq_aload_n (kk := 0) (q := 16) rfl rfl rfl ?_
      refine wq_getF (q := 19) f_Mo_17 rfl rfl (Nat.le_of_ble_eq_true rfl) rfl rfl rfl ?_
      refine wq_iload_n (kk := 2) (q := 20) rfl rfl rfl ?_
      refine wq_iconst (n := 5) (q := 21) rfl rfl rfl ?_
      refine wq_callS (q := 24) (m' := m_Mo_at) (R' := rm 1) (As := [_, _]) rfl rfl l_Mo_209 sm_Mo_at rfl (Nat.le_of_ble_eq_true rfl) (Nat.le_of_ble_eq_true rfl) (Nat.le_refl _) (Nat.le_refl _) (Nat.le_of_ble_eq_true rfl) (Mo_at_ok d 5 h r (by omega) (by omega)) rfl ?_
      rintro rv h r ⟨rfl, rfl, rfl⟩ -
      refine wq_iald (q := 25) rfl (Or.inl ⟨rfl, Nat.le_of_ble_eq_true rfl⟩) rfl rfl (by first | omega | (simp [hup]; omega)) (by first | omega | (simp [hup]; omega)) ?_
      refine wq_if_le (tgt := 32) (q := 28) rfl rfl rfl (fun c25 => ?_) (fun c25 => ?_)
      · skip
        refine wq_iconst (n := 0) (q := 33) rfl rfl rfl ?_
        refine wq_iadd (q := 34) rfl rfl (by first | omega | (simp [hup]; omega)) (by first | omega | (simp [hup]; omega)) ?_
        refine wq_istore_n (kk := 1) (q := 35) rfl rfl (Nat.le_of_ble_eq_true rfl) rfl ?_
        refine wq_iinc (i := 2) (n := 1) (q := 38) rfl rfl rfl (Nat.le_of_ble_eq_true rfl) rfl (by first | omega | (simp [hup]; omega)) (by first | omega | (simp [hup]; omega)) ?_
        refine wq_goto (tgt := 4) rfl rfl ?_
        refine ih _ (by omega) (d + 1) _ rfl (by omega) (by omega) ?_
        rw [cn_s h0, hf]
        simp only [decide_eq_true_eq]
        split <;> omega
      · skip
        refine wq_iconst (n := 1) (q := 29) rfl rfl rfl ?_
        refine wq_goto (tgt := 33) rfl rfl ?_
        refine wq_iadd (q := 34) rfl rfl (by first | omega | (simp [hup]; omega)) (by first | omega | (simp [hup]; omega)) ?_
        refine wq_istore_n (kk := 1) (q := 35) rfl rfl (Nat.le_of_ble_eq_true rfl) rfl ?_
        refine wq_iinc (i := 2) (n := 1) (q := 38) rfl rfl rfl (Nat.le_of_ble_eq_true rfl) rfl (by first | omega | (simp [hup]; omega)) (by first | omega | (simp [hup]; omega)) ?_
        refine wq_goto (tgt := 4) rfl rfl ?_
        refine ih _ (by omega) (d + 1) _ rfl (by omega) (by omega) ?_
        rw [cn_s h0, hf]
        simp only [decide_eq_true_eq]
        split <;> omega
def szR (h : mH) (w : Int) : Int := if w = 0 then h 64 5 else if w = 1 then h 64 10 else if w = 2 then cn (fun d => decide (0 < h 66 (25 + 8 * d + 5))) (h 66 4).toNat else -1
set_option maxRecDepth 100000 in
set_option maxHeartbeats 1000000 in
theorem Mo_lateMany_ok (h : mH) (r : mR) (hn : 0 ≤ h 66 4 ∧ h 66 4 ≤ 120) : Meets true (rm 2) m_Mo_lateMany [vR 64] h r (pI (cn (fun d => decide (0 < h 66 (25 + 8 * d + 5))) (h 66 4).toNat) h r) := by
  refine ⟨ok_Mo_lateMany, Nat.le_of_ble_eq_true rfl, ?_⟩
  refine wq_iconst (n := 0) (q := 1) rfl rfl rfl ?_
  refine wq_istore_n (kk := 1) (q := 2) rfl rfl (Nat.le_of_ble_eq_true rfl) rfl ?_
  refine wq_iconst (n := 0) (q := 3) rfl rfl rfl ?_
  refine wq_istore_n (kk := 2) (q := 4) rfl rfl (Nat.le_of_ble_eq_true rfl) rfl ?_
  exact Mo_lateMany_lp (h 66 4) hn h r rfl _ 0 0 rfl (by omega) (by omega) rfl
set_option maxRecDepth 100000 in
set_option maxHeartbeats 1000000 in
theorem Mo_size_ok (w : Int) (h : mH) (r : mR) (hn : 0 ≤ h 66 4 ∧ h 66 4 ≤ 120) : Meets true (rm 3) m_Mo_size [vR 64, vI w] h r (pI (szR h w) (hup h 64 0 0) r) := by
  refine ⟨ok_Mo_size, Nat.le_of_ble_eq_true rfl, ?_⟩
  refine wq_aload_n (kk := 0) (q := 1) rfl rfl rfl ?_
  refine wq_iconst (n := 0) (q := 2) rfl rfl rfl ?_
  refine wq_putI (kz := 0) (q := 5) rfl f_Mo_78 rfl rfl rfl (Or.inl ⟨rfl, Nat.le_of_ble_eq_true rfl⟩) rfl rfl ?_
  refine wq_iload_n (kk := 1) (q := 6) rfl rfl rfl ?_
  refine wq_tabL (tg := [32, 37, 42]) (td := 47) rfl rfl rfl (fun c6 => ?_) (tab_c (fun c6 => ?_) (tab_c (fun c6 => ?_) (tab_c (fun c6 => ?_) (tab_n))))
  · skip
    refine wq_iconst (n := -1) (q := 48) rfl rfl rfl ?_
    refine wq_iret rfl rfl (Nat.le_refl _) (Nat.le_refl _) ?_
    refine ⟨?_, rfl, rfl⟩
    unfold szR
    first | (subst c6; rfl) | (simp at c6; rw [if_neg (by omega), if_neg (by omega), if_neg (by omega)])
  · skip
    refine wq_aload_n (kk := 0) (q := 33) rfl rfl rfl ?_
    refine wq_getI (kz := 5) (q := 36) rfl f_Mo_84 rfl rfl (Or.inl ⟨rfl, Nat.le_of_ble_eq_true rfl⟩) rfl rfl ?_
    refine wq_iret rfl rfl (Nat.le_refl _) (Nat.le_refl _) ?_
    refine ⟨?_, rfl, rfl⟩
    unfold szR
    first | (subst c6; rfl) | (simp at c6; rw [if_neg (by omega), if_neg (by omega), if_neg (by omega)])
  · skip
    refine wq_aload_n (kk := 0) (q := 38) rfl rfl rfl ?_
    refine wq_getI (kz := 10) (q := 41) rfl f_Mo_247 rfl rfl (Or.inl ⟨rfl, Nat.le_of_ble_eq_true rfl⟩) rfl rfl ?_
    refine wq_iret rfl rfl (Nat.le_refl _) (Nat.le_refl _) ?_
    refine ⟨?_, rfl, rfl⟩
    unfold szR
    first | (subst c6; rfl) | (simp at c6; rw [if_neg (by omega), if_neg (by omega), if_neg (by omega)])
  · skip
    refine wq_aload_n (kk := 0) (q := 43) rfl rfl rfl ?_
    refine wq_callV (q := 46) (m' := m_Mo_lateMany) (R' := rm 2) (As := []) rfl rfl l_Mo_384 vm_Mo_lateMany rfl rfl rfl (Or.inl ⟨rfl, Nat.le_of_ble_eq_true rfl⟩) (Nat.le_of_ble_eq_true rfl) (Nat.le_of_ble_eq_true rfl) (Nat.le_refl _) (Nat.le_refl _) (Nat.le_of_ble_eq_true rfl) (Mo_lateMany_ok _ r hn) rfl ?_
    rintro rv h2 r ⟨rfl, rfl, rfl⟩ -
    refine wq_iret rfl rfl (Nat.le_refl _) (Nat.le_refl _) ?_
    refine ⟨?_, rfl, rfl⟩
    unfold szR
    first | (subst c6; rfl) | (simp at c6; rw [if_neg (by omega), if_neg (by omega), if_neg (by omega)])
set_option maxRecDepth 100000 in
theorem Mo_trouble_ok (h : mH) (r : mR) : Meets true (rm 1) m_Mo_trouble [vR 64] h r (pI (h 64 1) (hup h 64 0 0) r) := by
  refine ⟨ok_Mo_trouble, Nat.le_of_ble_eq_true rfl, ?_⟩
  refine wq_aload_n (kk := 0) (q := 1) rfl rfl rfl ?_
  refine wq_iconst (n := 0) (q := 2) rfl rfl rfl ?_
  refine wq_putI (kz := 0) (q := 5) rfl f_Mo_78 rfl rfl rfl (Or.inl ⟨rfl, Nat.le_of_ble_eq_true rfl⟩) rfl rfl ?_
  refine wq_aload_n (kk := 0) (q := 6) rfl rfl rfl ?_
  refine wq_getI (kz := 1) (q := 9) rfl f_Mo_81 rfl rfl (Or.inl ⟨rfl, Nat.le_of_ble_eq_true rfl⟩) rfl rfl ?_
  refine wq_iret rfl rfl (Nat.le_refl _) (Nat.le_refl _) ?_
  first | exact ⟨rfl, rfl, rfl⟩ | exact pB_t (by omega) | exact pB_f (by omega) | exact pC_t (by omega) | exact pC_f (by omega) | (exfalso; omega)
set_option maxRecDepth 100000 in
theorem Mo_fault_ok (h : mH) (r : mR) : Meets true (rm 1) m_Mo_fault [vR 64] h r (pI (h 64 2) (hup h 64 0 0) r) := by
  refine ⟨ok_Mo_fault, Nat.le_of_ble_eq_true rfl, ?_⟩
  refine wq_aload_n (kk := 0) (q := 1) rfl rfl rfl ?_
  refine wq_iconst (n := 0) (q := 2) rfl rfl rfl ?_
  refine wq_putI (kz := 0) (q := 5) rfl f_Mo_78 rfl rfl rfl (Or.inl ⟨rfl, Nat.le_of_ble_eq_true rfl⟩) rfl rfl ?_
  refine wq_aload_n (kk := 0) (q := 6) rfl rfl rfl ?_
  refine wq_getI (kz := 2) (q := 9) rfl f_Mo_231 rfl rfl (Or.inl ⟨rfl, Nat.le_of_ble_eq_true rfl⟩) rfl rfl ?_
  refine wq_iret rfl rfl (Nat.le_refl _) (Nat.le_refl _) ?_
  first | exact ⟨rfl, rfl, rfl⟩ | exact pB_t (by omega) | exact pB_f (by omega) | exact pC_t (by omega) | exact pC_f (by omega) | (exfalso; omega)
set_option maxRecDepth 100000 in
theorem Mo_where_ok (h : mH) (r : mR) : Meets true (rm 1) m_Mo_where [vR 64] h r (pI (if h 64 1 = 4 then h 64 3 else -1) (hup h 64 0 0) r) := by
  refine ⟨ok_Mo_where, Nat.le_of_ble_eq_true rfl, ?_⟩
  refine wq_aload_n (kk := 0) (q := 1) rfl rfl rfl ?_
  refine wq_iconst (n := 0) (q := 2) rfl rfl rfl ?_
  refine wq_putI (kz := 0) (q := 5) rfl f_Mo_78 rfl rfl rfl (Or.inl ⟨rfl, Nat.le_of_ble_eq_true rfl⟩) rfl rfl ?_
  refine wq_aload_n (kk := 0) (q := 6) rfl rfl rfl ?_
  refine wq_getI (kz := 1) (q := 9) rfl f_Mo_81 rfl rfl (Or.inl ⟨rfl, Nat.le_of_ble_eq_true rfl⟩) rfl rfl ?_
  refine wq_iconst (n := 4) (q := 10) rfl rfl rfl ?_
  refine wq_icmp_ne (tgt := 20) (q := 13) rfl rfl rfl (fun c10 => ?_) (fun c10 => ?_)
  · skip
    refine wq_iconst (n := -1) (q := 21) rfl rfl rfl ?_
    refine wq_iret rfl rfl (Nat.le_refl _) (Nat.le_refl _) ?_
    refine ⟨?_, rfl, rfl⟩
    rw [hup_j (by decide)] at c10
    first | (rw [if_pos c10]; rfl) | (rw [if_neg c10])
  · skip
    refine wq_aload_n (kk := 0) (q := 14) rfl rfl rfl ?_
    refine wq_getI (kz := 3) (q := 17) rfl f_Mo_9 rfl rfl (Or.inl ⟨rfl, Nat.le_of_ble_eq_true rfl⟩) rfl rfl ?_
    refine wq_goto (tgt := 21) rfl rfl ?_
    refine wq_iret rfl rfl (Nat.le_refl _) (Nat.le_refl _) ?_
    refine ⟨?_, rfl, rfl⟩
    rw [hup_j (by decide)] at c10
    first | (rw [if_pos c10]; rfl) | (rw [if_neg c10])
set_option maxRecDepth 100000 in
theorem Mo_thrown_ok (h : mH) (r : mR) : Meets true (rm 1) m_Mo_thrown [vR 64] h r (pI (h 64 0) h r) := by
  refine ⟨ok_Mo_thrown, Nat.le_of_ble_eq_true rfl, ?_⟩
  refine wq_aload_n (kk := 0) (q := 1) rfl rfl rfl ?_
  refine wq_getI (kz := 0) (q := 4) rfl f_Mo_78 rfl rfl (Or.inl ⟨rfl, Nat.le_of_ble_eq_true rfl⟩) rfl rfl ?_
  refine wq_iret rfl rfl (Nat.le_refl _) (Nat.le_refl _) ?_
  first | exact ⟨rfl, rfl, rfl⟩ | exact pB_t (by omega) | exact pB_f (by omega) | exact pC_t (by omega) | exact pC_f (by omega) | (exfalso; omega)

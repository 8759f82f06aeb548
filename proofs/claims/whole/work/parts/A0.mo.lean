/-! LinkTimesModel: cell 64; its row 66 as a net -/
set_option maxRecDepth 100000 in
theorem Mo_in_ok (x a b : Int) (h : mH) (r : mR) : Meets true (rm 1) m_Mo_in [vI x, vI a, vI b] h r (pI (bI (a ≤ x ∧ x ≤ b)) h r) := by
  refine ⟨ok_Mo_in, Nat.le_of_ble_eq_true rfl, ?_⟩
  refine wq_iload_n (kk := 0) (q := 1) rfl rfl rfl ?_
  refine wq_iload_n (kk := 1) (q := 2) rfl rfl rfl ?_
  refine wq_icmp_lt (tgt := 14) (q := 5) rfl rfl rfl (fun c2 => ?_) (fun c2 => ?_)
  · skip
    refine wq_iconst (n := 0) (q := 15) rfl rfl rfl ?_
    refine wq_zret rfl rfl (Nat.le_refl _) (Nat.le_refl _) (by omega) ?_
    first | exact ⟨rfl, rfl, rfl⟩ | exact pB_t (by omega) | exact pB_f (by omega) | exact pC_t (by omega) | exact pC_f (by omega) | (exfalso; omega)
  · skip
    refine wq_iload_n (kk := 0) (q := 6) rfl rfl rfl ?_
    refine wq_iload_n (kk := 2) (q := 7) rfl rfl rfl ?_
    refine wq_icmp_gt (tgt := 14) (q := 10) rfl rfl rfl (fun c7 => ?_) (fun c7 => ?_)
    · skip
      refine wq_iconst (n := 0) (q := 15) rfl rfl rfl ?_
      refine wq_zret rfl rfl (Nat.le_refl _) (Nat.le_refl _) (by omega) ?_
      first | exact ⟨rfl, rfl, rfl⟩ | exact pB_t (by omega) | exact pB_f (by omega) | exact pC_t (by omega) | exact pC_f (by omega) | (exfalso; omega)
    · skip
      refine wq_iconst (n := 1) (q := 11) rfl rfl rfl ?_
      refine wq_goto (tgt := 15) rfl rfl ?_
      refine wq_zret rfl rfl (Nat.le_refl _) (Nat.le_refl _) (by omega) ?_
      first | exact ⟨rfl, rfl, rfl⟩ | exact pB_t (by omega) | exact pB_f (by omega) | exact pC_t (by omega) | exact pC_f (by omega) | (exfalso; omega)
set_option maxRecDepth 100000 in
theorem Mo_no_ok (k : Int) (h : mH) (r : mR) : Meets true (rm 1) m_Mo_no [vR 64, vI k] h r (pI (-1) (hup h 64 1 k) r) := by
  refine ⟨ok_Mo_no, Nat.le_of_ble_eq_true rfl, ?_⟩
  refine wq_aload_n (kk := 0) (q := 1) rfl rfl rfl ?_
  refine wq_iload_n (kk := 1) (q := 2) rfl rfl rfl ?_
  refine wq_putI (kz := 1) (q := 5) rfl f_Mo_81 rfl rfl rfl (Or.inl ⟨rfl, Nat.le_of_ble_eq_true rfl⟩) rfl rfl ?_
  refine wq_iconst (n := -1) (q := 6) rfl rfl rfl ?_
  refine wq_iret rfl rfl (Nat.le_refl _) (Nat.le_refl _) ?_
  first | exact ⟨rfl, rfl, rfl⟩ | exact pB_t (by omega) | exact pB_f (by omega) | exact pC_t (by omega) | exact pC_f (by omega) | (exfalso; omega)
def x_ref (h : mH) (k : Int) : mH := hup (hup (hup h 64 0 0) 64 3 (-1)) 64 1 k
set_option maxRecDepth 100000 in
theorem Mo_isRefused_ok (k : Int) (h : mH) (r : mR) : Meets true (rm 1) m_Mo_isRefused [vR 64, vI k] h r (pI (bI (k ≠ 0)) (x_ref h k) r) := by
  refine ⟨ok_Mo_isRefused, Nat.le_of_ble_eq_true rfl, ?_⟩
  refine wq_aload_n (kk := 0) (q := 1) rfl rfl rfl ?_
  refine wq_iconst (n := 0) (q := 2) rfl rfl rfl ?_
  refine wq_putI (kz := 0) (q := 5) rfl f_Mo_78 rfl rfl rfl (Or.inl ⟨rfl, Nat.le_of_ble_eq_true rfl⟩) rfl rfl ?_
  refine wq_aload_n (kk := 0) (q := 6) rfl rfl rfl ?_
  refine wq_iconst (n := -1) (q := 7) rfl rfl rfl ?_
  refine wq_putI (kz := 3) (q := 10) rfl f_Mo_9 rfl rfl rfl (Or.inl ⟨rfl, Nat.le_of_ble_eq_true rfl⟩) rfl rfl ?_
  refine wq_aload_n (kk := 0) (q := 11) rfl rfl rfl ?_
  refine wq_iload_n (kk := 1) (q := 12) rfl rfl rfl ?_
  refine wq_putI (kz := 1) (q := 15) rfl f_Mo_81 rfl rfl rfl (Or.inl ⟨rfl, Nat.le_of_ble_eq_true rfl⟩) rfl rfl ?_
  refine wq_iload_n (kk := 1) (q := 16) rfl rfl rfl ?_
  refine wq_if_eq (tgt := 23) (q := 19) rfl rfl rfl (fun c16 => ?_) (fun c16 => ?_)
  · skip
    refine wq_iconst (n := 0) (q := 24) rfl rfl rfl ?_
    refine wq_zret rfl rfl (Nat.le_refl _) (Nat.le_refl _) (by omega) ?_
    first | exact ⟨rfl, rfl, rfl⟩ | exact pB_t (by omega) | exact pB_f (by omega) | exact pC_t (by omega) | exact pC_f (by omega) | (exfalso; omega)
  · skip
    refine wq_iconst (n := 1) (q := 20) rfl rfl rfl ?_
    refine wq_goto (tgt := 24) rfl rfl ?_
    refine wq_zret rfl rfl (Nat.le_refl _) (Nat.le_refl _) (by omega) ?_
    first | exact ⟨rfl, rfl, rfl⟩ | exact pB_t (by omega) | exact pB_f (by omega) | exact pC_t (by omega) | exact pC_f (by omega) | (exfalso; omega)
set_option maxRecDepth 100000 in
theorem Mo_unless_ok (g : Int) (h : mH) (r : mR) : Meets true (rm 1) m_Mo_unless [vI g] h r (pI (if g = 0 then 1 else 0) h r) := by
  refine ⟨ok_Mo_unless, Nat.le_of_ble_eq_true rfl, ?_⟩
  refine wq_iload_n (kk := 0) (q := 1) rfl rfl rfl ?_
  refine wq_if_eq (tgt := 8) (q := 4) rfl rfl rfl (fun c1 => ?_) (fun c1 => ?_)
  · skip
    refine wq_iconst (n := 1) (q := 9) rfl rfl rfl ?_
    refine wq_iret rfl rfl (Nat.le_refl _) (Nat.le_refl _) ?_
    refine ⟨?_, rfl, rfl⟩
    first | rw [if_pos c1] | rw [if_neg c1]
  · skip
    refine wq_iconst (n := 0) (q := 5) rfl rfl rfl ?_
    refine wq_goto (tgt := 9) rfl rfl ?_
    refine wq_iret rfl rfl (Nat.le_refl _) (Nat.le_refl _) ?_
    refine ⟨?_, rfl, rfl⟩
    first | rw [if_pos c1] | rw [if_neg c1]
set_option maxRecDepth 100000 in
theorem Mo_unless2_ok (g k : Int) (h : mH) (r : mR) : Meets true (rm 1) m_Mo_unless_ [vI g, vI k] h r (pI (if g = 0 then 1 else if k = 0 then 2 else 0) h r) := by
  refine ⟨ok_Mo_unless_, Nat.le_of_ble_eq_true rfl, ?_⟩
  refine wq_iload_n (kk := 0) (q := 1) rfl rfl rfl ?_
  refine wq_if_ne (tgt := 8) (q := 4) rfl rfl rfl (fun c1 => ?_) (fun c1 => ?_)
  · skip
    refine wq_iload_n (kk := 1) (q := 9) rfl rfl rfl ?_
    refine wq_if_eq (tgt := 16) (q := 12) rfl rfl rfl (fun c9 => ?_) (fun c9 => ?_)
    · skip
      refine wq_iconst (n := 2) (q := 17) rfl rfl rfl ?_
      refine wq_iret rfl rfl (Nat.le_refl _) (Nat.le_refl _) ?_
      refine ⟨?_, rfl, rfl⟩
      first | rw [if_pos (by omega)] | rw [if_neg (by omega), if_pos c9] | rw [if_neg (by omega), if_neg c9]
    · skip
      refine wq_iconst (n := 0) (q := 13) rfl rfl rfl ?_
      refine wq_goto (tgt := 17) rfl rfl ?_
      refine wq_iret rfl rfl (Nat.le_refl _) (Nat.le_refl _) ?_
      refine ⟨?_, rfl, rfl⟩
      first | rw [if_pos (by omega)] | rw [if_neg (by omega), if_pos c9] | rw [if_neg (by omega), if_neg c9]
  · skip
    refine wq_iconst (n := 1) (q := 5) rfl rfl rfl ?_
    refine wq_goto (tgt := 17) rfl rfl ?_
    refine wq_iret rfl rfl (Nat.le_refl _) (Nat.le_refl _) ?_
    refine ⟨?_, rfl, rfl⟩
    first | rw [if_pos (by omega)] | rw [if_neg (by omega), if_pos c9] | rw [if_neg (by omega), if_neg c9]
set_option maxRecDepth 100000 in
theorem Mo_at_ok (d k : Int) (h : mH) (r : mR) (hd : 0 ≤ d ∧ d < 120) (hk : 0 ≤ k ∧ k < 8) : Meets true (rm 1) m_Mo_at [vI d, vI k] h r (pI (25 + 8 * d + k) h r) := by
  refine ⟨ok_Mo_at, Nat.le_of_ble_eq_true rfl, ?_⟩
  refine wq_bipush (n := 25) (q := 2) rfl rfl rfl ?_
  refine wq_bipush (n := 8) (q := 4) rfl rfl rfl ?_
  refine wq_iload_n (kk := 0) (q := 5) rfl rfl rfl ?_
  refine wq_imul (q := 6) rfl rfl (by first | omega | (simp [hup]; omega)) (by first | omega | (simp [hup]; omega)) ?_
  refine wq_iadd (q := 7) rfl rfl (by first | omega | (simp [hup]; omega)) (by first | omega | (simp [hup]; omega)) ?_
  refine wq_iload_n (kk := 1) (q := 8) rfl rfl rfl ?_
  refine wq_iadd (q := 9) rfl rfl (by first | omega | (simp [hup]; omega)) (by first | omega | (simp [hup]; omega)) ?_
  refine wq_iret rfl rfl (Nat.le_refl _) (Nat.le_refl _) ?_
  first | exact ⟨rfl, rfl, rfl⟩ | exact pB_t (by omega) | exact pB_f (by omega) | exact pC_t (by omega) | exact pC_f (by omega) | (exfalso; omega)
/-- the row R tells the net N -/
def rT (R : mF) (N : mN) : Prop := R 4 = nN N ∧ R 1 = nS N ∧ (∀ d, dp N d → R (25 + 8 * d + 3) + R (25 + 8 * d + 5) = lv N d ∧ lv N d + R (25 + 8 * d + 4) = ar N d ∧ R (25 + 8 * d + 1) = frm N d ∧ R (25 + 8 * d + 2) = dst N d ∧ R (25 + 8 * d + 0) = ln N d ∧ R (25 + 8 * d + 6) = rn N d) ∧ ∀ s, 0 ≤ s → s < nS N → R (5 + s) = gp N s ∧ R (15 + s) = pt N s
/-- the row tells N -/
def isM (h : mH) (N : mN) : Prop := NV N ∧ rT (h 66) N
theorem isM_f {h h1 : mH} {N : mN} {S : List Nat} (hM : isM h N) (f : fr S h h1) (hS : 66 ∉ S) : isM h1 N := by
  unfold isM at *
  rw [f 66 hS]
  exact hM
set_option maxRecDepth 100000 in
theorem Mo_isSpot_ok (s : Int) (h : mH) (r : mR) (hb : 0 ≤ h 66 1 ∧ h 66 1 ≤ 10) (ht : h 64 11 = 0 ∨ h 64 11 = 1) (hz : h 64 11 = 0 → h 66 1 = 0) : Meets true (rm 2) m_Mo_isSpot [vR 64, vI s] h r (pI (bI (0 ≤ s ∧ s < h 66 1)) h r) := by
  refine ⟨ok_Mo_isSpot, Nat.le_of_ble_eq_true rfl, ?_⟩
  refine wq_aload_n (kk := 0) (q := 1) rfl rfl rfl ?_
  refine wq_getI (kz := 11) (q := 4) rfl f_Mo_244 rfl rfl (Or.inl ⟨rfl, Nat.le_of_ble_eq_true rfl⟩) rfl rfl ?_
  refine wq_if_eq (tgt := 27) (q := 7) rfl rfl rfl (fun c4 => ?_) (fun c4 => ?_)
  · skip
    refine wq_iconst (n := 0) (q := 28) rfl rfl rfl ?_
    refine wq_zret rfl rfl (Nat.le_refl _) (Nat.le_refl _) (by omega) ?_
    first | exact ⟨rfl, rfl, rfl⟩ | exact pB_t (by omega) | exact pB_f (by omega) | exact pC_t (by omega) | exact pC_f (by omega) | (exfalso; omega)
  · skip
    refine wq_iload_n (kk := 1) (q := 8) rfl rfl rfl ?_
    refine wq_iconst (n := 0) (q := 9) rfl rfl rfl ?_
    refine wq_aload_n (kk := 0) (q := 10) rfl rfl rfl ?_
    refine wq_getF (q := 13) f_Mo_17 rfl rfl (Nat.le_of_ble_eq_true rfl) rfl rfl rfl ?_
    refine wq_iconst (n := 1) (q := 14) rfl rfl rfl ?_
    refine wq_iald (q := 15) rfl (Or.inl ⟨rfl, Nat.le_of_ble_eq_true rfl⟩) rfl rfl (by first | omega | (simp [hup]; omega)) (by first | omega | (simp [hup]; omega)) ?_
    refine wq_iconst (n := 1) (q := 16) rfl rfl rfl ?_
    refine wq_isub (q := 17) rfl rfl (by first | omega | (simp [hup]; omega)) (by first | omega | (simp [hup]; omega)) ?_
    refine wq_callS (q := 20) (m' := m_Mo_in) (R' := rm 1) (As := [_, _, _]) rfl rfl l_Mo_107 sm_Mo_in rfl (Nat.le_of_ble_eq_true rfl) (Nat.le_of_ble_eq_true rfl) (Nat.le_refl _) (Nat.le_refl _) (Nat.le_of_ble_eq_true rfl) (Mo_in_ok _ _ _ h r) rfl ?_
    rintro rv h r ⟨rfl, rfl, rfl⟩ -
    refine wq_cif_eq (tgt := 27) (q := 23) rfl rfl rfl (fun c20 => ?_) (fun c20 => ?_)
    · skip
      refine wq_iconst (n := 0) (q := 28) rfl rfl rfl ?_
      refine wq_zret rfl rfl (Nat.le_refl _) (Nat.le_refl _) (by omega) ?_
      first | exact ⟨rfl, rfl, rfl⟩ | exact pB_t (by omega) | exact pB_f (by omega) | exact pC_t (by omega) | exact pC_f (by omega) | (exfalso; omega)
    · skip
      refine wq_iconst (n := 1) (q := 24) rfl rfl rfl ?_
      refine wq_goto (tgt := 28) rfl rfl ?_
      refine wq_zret rfl rfl (Nat.le_refl _) (Nat.le_refl _) (by omega) ?_
      first | exact ⟨rfl, rfl, rfl⟩ | exact pB_t (by omega) | exact pB_f (by omega) | exact pC_t (by omega) | exact pC_f (by omega) | (exfalso; omega)
set_option maxRecDepth 100000 in
theorem Mo_isOne_ok (s : Int) (h : mH) (r : mR) (hb : 0 ≤ h 66 4 ∧ h 66 4 ≤ 120) (ht : h 64 11 = 0 ∨ h 64 11 = 1) (hz : h 64 11 = 0 → h 66 4 = 0) : Meets true (rm 2) m_Mo_isOne [vR 64, vI s] h r (pI (bI (0 ≤ s ∧ s < h 66 4)) h r) := by
  refine ⟨ok_Mo_isOne, Nat.le_of_ble_eq_true rfl, ?_⟩
  refine wq_aload_n (kk := 0) (q := 1) rfl rfl rfl ?_
  refine wq_getI (kz := 11) (q := 4) rfl f_Mo_244 rfl rfl (Or.inl ⟨rfl, Nat.le_of_ble_eq_true rfl⟩) rfl rfl ?_
  refine wq_if_eq (tgt := 27) (q := 7) rfl rfl rfl (fun c4 => ?_) (fun c4 => ?_)
  · skip
    refine wq_iconst (n := 0) (q := 28) rfl rfl rfl ?_
    refine wq_zret rfl rfl (Nat.le_refl _) (Nat.le_refl _) (by omega) ?_
    first | exact ⟨rfl, rfl, rfl⟩ | exact pB_t (by omega) | exact pB_f (by omega) | exact pC_t (by omega) | exact pC_f (by omega) | (exfalso; omega)
  · skip
    refine wq_iload_n (kk := 1) (q := 8) rfl rfl rfl ?_
    refine wq_iconst (n := 0) (q := 9) rfl rfl rfl ?_
    refine wq_aload_n (kk := 0) (q := 10) rfl rfl rfl ?_
    refine wq_getF (q := 13) f_Mo_17 rfl rfl (Nat.le_of_ble_eq_true rfl) rfl rfl rfl ?_
    refine wq_iconst (n := 4) (q := 14) rfl rfl rfl ?_
    refine wq_iald (q := 15) rfl (Or.inl ⟨rfl, Nat.le_of_ble_eq_true rfl⟩) rfl rfl (by first | omega | (simp [hup]; omega)) (by first | omega | (simp [hup]; omega)) ?_
    refine wq_iconst (n := 1) (q := 16) rfl rfl rfl ?_
    refine wq_isub (q := 17) rfl rfl (by first | omega | (simp [hup]; omega)) (by first | omega | (simp [hup]; omega)) ?_
    refine wq_callS (q := 20) (m' := m_Mo_in) (R' := rm 1) (As := [_, _, _]) rfl rfl l_Mo_107 sm_Mo_in rfl (Nat.le_of_ble_eq_true rfl) (Nat.le_of_ble_eq_true rfl) (Nat.le_refl _) (Nat.le_refl _) (Nat.le_of_ble_eq_true rfl) (Mo_in_ok _ _ _ h r) rfl ?_
    rintro rv h r ⟨rfl, rfl, rfl⟩ -
    refine wq_cif_eq (tgt := 27) (q := 23) rfl rfl rfl (fun c20 => ?_) (fun c20 => ?_)
    · skip
      refine wq_iconst (n := 0) (q := 28) rfl rfl rfl ?_
      refine wq_zret rfl rfl (Nat.le_refl _) (Nat.le_refl _) (by omega) ?_
      first | exact ⟨rfl, rfl, rfl⟩ | exact pB_t (by omega) | exact pB_f (by omega) | exact pC_t (by omega) | exact pC_f (by omega) | (exfalso; omega)
    · skip
      refine wq_iconst (n := 1) (q := 24) rfl rfl rfl ?_
      refine wq_goto (tgt := 28) rfl rfl ?_
      refine wq_zret rfl rfl (Nat.le_refl _) (Nat.le_refl _) (by omega) ?_
      first | exact ⟨rfl, rfl, rfl⟩ | exact pB_t (by omega) | exact pB_f (by omega) | exact pC_t (by omega) | exact pC_f (by omega) | (exfalso; omega)
set_option maxRecDepth 100000 in
theorem Mo_runs_ok (N : mN) (d : Int) (h : mH) (r : mR) (hM : isM h N) (hd : dp N d) : Meets true (rm 2) m_Mo_runs [vR 64, vI d] h r (pI (bI (rn N d = 1)) h r) := by
  have hn := hM.1.1
  obtain ⟨d0, d1⟩ := id hd
  have z := (hM.2.2.2.1 d hd).2.2.2.2.2
  refine ⟨ok_Mo_runs, Nat.le_of_ble_eq_true rfl, ?_⟩
  refine wq_aload_n (kk := 0) (q := 1) rfl rfl rfl ?_
  refine wq_getF (q := 4) f_Mo_17 rfl rfl (Nat.le_of_ble_eq_true rfl) rfl rfl rfl ?_
  refine wq_iload_n (kk := 1) (q := 5) rfl rfl rfl ?_
  refine wq_bipush (n := 6) (q := 7) rfl rfl rfl ?_
  refine wq_callS (q := 10) (m' := m_Mo_at) (R' := rm 1) (As := [_, _]) rfl rfl l_Mo_209 sm_Mo_at rfl (Nat.le_of_ble_eq_true rfl) (Nat.le_of_ble_eq_true rfl) (Nat.le_refl _) (Nat.le_refl _) (Nat.le_of_ble_eq_true rfl) (Mo_at_ok d 6 h r (by omega) (by omega)) rfl ?_
  rintro rv h r ⟨rfl, rfl, rfl⟩ -
  refine wq_iald (q := 11) rfl (Or.inl ⟨rfl, Nat.le_of_ble_eq_true rfl⟩) rfl rfl (by first | omega | (simp [hup]; omega)) (by first | omega | (simp [hup]; omega)) ?_
  refine wq_iconst (n := 1) (q := 12) rfl rfl rfl ?_
  refine wq_icmp_ne (tgt := 19) (q := 15) rfl rfl rfl (fun c12 => ?_) (fun c12 => ?_)
  · skip
    refine wq_iconst (n := 0) (q := 20) rfl rfl rfl ?_
    refine wq_zret rfl rfl (Nat.le_refl _) (Nat.le_refl _) (by omega) ?_
    first | exact ⟨rfl, rfl, rfl⟩ | exact pB_t (by omega) | exact pB_f (by omega) | exact pC_t (by omega) | exact pC_f (by omega) | (exfalso; omega)
  · skip
    refine wq_iconst (n := 1) (q := 16) rfl rfl rfl ?_
    refine wq_goto (tgt := 20) rfl rfl ?_
    refine wq_zret rfl rfl (Nat.le_refl _) (Nat.le_refl _) (by omega) ?_
    first | exact ⟨rfl, rfl, rfl⟩ | exact pB_t (by omega) | exact pB_f (by omega) | exact pC_t (by omega) | exact pC_f (by omega) | (exfalso; omega)
set_option maxRecDepth 100000 in
theorem Mo_leavesAt_ok (N : mN) (d : Int) (h : mH) (r : mR) (hM : isM h N) (hd : dp N d) : Meets true (rm 2) m_Mo_leavesAt [vR 64, vI d] h r (pI (lv N d) h r) := by
  have hn := hM.1.1
  have hv := hM.1.2.2.1 d hd
  obtain ⟨d0, d1⟩ := id hd
  have z := (hM.2.2.2.1 d hd).1
  refine ⟨ok_Mo_leavesAt, Nat.le_of_ble_eq_true rfl, ?_⟩
  refine wq_aload_n (kk := 0) (q := 1) rfl rfl rfl ?_
  refine wq_getF (q := 4) f_Mo_17 rfl rfl (Nat.le_of_ble_eq_true rfl) rfl rfl rfl ?_
  refine wq_iload_n (kk := 1) (q := 5) rfl rfl rfl ?_
  refine wq_iconst (n := 3) (q := 6) rfl rfl rfl ?_
  refine wq_callS (q := 9) (m' := m_Mo_at) (R' := rm 1) (As := [_, _]) rfl rfl l_Mo_209 sm_Mo_at rfl (Nat.le_of_ble_eq_true rfl) (Nat.le_of_ble_eq_true rfl) (Nat.le_refl _) (Nat.le_refl _) (Nat.le_of_ble_eq_true rfl) (Mo_at_ok d 3 h r (by omega) (by omega)) rfl ?_
  rintro rv h r ⟨rfl, rfl, rfl⟩ -
  refine wq_iald (q := 10) rfl (Or.inl ⟨rfl, Nat.le_of_ble_eq_true rfl⟩) rfl rfl (by first | omega | (simp [hup]; omega)) (by first | omega | (simp [hup]; omega)) ?_
  refine wq_aload_n (kk := 0) (q := 11) rfl rfl rfl ?_
  refine wq_getF (q := 14) f_Mo_17 rfl rfl (Nat.le_of_ble_eq_true rfl) rfl rfl rfl ?_
  refine wq_iload_n (kk := 1) (q := 15) rfl rfl rfl ?_
  refine wq_iconst (n := 5) (q := 16) rfl rfl rfl ?_
  refine wq_callS (q := 19) (m' := m_Mo_at) (R' := rm 1) (As := [_, _]) rfl rfl l_Mo_209 sm_Mo_at rfl (Nat.le_of_ble_eq_true rfl) (Nat.le_of_ble_eq_true rfl) (Nat.le_refl _) (Nat.le_refl _) (Nat.le_of_ble_eq_true rfl) (Mo_at_ok d 5 h r (by omega) (by omega)) rfl ?_
  rintro rv h r ⟨rfl, rfl, rfl⟩ -
  refine wq_iald (q := 20) rfl (Or.inl ⟨rfl, Nat.le_of_ble_eq_true rfl⟩) rfl rfl (by first | omega | (simp [hup]; omega)) (by first | omega | (simp [hup]; omega)) ?_
  refine wq_iadd (q := 21) rfl rfl (by first | omega | (simp [hup]; omega)) (by first | omega | (simp [hup]; omega)) ?_
  refine wq_iret rfl rfl (Nat.le_refl _) (Nat.le_refl _) ?_
  exact ⟨by rw [z], rfl, rfl⟩
set_option maxRecDepth 100000 in
theorem Mo_arrivesAt_ok (N : mN) (d : Int) (h : mH) (r : mR) (hM : isM h N) (hd : dp N d) : Meets true (rm 3) m_Mo_arrivesAt [vR 64, vI d] h r (pI (ar N d) h r) := by
  have hn := hM.1.1
  have hv := hM.1.2.2.1 d hd
  obtain ⟨d0, d1⟩ := id hd
  have z := (hM.2.2.2.1 d hd).2.1
  refine ⟨ok_Mo_arrivesAt, Nat.le_of_ble_eq_true rfl, ?_⟩
  refine wq_aload_n (kk := 0) (q := 1) rfl rfl rfl ?_
  refine wq_iload_n (kk := 1) (q := 2) rfl rfl rfl ?_
  refine wq_callV (q := 5) (m' := m_Mo_leavesAt) (R' := rm 2) (As := [_]) rfl rfl l_Mo_250 vm_Mo_leavesAt rfl rfl rfl (Or.inl ⟨rfl, Nat.le_of_ble_eq_true rfl⟩) (Nat.le_of_ble_eq_true rfl) (Nat.le_of_ble_eq_true rfl) (Nat.le_refl _) (Nat.le_refl _) (Nat.le_of_ble_eq_true rfl) (Mo_leavesAt_ok N d h r hM hd) rfl ?_
  rintro rv h r ⟨rfl, rfl, rfl⟩ -
  refine wq_aload_n (kk := 0) (q := 6) rfl rfl rfl ?_
  refine wq_getF (q := 9) f_Mo_17 rfl rfl (Nat.le_of_ble_eq_true rfl) rfl rfl rfl ?_
  refine wq_iload_n (kk := 1) (q := 10) rfl rfl rfl ?_
  refine wq_iconst (n := 4) (q := 11) rfl rfl rfl ?_
  refine wq_callS (q := 14) (m' := m_Mo_at) (R' := rm 1) (As := [_, _]) rfl rfl l_Mo_209 sm_Mo_at rfl (Nat.le_of_ble_eq_true rfl) (Nat.le_of_ble_eq_true rfl) (Nat.le_refl _) (Nat.le_refl _) (Nat.le_of_ble_eq_true rfl) (Mo_at_ok d 4 h r (by omega) (by omega)) rfl ?_
  rintro rv h r ⟨rfl, rfl, rfl⟩ -
  refine wq_iald (q := 15) rfl (Or.inl ⟨rfl, Nat.le_of_ble_eq_true rfl⟩) rfl rfl (by first | omega | (simp [hup]; omega)) (by first | omega | (simp [hup]; omega)) ?_
  refine wq_iadd (q := 16) rfl rfl (by first | omega | (simp [hup]; omega)) (by first | omega | (simp [hup]; omega)) ?_
  refine wq_iret rfl rfl (Nat.le_refl _) (Nat.le_refl _) ?_
  exact ⟨by rw [z], rfl, rfl⟩
set_option maxRecDepth 100000 in
theorem Mo_runMany_lp (N : mN) (h : mH) (r : mR) (hM : isM h N) : ∀ (M : Nat) (d f : Int), (nN N - d).toNat = M → 0 ≤ d → d ≤ nN N → f = cn (fun d => rn N d == 1) d.toNat → WP (true, rm 3) m_Mo_runMany (rt m_Mo_runMany (rm 3) (pI (cn (fun d => rn N d == 1) (nN N).toNat) h r)) 4 [some (vR 64), some (vI f), some (vI d)] [] h r (0, 0) := by
  intro M
  induction M using Nat.strongRecOn with
  | ind M ih =>
    intro d f hN h0 h1 hf
    have hn := hM.1.1
    have e4 := hM.2.1
    have hb := cn_b (fun d => rn N d == 1) d.toNat
    refine wq_iload_n (kk := 2) (q := 5) rfl rfl rfl ?_
    refine wq_aload_n (kk := 0) (q := 6) rfl rfl rfl ?_
    refine wq_getF (q := 9) f_Mo_17 rfl rfl (Nat.le_of_ble_eq_true rfl) rfl rfl rfl ?_
    refine wq_iconst (n := 4) (q := 10) rfl rfl rfl ?_
    refine wq_iald (q := 11) rfl (Or.inl ⟨rfl, Nat.le_of_ble_eq_true rfl⟩) rfl rfl (by first | omega | (simp [hup]; omega)) (by first | omega | (simp [hup]; omega)) ?_
    refine wq_icmp_ge (tgt := 36) (q := 14) rfl rfl rfl (fun c11 => ?_) (fun c11 => ?_)
    · skip
      refine wq_iload_n (kk := 1) (q := 37) rfl rfl rfl ?_
      refine wq_iret rfl rfl (Nat.le_refl _) (Nat.le_refl _) ⟨?_, rfl, rfl⟩
      have e : d = nN N := by omega
      rw [hf, e]
    · skip
      refine wq_iload_n (kk := 1) (q := 15) rfl rfl rfl ?_
      refine wq_aload_n (kk := 0) (q := 16) rfl rfl rfl ?_
      refine wq_iload_n (kk := 2) (q := 17) rfl rfl rfl ?_
      refine wq_callV (q := 20) (m' := m_Mo_runs) (R' := rm 2) (As := [_]) rfl rfl l_Mo_253 vm_Mo_runs rfl rfl rfl (Or.inl ⟨rfl, Nat.le_of_ble_eq_true rfl⟩) (Nat.le_of_ble_eq_true rfl) (Nat.le_of_ble_eq_true rfl) (Nat.le_refl _) (Nat.le_refl _) (Nat.le_of_ble_eq_true rfl) (Mo_runs_ok N d h r hM ⟨h0, by omega⟩) rfl ?_
      rintro rv h r ⟨rfl, rfl, rfl⟩ -
      refine wq_cif_eq (tgt := 27) (q := 23) rfl rfl rfl (fun c20 => ?_) (fun c20 => ?_)
      · skip
        refine wq_iconst (n := 0) (q := 28) rfl rfl rfl ?_
        refine wq_iadd (q := 29) rfl rfl (by first | omega | (simp [hup]; omega)) (by first | omega | (simp [hup]; omega)) ?_
        refine wq_istore_n (kk := 1) (q := 30) rfl rfl (Nat.le_of_ble_eq_true rfl) rfl ?_
        refine wq_iinc (i := 2) (n := 1) (q := 33) rfl rfl rfl (Nat.le_of_ble_eq_true rfl) rfl (by first | omega | (simp [hup]; omega)) (by first | omega | (simp [hup]; omega)) ?_
        refine wq_goto (tgt := 4) rfl rfl ?_
        refine ih _ (by omega) (d + 1) _ rfl (by omega) (by omega) ?_
        rw [cn_s h0, hf]
        simp only [beq_iff_eq]
        split <;> omega
      · skip
        refine wq_iconst (n := 1) (q := 24) rfl rfl rfl ?_
        refine wq_goto (tgt := 28) rfl rfl ?_
        refine wq_iadd (q := 29) rfl rfl (by first | omega | (simp [hup]; omega)) (by first | omega | (simp [hup]; omega)) ?_
        refine wq_istore_n (kk := 1) (q := 30) rfl rfl (Nat.le_of_ble_eq_true rfl) rfl ?_
        refine wq_iinc (i := 2) (n := 1) (q := 33) rfl rfl rfl (Nat.le_of_ble_eq_true rfl) rfl (by first | omega | (simp [hup]; omega)) (by first | omega | (simp [hup]; omega)) ?_
        refine wq_goto (tgt := 4) rfl rfl ?_
        refine ih _ (by omega) (d + 1) _ rfl (by omega) (by omega) ?_
        rw [cn_s h0, hf]
        simp only [beq_iff_eq]
        split <;> omega
set_option maxRecDepth 100000 in
theorem Mo_runMany_ok (N : mN) (h : mH) (r : mR) (hM : isM h N) : Meets true (rm 3) m_Mo_runMany [vR 64] h r (pI (cn (fun d => rn N d == 1) (nN N).toNat) h r) := by
  have hn := hM.1.1
  refine ⟨ok_Mo_runMany, Nat.le_of_ble_eq_true rfl, ?_⟩
  refine wq_iconst (n := 0) (q := 1) rfl rfl rfl ?_
  refine wq_istore_n (kk := 1) (q := 2) rfl rfl (Nat.le_of_ble_eq_true rfl) rfl ?_
  refine wq_iconst (n := 0) (q := 3) rfl rfl rfl ?_
  refine wq_istore_n (kk := 2) (q := 4) rfl rfl (Nat.le_of_ble_eq_true rfl) rfl ?_
  exact Mo_runMany_lp N h r hM _ 0 0 rfl (by omega) (by omega) rfl
set_option maxRecDepth 100000 in
theorem Mo_runsBy_lp (N : mN) (s w : Int) (g : mF) (hw : w = 1 ∧ g = frm N ∨ w = 2 ∧ g = dst N) (h : mH) (r : mR) (hM : isM h N) : ∀ (M : Nat) (d f : Int), (nN N - d).toNat = M → 0 ≤ d → d ≤ nN N → f = cn (fun d => (rn N d == 1) && (g d == s)) d.toNat → WP (true, rm 3) m_Mo_runsBy (rt m_Mo_runsBy (rm 3) (pI (cn (fun d => (rn N d == 1) && (g d == s)) (nN N).toNat) h r)) 5 [some (vR 64), some (vI s), some (vI w), some (vI f), some (vI d)] [] h r (0, 0) := by
  intro M
  induction M using Nat.strongRecOn with
  | ind M ih =>
    intro d f hN h0 h1 hf
    have hn := hM.1.1
    have e4 := hM.2.1
    have hb := cn_b (fun d => (rn N d == 1) && (g d == s)) d.toNat
    have hg : d < nN N → h 66 (25 + 8 * d + w) = g d := fun z => by
      have y := hM.2.2.2.1 d ⟨h0, z⟩
      rcases hw with ⟨rfl, rfl⟩ | ⟨rfl, rfl⟩
      · exact y.2.2.1
      · exact y.2.2.2.1
    refine wq_iload (i := 4) (q := 7) rfl rfl rfl ?_
    refine wq_aload_n (kk := 0) (q := 8) rfl rfl rfl ?_
    refine wq_getF (q := 11) f_Mo_17 rfl rfl (Nat.le_of_ble_eq_true rfl) rfl rfl rfl ?_
    refine wq_iconst (n := 4) (q := 12) rfl rfl rfl ?_
    refine wq_iald (q := 13) rfl (Or.inl ⟨rfl, Nat.le_of_ble_eq_true rfl⟩) rfl rfl (by first | omega | (simp [hup]; omega)) (by first | omega | (simp [hup]; omega)) ?_
    refine wq_icmp_ge (tgt := 54) (q := 16) rfl rfl rfl (fun c13 => ?_) (fun c13 => ?_)
    · skip
      refine wq_iload_n (kk := 3) (q := 55) rfl rfl rfl ?_
      refine wq_iret rfl rfl (Nat.le_refl _) (Nat.le_refl _) ⟨?_, rfl, rfl⟩
      have e : d = nN N := by omega
      rw [hf, e]
    · skip
      refine wq_iload_n (kk := 3) (q := 17) rfl rfl rfl ?_
      refine wq_aload_n (kk := 0) (q := 18) rfl rfl rfl ?_
      refine wq_iload (i := 4) (q := 20) rfl rfl rfl ?_
      refine wq_callV (q := 23) (m' := m_Mo_runs) (R' := rm 2) (As := [_]) rfl rfl l_Mo_253 vm_Mo_runs rfl rfl rfl (Or.inl ⟨rfl, Nat.le_of_ble_eq_true rfl⟩) (Nat.le_of_ble_eq_true rfl) (Nat.le_of_ble_eq_true rfl) (Nat.le_refl _) (Nat.le_refl _) (Nat.le_of_ble_eq_true rfl) (Mo_runs_ok N d h r hM ⟨h0, by omega⟩) rfl ?_
      rintro rv h r ⟨rfl, rfl, rfl⟩ -
      refine wq_cif_eq (tgt := 45) (q := 26) rfl rfl rfl (fun c23 => ?_) (fun c23 => ?_)
      · skip
        refine wq_iconst (n := 0) (q := 46) rfl rfl rfl ?_
        refine wq_iadd (q := 47) rfl rfl (by first | omega | (simp [hup]; omega)) (by first | omega | (simp [hup]; omega)) ?_
        refine wq_istore_n (kk := 3) (q := 48) rfl rfl (Nat.le_of_ble_eq_true rfl) rfl ?_
        refine wq_iinc (i := 4) (n := 1) (q := 51) rfl rfl rfl (Nat.le_of_ble_eq_true rfl) rfl (by first | omega | (simp [hup]; omega)) (by first | omega | (simp [hup]; omega)) ?_
        refine wq_goto (tgt := 5) rfl rfl ?_
        have hgd := hg (by omega)
        refine ih _ (by omega) (d + 1) _ rfl (by omega) (by omega) ?_
        rw [cn_s h0, hf]
        simp only [Bool.and_eq_true, beq_iff_eq]
        split <;> omega
      · skip
        refine wq_aload_n (kk := 0) (q := 27) rfl rfl rfl ?_
        refine wq_getF (q := 30) f_Mo_17 rfl rfl (Nat.le_of_ble_eq_true rfl) rfl rfl rfl ?_
        refine wq_iload (i := 4) (q := 32) rfl rfl rfl ?_
        refine wq_iload_n (kk := 2) (q := 33) rfl rfl rfl ?_
        refine wq_callS (q := 36) (m' := m_Mo_at) (R' := rm 1) (As := [_, _]) rfl rfl l_Mo_209 sm_Mo_at rfl (Nat.le_of_ble_eq_true rfl) (Nat.le_of_ble_eq_true rfl) (Nat.le_refl _) (Nat.le_refl _) (Nat.le_of_ble_eq_true rfl) (Mo_at_ok d w h r (by omega) (by omega)) rfl ?_
        rintro rv h r ⟨rfl, rfl, rfl⟩ -
        refine wq_iald (q := 37) rfl (Or.inl ⟨rfl, Nat.le_of_ble_eq_true rfl⟩) rfl rfl (by first | omega | (simp [hup]; omega)) (by first | omega | (simp [hup]; omega)) ?_
        refine wq_iload_n (kk := 1) (q := 38) rfl rfl rfl ?_
        refine wq_icmp_ne (tgt := 45) (q := 41) rfl rfl rfl (fun c38 => ?_) (fun c38 => ?_)
        · skip
          refine wq_iconst (n := 0) (q := 46) rfl rfl rfl ?_
          refine wq_iadd (q := 47) rfl rfl (by first | omega | (simp [hup]; omega)) (by first | omega | (simp [hup]; omega)) ?_
          refine wq_istore_n (kk := 3) (q := 48) rfl rfl (Nat.le_of_ble_eq_true rfl) rfl ?_
          refine wq_iinc (i := 4) (n := 1) (q := 51) rfl rfl rfl (Nat.le_of_ble_eq_true rfl) rfl (by first | omega | (simp [hup]; omega)) (by first | omega | (simp [hup]; omega)) ?_
          refine wq_goto (tgt := 5) rfl rfl ?_
          have hgd := hg (by omega)
          refine ih _ (by omega) (d + 1) _ rfl (by omega) (by omega) ?_
          rw [cn_s h0, hf]
          simp only [Bool.and_eq_true, beq_iff_eq]
          split <;> omega
        · skip
          refine wq_iconst (n := 1) (q := 42) rfl rfl rfl ?_
          refine wq_goto (tgt := 46) rfl rfl ?_
          refine wq_iadd (q := 47) rfl rfl (by first | omega | (simp [hup]; omega)) (by first | omega | (simp [hup]; omega)) ?_
          refine wq_istore_n (kk := 3) (q := 48) rfl rfl (Nat.le_of_ble_eq_true rfl) rfl ?_
          refine wq_iinc (i := 4) (n := 1) (q := 51) rfl rfl rfl (Nat.le_of_ble_eq_true rfl) rfl (by first | omega | (simp [hup]; omega)) (by first | omega | (simp [hup]; omega)) ?_
          refine wq_goto (tgt := 5) rfl rfl ?_
          have hgd := hg (by omega)
          refine ih _ (by omega) (d + 1) _ rfl (by omega) (by omega) ?_
          rw [cn_s h0, hf]
          simp only [Bool.and_eq_true, beq_iff_eq]
          split <;> omega
set_option maxRecDepth 100000 in
theorem Mo_runsBy_ok (N : mN) (s w : Int) (g : mF) (hw : w = 1 ∧ g = frm N ∨ w = 2 ∧ g = dst N) (h : mH) (r : mR) (hM : isM h N) : Meets true (rm 3) m_Mo_runsBy [vR 64, vI s, vI w] h r (pI (cn (fun d => (rn N d == 1) && (g d == s)) (nN N).toNat) h r) := by
  have hn := hM.1.1
  refine ⟨ok_Mo_runsBy, Nat.le_of_ble_eq_true rfl, ?_⟩
  refine wq_iconst (n := 0) (q := 1) rfl rfl rfl ?_
  refine wq_istore_n (kk := 3) (q := 2) rfl rfl (Nat.le_of_ble_eq_true rfl) rfl ?_
  refine wq_iconst (n := 0) (q := 3) rfl rfl rfl ?_
  refine wq_istore (i := 4) (q := 5) rfl rfl (Nat.le_of_ble_eq_true rfl) rfl ?_
  exact Mo_runsBy_lp N s w g hw h r hM _ 0 0 rfl (by omega) (by omega) rfl
set_option maxRecDepth 100000 in
theorem Mo_turns_ok (N : mN) (d e : Int) (h : mH) (r : mR) (hM : isM h N) (hd : dp N d) (he : dp N e) : Meets true (rm 2) m_Mo_turns [vR 64, vI d, vI e] h r (pI (tn N d e) h r) := by
  have hn := hM.1.1
  obtain ⟨d0, d1⟩ := id hd
  obtain ⟨e0, e1⟩ := id he
  have z := (hM.2.2.2.1 d hd).2.2.2.2.1
  have y := (hM.2.2.2.1 e he).2.2.2.2.1
  refine ⟨ok_Mo_turns, Nat.le_of_ble_eq_true rfl, ?_⟩
  refine wq_aload_n (kk := 0) (q := 1) rfl rfl rfl ?_
  refine wq_getF (q := 4) f_Mo_17 rfl rfl (Nat.le_of_ble_eq_true rfl) rfl rfl rfl ?_
  refine wq_iload_n (kk := 1) (q := 5) rfl rfl rfl ?_
  refine wq_iconst (n := 0) (q := 6) rfl rfl rfl ?_
  refine wq_callS (q := 9) (m' := m_Mo_at) (R' := rm 1) (As := [_, _]) rfl rfl l_Mo_209 sm_Mo_at rfl (Nat.le_of_ble_eq_true rfl) (Nat.le_of_ble_eq_true rfl) (Nat.le_refl _) (Nat.le_refl _) (Nat.le_of_ble_eq_true rfl) (Mo_at_ok d 0 h r (by omega) (by omega)) rfl ?_
  rintro rv h r ⟨rfl, rfl, rfl⟩ -
  refine wq_iald (q := 10) rfl (Or.inl ⟨rfl, Nat.le_of_ble_eq_true rfl⟩) rfl rfl (by first | omega | (simp [hup]; omega)) (by first | omega | (simp [hup]; omega)) ?_
  refine wq_aload_n (kk := 0) (q := 11) rfl rfl rfl ?_
  refine wq_getF (q := 14) f_Mo_17 rfl rfl (Nat.le_of_ble_eq_true rfl) rfl rfl rfl ?_
  refine wq_iload_n (kk := 2) (q := 15) rfl rfl rfl ?_
  refine wq_iconst (n := 0) (q := 16) rfl rfl rfl ?_
  refine wq_callS (q := 19) (m' := m_Mo_at) (R' := rm 1) (As := [_, _]) rfl rfl l_Mo_209 sm_Mo_at rfl (Nat.le_of_ble_eq_true rfl) (Nat.le_of_ble_eq_true rfl) (Nat.le_refl _) (Nat.le_refl _) (Nat.le_of_ble_eq_true rfl) (Mo_at_ok e 0 h r (by omega) (by omega)) rfl ?_
  rintro rv h r ⟨rfl, rfl, rfl⟩ -
  refine wq_iald (q := 20) rfl (Or.inl ⟨rfl, Nat.le_of_ble_eq_true rfl⟩) rfl rfl (by first | omega | (simp [hup]; omega)) (by first | omega | (simp [hup]; omega)) ?_
  refine wq_icmp_ne (tgt := 27) (q := 23) rfl rfl rfl (fun c20 => ?_) (fun c20 => ?_)
  · skip
    refine wq_iconst (n := 1) (q := 28) rfl rfl rfl ?_
    refine wq_iret rfl rfl (Nat.le_refl _) (Nat.le_refl _) ?_
    refine ⟨?_, rfl, rfl⟩
    unfold tn
    first | rw [if_pos (by omega)] | rw [if_neg (by omega)]
  · skip
    refine wq_iconst (n := 0) (q := 24) rfl rfl rfl ?_
    refine wq_goto (tgt := 28) rfl rfl ?_
    refine wq_iret rfl rfl (Nat.le_refl _) (Nat.le_refl _) ?_
    refine ⟨?_, rfl, rfl⟩
    unfold tn
    first | rw [if_pos (by omega)] | rw [if_neg (by omega)]
set_option maxRecDepth 100000 in
set_option maxHeartbeats 1000000 in
theorem Mo_canFollow_ok (N : mN) (d e : Int) (h : mH) (r : mR) (hM : isM h N) (hd : dp N d) (he : dp N e) : Meets true (rm 4) m_Mo_canFollow [vR 64, vI d, vI e] h r (pI (bI (J N d e ∧ frm N e = dst N d)) h r) := by
  have hn := hM.1.1
  have hS := hM.1.2.1
  have hvd := hM.1.2.2.1 d hd
  have hve := hM.1.2.2.1 e he
  obtain ⟨d0, d1⟩ := id hd
  obtain ⟨e0, e1⟩ := id he
  have z := hM.2.2.2.1 d hd
  have y := hM.2.2.2.1 e he
  have w := hM.2.2.2.2 (dst N d) hvd.2.1.1 hvd.2.1.2
  refine ⟨ok_Mo_canFollow, Nat.le_of_ble_eq_true rfl, ?_⟩
  refine wq_aload_n (kk := 0) (q := 1) rfl rfl rfl ?_
  refine wq_getF (q := 4) f_Mo_17 rfl rfl (Nat.le_of_ble_eq_true rfl) rfl rfl rfl ?_
  refine wq_iload_n (kk := 1) (q := 5) rfl rfl rfl ?_
  refine wq_iconst (n := 2) (q := 6) rfl rfl rfl ?_
  refine wq_callS (q := 9) (m' := m_Mo_at) (R' := rm 1) (As := [_, _]) rfl rfl l_Mo_209 sm_Mo_at rfl (Nat.le_of_ble_eq_true rfl) (Nat.le_of_ble_eq_true rfl) (Nat.le_refl _) (Nat.le_refl _) (Nat.le_of_ble_eq_true rfl) (Mo_at_ok d 2 h r (by omega) (by omega)) rfl ?_
  rintro rv h r ⟨rfl, rfl, rfl⟩ -
  refine wq_iald (q := 10) rfl (Or.inl ⟨rfl, Nat.le_of_ble_eq_true rfl⟩) rfl rfl (by first | omega | (simp [hup]; omega)) (by first | omega | (simp [hup]; omega)) ?_
  rw [z.2.2.2.1]
  refine wq_istore_n (kk := 3) (q := 11) rfl rfl (Nat.le_of_ble_eq_true rfl) rfl ?_
  refine wq_aload_n (kk := 0) (q := 12) rfl rfl rfl ?_
  refine wq_iload_n (kk := 2) (q := 13) rfl rfl rfl ?_
  refine wq_callV (q := 16) (m' := m_Mo_leavesAt) (R' := rm 2) (As := [_]) rfl rfl l_Mo_250 vm_Mo_leavesAt rfl rfl rfl (Or.inl ⟨rfl, Nat.le_of_ble_eq_true rfl⟩) (Nat.le_of_ble_eq_true rfl) (Nat.le_of_ble_eq_true rfl) (Nat.le_refl _) (Nat.le_refl _) (Nat.le_of_ble_eq_true rfl) (Mo_leavesAt_ok N e h r hM he) rfl ?_
  rintro rv h r ⟨rfl, rfl, rfl⟩ -
  refine wq_aload_n (kk := 0) (q := 17) rfl rfl rfl ?_
  refine wq_iload_n (kk := 1) (q := 18) rfl rfl rfl ?_
  refine wq_callV (q := 21) (m' := m_Mo_arrivesAt) (R' := rm 3) (As := [_]) rfl rfl l_Mo_272 vm_Mo_arrivesAt rfl rfl rfl (Or.inl ⟨rfl, Nat.le_of_ble_eq_true rfl⟩) (Nat.le_of_ble_eq_true rfl) (Nat.le_of_ble_eq_true rfl) (Nat.le_refl _) (Nat.le_refl _) (Nat.le_of_ble_eq_true rfl) (Mo_arrivesAt_ok N d h r hM hd) rfl ?_
  rintro rv h r ⟨rfl, rfl, rfl⟩ -
  refine wq_isub (q := 22) rfl rfl (by first | omega | (simp [hup]; omega)) (by first | omega | (simp [hup]; omega)) ?_
  refine wq_istore (i := 4) (q := 24) rfl rfl (Nat.le_of_ble_eq_true rfl) rfl ?_
  refine wq_aload_n (kk := 0) (q := 25) rfl rfl rfl ?_
  refine wq_getF (q := 28) f_Mo_17 rfl rfl (Nat.le_of_ble_eq_true rfl) rfl rfl rfl ?_
  refine wq_iload_n (kk := 2) (q := 29) rfl rfl rfl ?_
  refine wq_iconst (n := 1) (q := 30) rfl rfl rfl ?_
  refine wq_callS (q := 33) (m' := m_Mo_at) (R' := rm 1) (As := [_, _]) rfl rfl l_Mo_209 sm_Mo_at rfl (Nat.le_of_ble_eq_true rfl) (Nat.le_of_ble_eq_true rfl) (Nat.le_refl _) (Nat.le_refl _) (Nat.le_of_ble_eq_true rfl) (Mo_at_ok e 1 h r (by omega) (by omega)) rfl ?_
  rintro rv h r ⟨rfl, rfl, rfl⟩ -
  refine wq_iald (q := 34) rfl (Or.inl ⟨rfl, Nat.le_of_ble_eq_true rfl⟩) rfl rfl (by first | omega | (simp [hup]; omega)) (by first | omega | (simp [hup]; omega)) ?_
  refine wq_iload_n (kk := 3) (q := 35) rfl rfl rfl ?_
  refine wq_icmp_ne (tgt := 71) (q := 38) rfl rfl rfl (fun c35 => ?_) (fun c35 => ?_)
  · skip
    refine wq_iconst (n := 0) (q := 72) rfl rfl rfl ?_
    refine wq_zret rfl rfl (Nat.le_refl _) (Nat.le_refl _) (by omega) ?_
    unfold J
    first | exact pC_t (by omega) | exact pC_f (by omega)
  · skip
    refine wq_iload (i := 4) (q := 40) rfl rfl rfl ?_
    refine wq_if_lt (tgt := 71) (q := 43) rfl rfl rfl (fun c40 => ?_) (fun c40 => ?_)
    · skip
      refine wq_iconst (n := 0) (q := 72) rfl rfl rfl ?_
      refine wq_zret rfl rfl (Nat.le_refl _) (Nat.le_refl _) (by omega) ?_
      unfold J
      first | exact pC_t (by omega) | exact pC_f (by omega)
    · skip
      refine wq_aload_n (kk := 0) (q := 44) rfl rfl rfl ?_
      refine wq_getF (q := 47) f_Mo_17 rfl rfl (Nat.le_of_ble_eq_true rfl) rfl rfl rfl ?_
      refine wq_bipush (n := 15) (q := 49) rfl rfl rfl ?_
      refine wq_iload_n (kk := 3) (q := 50) rfl rfl rfl ?_
      refine wq_iadd (q := 51) rfl rfl (by first | omega | (simp [hup]; omega)) (by first | omega | (simp [hup]; omega)) ?_
      refine wq_iald (q := 52) rfl (Or.inl ⟨rfl, Nat.le_of_ble_eq_true rfl⟩) rfl rfl (by first | omega | (simp [hup]; omega)) (by first | omega | (simp [hup]; omega)) ?_
      refine wq_bipush (n := -2) (q := 54) rfl rfl rfl ?_
      refine wq_icmp_eq (tgt := 73) (q := 57) rfl rfl rfl (fun c54 => ?_) (fun c54 => ?_)
      · skip
        refine wq_aload_n (kk := 0) (q := 74) rfl rfl rfl ?_
        refine wq_getF (q := 77) f_Mo_17 rfl rfl (Nat.le_of_ble_eq_true rfl) rfl rfl rfl ?_
        refine wq_iload_n (kk := 1) (q := 78) rfl rfl rfl ?_
        refine wq_iconst (n := 0) (q := 79) rfl rfl rfl ?_
        refine wq_callS (q := 82) (m' := m_Mo_at) (R' := rm 1) (As := [_, _]) rfl rfl l_Mo_209 sm_Mo_at rfl (Nat.le_of_ble_eq_true rfl) (Nat.le_of_ble_eq_true rfl) (Nat.le_refl _) (Nat.le_refl _) (Nat.le_of_ble_eq_true rfl) (Mo_at_ok d 0 h r (by omega) (by omega)) rfl ?_
        rintro rv h r ⟨rfl, rfl, rfl⟩ -
        refine wq_iald (q := 83) rfl (Or.inl ⟨rfl, Nat.le_of_ble_eq_true rfl⟩) rfl rfl (by first | omega | (simp [hup]; omega)) (by first | omega | (simp [hup]; omega)) ?_
        refine wq_aload_n (kk := 0) (q := 84) rfl rfl rfl ?_
        refine wq_getF (q := 87) f_Mo_17 rfl rfl (Nat.le_of_ble_eq_true rfl) rfl rfl rfl ?_
        refine wq_iload_n (kk := 2) (q := 88) rfl rfl rfl ?_
        refine wq_iconst (n := 0) (q := 89) rfl rfl rfl ?_
        refine wq_callS (q := 92) (m' := m_Mo_at) (R' := rm 1) (As := [_, _]) rfl rfl l_Mo_209 sm_Mo_at rfl (Nat.le_of_ble_eq_true rfl) (Nat.le_of_ble_eq_true rfl) (Nat.le_refl _) (Nat.le_refl _) (Nat.le_of_ble_eq_true rfl) (Mo_at_ok e 0 h r (by omega) (by omega)) rfl ?_
        rintro rv h r ⟨rfl, rfl, rfl⟩ -
        refine wq_iald (q := 93) rfl (Or.inl ⟨rfl, Nat.le_of_ble_eq_true rfl⟩) rfl rfl (by first | omega | (simp [hup]; omega)) (by first | omega | (simp [hup]; omega)) ?_
        refine wq_icmp_eq (tgt := 109) (q := 96) rfl rfl rfl (fun c93 => ?_) (fun c93 => ?_)
        · skip
          refine wq_iconst (n := 1) (q := 110) rfl rfl rfl ?_
          refine wq_goto (tgt := 114) rfl rfl ?_
          refine wq_zret rfl rfl (Nat.le_refl _) (Nat.le_refl _) (by omega) ?_
          unfold J
          first | exact pC_t (by omega) | exact pC_f (by omega)
        · skip
          refine wq_iload (i := 4) (q := 98) rfl rfl rfl ?_
          refine wq_aload_n (kk := 0) (q := 99) rfl rfl rfl ?_
          refine wq_getF (q := 102) f_Mo_17 rfl rfl (Nat.le_of_ble_eq_true rfl) rfl rfl rfl ?_
          refine wq_iconst (n := 5) (q := 103) rfl rfl rfl ?_
          refine wq_iload_n (kk := 3) (q := 104) rfl rfl rfl ?_
          refine wq_iadd (q := 105) rfl rfl (by first | omega | (simp [hup]; omega)) (by first | omega | (simp [hup]; omega)) ?_
          refine wq_iald (q := 106) rfl (Or.inl ⟨rfl, Nat.le_of_ble_eq_true rfl⟩) rfl rfl (by first | omega | (simp [hup]; omega)) (by first | omega | (simp [hup]; omega)) ?_
          refine wq_icmp_lt (tgt := 113) (q := 109) rfl rfl rfl (fun c106 => ?_) (fun c106 => ?_)
          · skip
            refine wq_iconst (n := 0) (q := 114) rfl rfl rfl ?_
            refine wq_zret rfl rfl (Nat.le_refl _) (Nat.le_refl _) (by omega) ?_
            unfold J
            first | exact pC_t (by omega) | exact pC_f (by omega)
          · skip
            refine wq_iconst (n := 1) (q := 110) rfl rfl rfl ?_
            refine wq_goto (tgt := 114) rfl rfl ?_
            refine wq_zret rfl rfl (Nat.le_refl _) (Nat.le_refl _) (by omega) ?_
            unfold J
            first | exact pC_t (by omega) | exact pC_f (by omega)
      · skip
        refine wq_iload (i := 4) (q := 59) rfl rfl rfl ?_
        refine wq_aload_n (kk := 0) (q := 60) rfl rfl rfl ?_
        refine wq_getF (q := 63) f_Mo_17 rfl rfl (Nat.le_of_ble_eq_true rfl) rfl rfl rfl ?_
        refine wq_bipush (n := 15) (q := 65) rfl rfl rfl ?_
        refine wq_iload_n (kk := 3) (q := 66) rfl rfl rfl ?_
        refine wq_iadd (q := 67) rfl rfl (by first | omega | (simp [hup]; omega)) (by first | omega | (simp [hup]; omega)) ?_
        refine wq_iald (q := 68) rfl (Or.inl ⟨rfl, Nat.le_of_ble_eq_true rfl⟩) rfl rfl (by first | omega | (simp [hup]; omega)) (by first | omega | (simp [hup]; omega)) ?_
        refine wq_icmp_le (tgt := 73) (q := 71) rfl rfl rfl (fun c68 => ?_) (fun c68 => ?_)
        · skip
          refine wq_aload_n (kk := 0) (q := 74) rfl rfl rfl ?_
          refine wq_getF (q := 77) f_Mo_17 rfl rfl (Nat.le_of_ble_eq_true rfl) rfl rfl rfl ?_
          refine wq_iload_n (kk := 1) (q := 78) rfl rfl rfl ?_
          refine wq_iconst (n := 0) (q := 79) rfl rfl rfl ?_
          refine wq_callS (q := 82) (m' := m_Mo_at) (R' := rm 1) (As := [_, _]) rfl rfl l_Mo_209 sm_Mo_at rfl (Nat.le_of_ble_eq_true rfl) (Nat.le_of_ble_eq_true rfl) (Nat.le_refl _) (Nat.le_refl _) (Nat.le_of_ble_eq_true rfl) (Mo_at_ok d 0 h r (by omega) (by omega)) rfl ?_
          rintro rv h r ⟨rfl, rfl, rfl⟩ -
          refine wq_iald (q := 83) rfl (Or.inl ⟨rfl, Nat.le_of_ble_eq_true rfl⟩) rfl rfl (by first | omega | (simp [hup]; omega)) (by first | omega | (simp [hup]; omega)) ?_
          refine wq_aload_n (kk := 0) (q := 84) rfl rfl rfl ?_
          refine wq_getF (q := 87) f_Mo_17 rfl rfl (Nat.le_of_ble_eq_true rfl) rfl rfl rfl ?_
          refine wq_iload_n (kk := 2) (q := 88) rfl rfl rfl ?_
          refine wq_iconst (n := 0) (q := 89) rfl rfl rfl ?_
          refine wq_callS (q := 92) (m' := m_Mo_at) (R' := rm 1) (As := [_, _]) rfl rfl l_Mo_209 sm_Mo_at rfl (Nat.le_of_ble_eq_true rfl) (Nat.le_of_ble_eq_true rfl) (Nat.le_refl _) (Nat.le_refl _) (Nat.le_of_ble_eq_true rfl) (Mo_at_ok e 0 h r (by omega) (by omega)) rfl ?_
          rintro rv h r ⟨rfl, rfl, rfl⟩ -
          refine wq_iald (q := 93) rfl (Or.inl ⟨rfl, Nat.le_of_ble_eq_true rfl⟩) rfl rfl (by first | omega | (simp [hup]; omega)) (by first | omega | (simp [hup]; omega)) ?_
          refine wq_icmp_eq (tgt := 109) (q := 96) rfl rfl rfl (fun c93 => ?_) (fun c93 => ?_)
          · skip
            refine wq_iconst (n := 1) (q := 110) rfl rfl rfl ?_
            refine wq_goto (tgt := 114) rfl rfl ?_
            refine wq_zret rfl rfl (Nat.le_refl _) (Nat.le_refl _) (by omega) ?_
            unfold J
            first | exact pC_t (by omega) | exact pC_f (by omega)
          · skip
            refine wq_iload (i := 4) (q := 98) rfl rfl rfl ?_
            refine wq_aload_n (kk := 0) (q := 99) rfl rfl rfl ?_
            refine wq_getF (q := 102) f_Mo_17 rfl rfl (Nat.le_of_ble_eq_true rfl) rfl rfl rfl ?_
            refine wq_iconst (n := 5) (q := 103) rfl rfl rfl ?_
            refine wq_iload_n (kk := 3) (q := 104) rfl rfl rfl ?_
            refine wq_iadd (q := 105) rfl rfl (by first | omega | (simp [hup]; omega)) (by first | omega | (simp [hup]; omega)) ?_
            refine wq_iald (q := 106) rfl (Or.inl ⟨rfl, Nat.le_of_ble_eq_true rfl⟩) rfl rfl (by first | omega | (simp [hup]; omega)) (by first | omega | (simp [hup]; omega)) ?_
            refine wq_icmp_lt (tgt := 113) (q := 109) rfl rfl rfl (fun c106 => ?_) (fun c106 => ?_)
            · skip
              refine wq_iconst (n := 0) (q := 114) rfl rfl rfl ?_
              refine wq_zret rfl rfl (Nat.le_refl _) (Nat.le_refl _) (by omega) ?_
              unfold J
              first | exact pC_t (by omega) | exact pC_f (by omega)
            · skip
              refine wq_iconst (n := 1) (q := 110) rfl rfl rfl ?_
              refine wq_goto (tgt := 114) rfl rfl ?_
              refine wq_zret rfl rfl (Nat.le_refl _) (Nat.le_refl _) (by omega) ?_
              unfold J
              first | exact pC_t (by omega) | exact pC_f (by omega)
        · skip
          refine wq_iconst (n := 0) (q := 72) rfl rfl rfl ?_
          refine wq_zret rfl rfl (Nat.le_refl _) (Nat.le_refl _) (by omega) ?_
          unfold J
          first | exact pC_t (by omega) | exact pC_f (by omega)

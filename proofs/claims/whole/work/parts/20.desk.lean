/-! LinkTimes$Desk: cell 2 (the one in force) and cell 13 (the one that is read) -/
set_option maxRecDepth 100000 in
theorem De_isTold_ok (i : Nat) (hi : i = 2 ∨ i = 13) (h : mH) (r : mR) : Meets true (rm 1) m_De_isTold [vR i] h r (pI (bI (0 < h i 1)) h r) := by
  rcases hi with rfl | rfl
  · refine ⟨ok_De_isTold, Nat.le_of_ble_eq_true rfl, ?_⟩
    refine wq_aload_n (kk := 0) (q := 1) rfl rfl rfl ?_
    refine wq_getI (kz := 1) (q := 4) rfl f_De_47 rfl rfl (Or.inl ⟨rfl, Nat.le_of_ble_eq_true rfl⟩) rfl rfl ?_
    refine wq_if_le (tgt := 11) (q := 7) rfl rfl rfl (fun c4 => ?_) (fun c4 => ?_)
    · skip
      refine wq_iconst (n := 0) (q := 12) rfl rfl rfl ?_
      refine wq_zret rfl rfl (Nat.le_refl _) (Nat.le_refl _) (by omega) ?_
      first | exact ⟨rfl, rfl, rfl⟩ | exact pB_t (by omega) | exact pB_f (by omega) | exact pC_t (by omega) | exact pC_f (by omega) | (exfalso; omega)
    · skip
      refine wq_iconst (n := 1) (q := 8) rfl rfl rfl ?_
      refine wq_goto (tgt := 12) rfl rfl ?_
      refine wq_zret rfl rfl (Nat.le_refl _) (Nat.le_refl _) (by omega) ?_
      first | exact ⟨rfl, rfl, rfl⟩ | exact pB_t (by omega) | exact pB_f (by omega) | exact pC_t (by omega) | exact pC_f (by omega) | (exfalso; omega)
  · refine ⟨ok_De_isTold, Nat.le_of_ble_eq_true rfl, ?_⟩
    refine wq_aload_n (kk := 0) (q := 1) rfl rfl rfl ?_
    refine wq_getI (kz := 1) (q := 4) rfl f_De_47 rfl rfl (Or.inl ⟨rfl, Nat.le_of_ble_eq_true rfl⟩) rfl rfl ?_
    refine wq_if_le (tgt := 11) (q := 7) rfl rfl rfl (fun c4 => ?_) (fun c4 => ?_)
    · skip
      refine wq_iconst (n := 0) (q := 12) rfl rfl rfl ?_
      refine wq_zret rfl rfl (Nat.le_refl _) (Nat.le_refl _) (by omega) ?_
      first | exact ⟨rfl, rfl, rfl⟩ | exact pB_t (by omega) | exact pB_f (by omega) | exact pC_t (by omega) | exact pC_f (by omega) | (exfalso; omega)
    · skip
      refine wq_iconst (n := 1) (q := 8) rfl rfl rfl ?_
      refine wq_goto (tgt := 12) rfl rfl ?_
      refine wq_zret rfl rfl (Nat.le_refl _) (Nat.le_refl _) (by omega) ?_
      first | exact ⟨rfl, rfl, rfl⟩ | exact pB_t (by omega) | exact pB_f (by omega) | exact pC_t (by omega) | exact pC_f (by omega) | (exfalso; omega)
set_option maxRecDepth 100000 in
theorem De_hasSpot_ok (s : Int) (h : mH) (r : mR) : Meets true (rm 1) m_De_hasSpot [vR 2, vI s] h r (pI (bI (0 ≤ s ∧ s < h 2 1)) h r) := by
  refine ⟨ok_De_hasSpot, Nat.le_of_ble_eq_true rfl, ?_⟩
  refine wq_iload_n (kk := 1) (q := 1) rfl rfl rfl ?_
  refine wq_if_lt (tgt := 16) (q := 4) rfl rfl rfl (fun c1 => ?_) (fun c1 => ?_)
  · skip
    refine wq_iconst (n := 0) (q := 17) rfl rfl rfl ?_
    refine wq_zret rfl rfl (Nat.le_refl _) (Nat.le_refl _) (by omega) ?_
    first | exact ⟨rfl, rfl, rfl⟩ | exact pB_t (by omega) | exact pB_f (by omega) | exact pC_t (by omega) | exact pC_f (by omega) | (exfalso; omega)
  · skip
    refine wq_iload_n (kk := 1) (q := 5) rfl rfl rfl ?_
    refine wq_aload_n (kk := 0) (q := 6) rfl rfl rfl ?_
    refine wq_getI (kz := 1) (q := 9) rfl f_De_47 rfl rfl (Or.inl ⟨rfl, Nat.le_of_ble_eq_true rfl⟩) rfl rfl ?_
    refine wq_icmp_ge (tgt := 16) (q := 12) rfl rfl rfl (fun c9 => ?_) (fun c9 => ?_)
    · skip
      refine wq_iconst (n := 0) (q := 17) rfl rfl rfl ?_
      refine wq_zret rfl rfl (Nat.le_refl _) (Nat.le_refl _) (by omega) ?_
      first | exact ⟨rfl, rfl, rfl⟩ | exact pB_t (by omega) | exact pB_f (by omega) | exact pC_t (by omega) | exact pC_f (by omega) | (exfalso; omega)
    · skip
      refine wq_iconst (n := 1) (q := 13) rfl rfl rfl ?_
      refine wq_goto (tgt := 17) rfl rfl ?_
      refine wq_zret rfl rfl (Nat.le_refl _) (Nat.le_refl _) (by omega) ?_
      first | exact ⟨rfl, rfl, rfl⟩ | exact pB_t (by omega) | exact pB_f (by omega) | exact pC_t (by omega) | exact pC_f (by omega) | (exfalso; omega)
set_option maxRecDepth 100000 in
theorem De_hasLine_ok (s : Int) (h : mH) (r : mR) : Meets true (rm 1) m_De_hasLine [vR 2, vI s] h r (pI (bI (0 ≤ s ∧ s < h 2 2)) h r) := by
  refine ⟨ok_De_hasLine, Nat.le_of_ble_eq_true rfl, ?_⟩
  refine wq_iload_n (kk := 1) (q := 1) rfl rfl rfl ?_
  refine wq_if_lt (tgt := 16) (q := 4) rfl rfl rfl (fun c1 => ?_) (fun c1 => ?_)
  · skip
    refine wq_iconst (n := 0) (q := 17) rfl rfl rfl ?_
    refine wq_zret rfl rfl (Nat.le_refl _) (Nat.le_refl _) (by omega) ?_
    first | exact ⟨rfl, rfl, rfl⟩ | exact pB_t (by omega) | exact pB_f (by omega) | exact pC_t (by omega) | exact pC_f (by omega) | (exfalso; omega)
  · skip
    refine wq_iload_n (kk := 1) (q := 5) rfl rfl rfl ?_
    refine wq_aload_n (kk := 0) (q := 6) rfl rfl rfl ?_
    refine wq_getI (kz := 2) (q := 9) rfl f_De_50 rfl rfl (Or.inl ⟨rfl, Nat.le_of_ble_eq_true rfl⟩) rfl rfl ?_
    refine wq_icmp_ge (tgt := 16) (q := 12) rfl rfl rfl (fun c9 => ?_) (fun c9 => ?_)
    · skip
      refine wq_iconst (n := 0) (q := 17) rfl rfl rfl ?_
      refine wq_zret rfl rfl (Nat.le_refl _) (Nat.le_refl _) (by omega) ?_
      first | exact ⟨rfl, rfl, rfl⟩ | exact pB_t (by omega) | exact pB_f (by omega) | exact pC_t (by omega) | exact pC_f (by omega) | (exfalso; omega)
    · skip
      refine wq_iconst (n := 1) (q := 13) rfl rfl rfl ?_
      refine wq_goto (tgt := 17) rfl rfl ?_
      refine wq_zret rfl rfl (Nat.le_refl _) (Nat.le_refl _) (by omega) ?_
      first | exact ⟨rfl, rfl, rfl⟩ | exact pB_t (by omega) | exact pB_f (by omega) | exact pC_t (by omega) | exact pC_f (by omega) | (exfalso; omega)
set_option maxRecDepth 100000 in
theorem De_hasDeparture_ok (s : Int) (h : mH) (r : mR) : Meets true (rm 1) m_De_hasDeparture [vR 2, vI s] h r (pI (bI (0 ≤ s ∧ s < h 2 4)) h r) := by
  refine ⟨ok_De_hasDeparture, Nat.le_of_ble_eq_true rfl, ?_⟩
  refine wq_iload_n (kk := 1) (q := 1) rfl rfl rfl ?_
  refine wq_if_lt (tgt := 16) (q := 4) rfl rfl rfl (fun c1 => ?_) (fun c1 => ?_)
  · skip
    refine wq_iconst (n := 0) (q := 17) rfl rfl rfl ?_
    refine wq_zret rfl rfl (Nat.le_refl _) (Nat.le_refl _) (by omega) ?_
    first | exact ⟨rfl, rfl, rfl⟩ | exact pB_t (by omega) | exact pB_f (by omega) | exact pC_t (by omega) | exact pC_f (by omega) | (exfalso; omega)
  · skip
    refine wq_iload_n (kk := 1) (q := 5) rfl rfl rfl ?_
    refine wq_aload_n (kk := 0) (q := 6) rfl rfl rfl ?_
    refine wq_getI (kz := 4) (q := 9) rfl f_De_56 rfl rfl (Or.inl ⟨rfl, Nat.le_of_ble_eq_true rfl⟩) rfl rfl ?_
    refine wq_icmp_ge (tgt := 16) (q := 12) rfl rfl rfl (fun c9 => ?_) (fun c9 => ?_)
    · skip
      refine wq_iconst (n := 0) (q := 17) rfl rfl rfl ?_
      refine wq_zret rfl rfl (Nat.le_refl _) (Nat.le_refl _) (by omega) ?_
      first | exact ⟨rfl, rfl, rfl⟩ | exact pB_t (by omega) | exact pB_f (by omega) | exact pC_t (by omega) | exact pC_f (by omega) | (exfalso; omega)
    · skip
      refine wq_iconst (n := 1) (q := 13) rfl rfl rfl ?_
      refine wq_goto (tgt := 17) rfl rfl ?_
      refine wq_zret rfl rfl (Nat.le_refl _) (Nat.le_refl _) (by omega) ?_
      first | exact ⟨rfl, rfl, rfl⟩ | exact pB_t (by omega) | exact pB_f (by omega) | exact pC_t (by omega) | exact pC_f (by omega) | (exfalso; omega)
set_option maxRecDepth 100000 in
theorem De_clear_ok (h : mH) (r : mR) : Meets true (rm 1) m_De_clear [vR 13] h r (pH (hup (hup (hup (hup (hup h 13 0 0) 13 1 0) 13 2 0) 13 3 0) 13 4 0) r) := by
  refine ⟨ok_De_clear, Nat.le_of_ble_eq_true rfl, ?_⟩
  refine wq_aload_n (kk := 0) (q := 1) rfl rfl rfl ?_
  refine wq_iconst (n := 0) (q := 2) rfl rfl rfl ?_
  refine wq_putI (kz := 0) (q := 5) rfl f_De_43 rfl rfl rfl (Or.inl ⟨rfl, Nat.le_of_ble_eq_true rfl⟩) rfl rfl ?_
  refine wq_aload_n (kk := 0) (q := 6) rfl rfl rfl ?_
  refine wq_iconst (n := 0) (q := 7) rfl rfl rfl ?_
  refine wq_putI (kz := 1) (q := 10) rfl f_De_47 rfl rfl rfl (Or.inl ⟨rfl, Nat.le_of_ble_eq_true rfl⟩) rfl rfl ?_
  refine wq_aload_n (kk := 0) (q := 11) rfl rfl rfl ?_
  refine wq_iconst (n := 0) (q := 12) rfl rfl rfl ?_
  refine wq_putI (kz := 2) (q := 15) rfl f_De_50 rfl rfl rfl (Or.inl ⟨rfl, Nat.le_of_ble_eq_true rfl⟩) rfl rfl ?_
  refine wq_aload_n (kk := 0) (q := 16) rfl rfl rfl ?_
  refine wq_iconst (n := 0) (q := 17) rfl rfl rfl ?_
  refine wq_putI (kz := 3) (q := 20) rfl f_De_53 rfl rfl rfl (Or.inl ⟨rfl, Nat.le_of_ble_eq_true rfl⟩) rfl rfl ?_
  refine wq_aload_n (kk := 0) (q := 21) rfl rfl rfl ?_
  refine wq_iconst (n := 0) (q := 22) rfl rfl rfl ?_
  refine wq_putI (kz := 4) (q := 25) rfl f_De_56 rfl rfl rfl (Or.inl ⟨rfl, Nat.le_of_ble_eq_true rfl⟩) rfl rfl ?_
  refine wq_vret rfl rfl (Nat.le_refl _) (Nat.le_refl _) ?_
  first | exact ⟨rfl, rfl, rfl⟩ | exact pB_t (by omega) | exact pB_f (by omega) | exact pC_t (by omega) | exact pC_f (by omega) | (exfalso; omega)
def x_addSpot (h : mH) (g w : Int) : mH := hup (hup (hup h 14 (h 13 1) g) 15 (h 13 1) w) 13 1 (h 13 1 + 1)
set_option maxRecDepth 100000 in
theorem De_addSpot_ok (g w : Int) (h : mH) (r : mR) (h0 : 0 ≤ h 13 1) (h1 : h 13 1 < 10) : Meets true (rm 1) m_De_addSpot [vR 13, vI g, vI w] h r (pH (x_addSpot h g w) r) := by
  refine ⟨ok_De_addSpot, Nat.le_of_ble_eq_true rfl, ?_⟩
  refine wq_aload_n (kk := 0) (q := 1) rfl rfl rfl ?_
  refine wq_getI (kz := 1) (q := 4) rfl f_De_47 rfl rfl (Or.inl ⟨rfl, Nat.le_of_ble_eq_true rfl⟩) rfl rfl ?_
  refine wq_bipush (n := 10) (q := 6) rfl rfl rfl ?_
  refine wq_icmp_ge (tgt := 39) (q := 9) rfl rfl rfl (fun c6 => ?_) (fun c6 => ?_)
  · skip
    refine wq_vret rfl rfl (Nat.le_refl _) (Nat.le_refl _) ?_
    first | exact ⟨rfl, rfl, rfl⟩ | exact pB_t (by omega) | exact pB_f (by omega) | exact pC_t (by omega) | exact pC_f (by omega) | (exfalso; omega)
  · skip
    refine wq_aload_n (kk := 0) (q := 10) rfl rfl rfl ?_
    refine wq_getF (q := 13) f_De_9 rfl rfl (Nat.le_of_ble_eq_true rfl) rfl rfl rfl ?_
    refine wq_aload_n (kk := 0) (q := 14) rfl rfl rfl ?_
    refine wq_getI (kz := 1) (q := 17) rfl f_De_47 rfl rfl (Or.inl ⟨rfl, Nat.le_of_ble_eq_true rfl⟩) rfl rfl ?_
    refine wq_iload_n (kk := 1) (q := 18) rfl rfl rfl ?_
    refine wq_iast (q := 19) rfl (Or.inl ⟨rfl, Nat.le_of_ble_eq_true rfl⟩) rfl rfl (by first | omega | (simp [hup]; omega)) (by first | omega | (simp [hup]; omega)) ?_
    refine wq_aload_n (kk := 0) (q := 20) rfl rfl rfl ?_
    refine wq_getF (q := 23) f_De_15 rfl rfl (Nat.le_of_ble_eq_true rfl) rfl rfl rfl ?_
    refine wq_aload_n (kk := 0) (q := 24) rfl rfl rfl ?_
    refine wq_getI (kz := 1) (q := 27) rfl f_De_47 rfl rfl (Or.inl ⟨rfl, Nat.le_of_ble_eq_true rfl⟩) rfl rfl ?_
    refine wq_iload_n (kk := 2) (q := 28) rfl rfl rfl ?_
    refine wq_iast (q := 29) rfl (Or.inl ⟨rfl, Nat.le_of_ble_eq_true rfl⟩) rfl rfl (by first | omega | (simp [hup]; omega)) (by first | omega | (simp [hup]; omega)) ?_
    refine wq_aload_n (kk := 0) (q := 30) rfl rfl rfl ?_
    refine wq_dup (q := 31) rfl rfl rfl ?_
    refine wq_getI (kz := 1) (q := 34) rfl f_De_47 rfl rfl (Or.inl ⟨rfl, Nat.le_of_ble_eq_true rfl⟩) rfl rfl ?_
    refine wq_iconst (n := 1) (q := 35) rfl rfl rfl ?_
    refine wq_iadd (q := 36) rfl rfl (by first | omega | (simp [hup]; omega)) (by first | omega | (simp [hup]; omega)) ?_
    refine wq_putI (kz := 1) (q := 39) rfl f_De_47 rfl rfl rfl (Or.inl ⟨rfl, Nat.le_of_ble_eq_true rfl⟩) rfl rfl ?_
    refine wq_vret rfl rfl (Nat.le_refl _) (Nat.le_refl _) ?_
    first | exact ⟨rfl, rfl, rfl⟩ | exact pB_t (by omega) | exact pB_f (by omega) | exact pC_t (by omega) | exact pC_f (by omega) | (exfalso; omega)
def x_addDep (i : Nat) (h : mH) (ln a b t k lk : Int) : mH := let n := h i 4; hup (hup (hup (hup (hup (hup (hup (hup (hup h (i + 3) n ln) (i + 4) n a) (i + 5) n b) (i + 6) n t) (i + 7) n k) (i + 8) n 0) (i + 9) n lk) (i + 10) n 0) i 4 (n + 1)
set_option maxRecDepth 100000 in
set_option maxHeartbeats 1000000 in
theorem De_addDep_ok (i : Nat) (hi : i = 2 ∨ i = 13) (ln a b t k lk : Int) (h : mH) (r : mR) (h0 : 0 ≤ h i 4) (h1 : h i 4 < 120) : Meets true (rm 1) m_De_addDeparture [vR i, vI ln, vI a, vI b, vI t, vI k, vI lk] h r (pH (x_addDep i h ln a b t k lk) r) := by
  rcases hi with rfl | rfl
  · refine ⟨ok_De_addDeparture, Nat.le_of_ble_eq_true rfl, ?_⟩
    refine wq_aload_n (kk := 0) (q := 1) rfl rfl rfl ?_
    refine wq_getI (kz := 4) (q := 4) rfl f_De_56 rfl rfl (Or.inl ⟨rfl, Nat.le_of_ble_eq_true rfl⟩) rfl rfl ?_
    refine wq_bipush (n := 120) (q := 6) rfl rfl rfl ?_
    refine wq_icmp_ge (tgt := 102) (q := 9) rfl rfl rfl (fun c6 => ?_) (fun c6 => ?_)
    · skip
      refine wq_vret rfl rfl (Nat.le_refl _) (Nat.le_refl _) ?_
      first | exact ⟨rfl, rfl, rfl⟩ | exact pB_t (by omega) | exact pB_f (by omega) | exact pC_t (by omega) | exact pC_f (by omega) | (exfalso; omega)
    · skip
      refine wq_aload_n (kk := 0) (q := 10) rfl rfl rfl ?_
      refine wq_getF (q := 13) f_De_18 rfl rfl (Nat.le_of_ble_eq_true rfl) rfl rfl rfl ?_
      refine wq_aload_n (kk := 0) (q := 14) rfl rfl rfl ?_
      refine wq_getI (kz := 4) (q := 17) rfl f_De_56 rfl rfl (Or.inl ⟨rfl, Nat.le_of_ble_eq_true rfl⟩) rfl rfl ?_
      refine wq_iload_n (kk := 1) (q := 18) rfl rfl rfl ?_
      refine wq_iast (q := 19) rfl (Or.inl ⟨rfl, Nat.le_of_ble_eq_true rfl⟩) rfl rfl (by first | omega | (simp [hup]; omega)) (by first | omega | (simp [hup]; omega)) ?_
      refine wq_aload_n (kk := 0) (q := 20) rfl rfl rfl ?_
      refine wq_getF (q := 23) f_De_21 rfl rfl (Nat.le_of_ble_eq_true rfl) rfl rfl rfl ?_
      refine wq_aload_n (kk := 0) (q := 24) rfl rfl rfl ?_
      refine wq_getI (kz := 4) (q := 27) rfl f_De_56 rfl rfl (Or.inl ⟨rfl, Nat.le_of_ble_eq_true rfl⟩) rfl rfl ?_
      refine wq_iload_n (kk := 2) (q := 28) rfl rfl rfl ?_
      refine wq_iast (q := 29) rfl (Or.inl ⟨rfl, Nat.le_of_ble_eq_true rfl⟩) rfl rfl (by first | omega | (simp [hup]; omega)) (by first | omega | (simp [hup]; omega)) ?_
      refine wq_aload_n (kk := 0) (q := 30) rfl rfl rfl ?_
      refine wq_getF (q := 33) f_De_24 rfl rfl (Nat.le_of_ble_eq_true rfl) rfl rfl rfl ?_
      refine wq_aload_n (kk := 0) (q := 34) rfl rfl rfl ?_
      refine wq_getI (kz := 4) (q := 37) rfl f_De_56 rfl rfl (Or.inl ⟨rfl, Nat.le_of_ble_eq_true rfl⟩) rfl rfl ?_
      refine wq_iload_n (kk := 3) (q := 38) rfl rfl rfl ?_
      refine wq_iast (q := 39) rfl (Or.inl ⟨rfl, Nat.le_of_ble_eq_true rfl⟩) rfl rfl (by first | omega | (simp [hup]; omega)) (by first | omega | (simp [hup]; omega)) ?_
      refine wq_aload_n (kk := 0) (q := 40) rfl rfl rfl ?_
      refine wq_getF (q := 43) f_De_27 rfl rfl (Nat.le_of_ble_eq_true rfl) rfl rfl rfl ?_
      refine wq_aload_n (kk := 0) (q := 44) rfl rfl rfl ?_
      refine wq_getI (kz := 4) (q := 47) rfl f_De_56 rfl rfl (Or.inl ⟨rfl, Nat.le_of_ble_eq_true rfl⟩) rfl rfl ?_
      refine wq_iload (i := 4) (q := 49) rfl rfl rfl ?_
      refine wq_iast (q := 50) rfl (Or.inl ⟨rfl, Nat.le_of_ble_eq_true rfl⟩) rfl rfl (by first | omega | (simp [hup]; omega)) (by first | omega | (simp [hup]; omega)) ?_
      refine wq_aload_n (kk := 0) (q := 51) rfl rfl rfl ?_
      refine wq_getF (q := 54) f_De_30 rfl rfl (Nat.le_of_ble_eq_true rfl) rfl rfl rfl ?_
      refine wq_aload_n (kk := 0) (q := 55) rfl rfl rfl ?_
      refine wq_getI (kz := 4) (q := 58) rfl f_De_56 rfl rfl (Or.inl ⟨rfl, Nat.le_of_ble_eq_true rfl⟩) rfl rfl ?_
      refine wq_iload (i := 5) (q := 60) rfl rfl rfl ?_
      refine wq_iast (q := 61) rfl (Or.inl ⟨rfl, Nat.le_of_ble_eq_true rfl⟩) rfl rfl (by first | omega | (simp [hup]; omega)) (by first | omega | (simp [hup]; omega)) ?_
      refine wq_aload_n (kk := 0) (q := 62) rfl rfl rfl ?_
      refine wq_getF (q := 65) f_De_33 rfl rfl (Nat.le_of_ble_eq_true rfl) rfl rfl rfl ?_
      refine wq_aload_n (kk := 0) (q := 66) rfl rfl rfl ?_
      refine wq_getI (kz := 4) (q := 69) rfl f_De_56 rfl rfl (Or.inl ⟨rfl, Nat.le_of_ble_eq_true rfl⟩) rfl rfl ?_
      refine wq_iconst (n := 0) (q := 70) rfl rfl rfl ?_
      refine wq_iast (q := 71) rfl (Or.inl ⟨rfl, Nat.le_of_ble_eq_true rfl⟩) rfl rfl (by first | omega | (simp [hup]; omega)) (by first | omega | (simp [hup]; omega)) ?_
      refine wq_aload_n (kk := 0) (q := 72) rfl rfl rfl ?_
      refine wq_getF (q := 75) f_De_36 rfl rfl (Nat.le_of_ble_eq_true rfl) rfl rfl rfl ?_
      refine wq_aload_n (kk := 0) (q := 76) rfl rfl rfl ?_
      refine wq_getI (kz := 4) (q := 79) rfl f_De_56 rfl rfl (Or.inl ⟨rfl, Nat.le_of_ble_eq_true rfl⟩) rfl rfl ?_
      refine wq_iload (i := 6) (q := 81) rfl rfl rfl ?_
      refine wq_iast (q := 82) rfl (Or.inl ⟨rfl, Nat.le_of_ble_eq_true rfl⟩) rfl rfl (by first | omega | (simp [hup]; omega)) (by first | omega | (simp [hup]; omega)) ?_
      refine wq_aload_n (kk := 0) (q := 83) rfl rfl rfl ?_
      refine wq_getF (q := 86) f_De_39 rfl rfl (Nat.le_of_ble_eq_true rfl) rfl rfl rfl ?_
      refine wq_aload_n (kk := 0) (q := 87) rfl rfl rfl ?_
      refine wq_getI (kz := 4) (q := 90) rfl f_De_56 rfl rfl (Or.inl ⟨rfl, Nat.le_of_ble_eq_true rfl⟩) rfl rfl ?_
      refine wq_iconst (n := 0) (q := 91) rfl rfl rfl ?_
      refine wq_zast (q := 92) rfl (Or.inl ⟨rfl, Nat.le_of_ble_eq_true rfl⟩) rfl rfl (by first | omega | (simp [hup]; omega)) (by first | omega | (simp [hup]; omega)) (by omega) ?_
      refine wq_aload_n (kk := 0) (q := 93) rfl rfl rfl ?_
      refine wq_dup (q := 94) rfl rfl rfl ?_
      refine wq_getI (kz := 4) (q := 97) rfl f_De_56 rfl rfl (Or.inl ⟨rfl, Nat.le_of_ble_eq_true rfl⟩) rfl rfl ?_
      refine wq_iconst (n := 1) (q := 98) rfl rfl rfl ?_
      refine wq_iadd (q := 99) rfl rfl (by first | omega | (simp [hup]; omega)) (by first | omega | (simp [hup]; omega)) ?_
      refine wq_putI (kz := 4) (q := 102) rfl f_De_56 rfl rfl rfl (Or.inl ⟨rfl, Nat.le_of_ble_eq_true rfl⟩) rfl rfl ?_
      refine wq_vret rfl rfl (Nat.le_refl _) (Nat.le_refl _) ?_
      first | exact ⟨rfl, rfl, rfl⟩ | exact pB_t (by omega) | exact pB_f (by omega) | exact pC_t (by omega) | exact pC_f (by omega) | (exfalso; omega)
  · refine ⟨ok_De_addDeparture, Nat.le_of_ble_eq_true rfl, ?_⟩
    refine wq_aload_n (kk := 0) (q := 1) rfl rfl rfl ?_
    refine wq_getI (kz := 4) (q := 4) rfl f_De_56 rfl rfl (Or.inl ⟨rfl, Nat.le_of_ble_eq_true rfl⟩) rfl rfl ?_
    refine wq_bipush (n := 120) (q := 6) rfl rfl rfl ?_
    refine wq_icmp_ge (tgt := 102) (q := 9) rfl rfl rfl (fun c6 => ?_) (fun c6 => ?_)
    · skip
      refine wq_vret rfl rfl (Nat.le_refl _) (Nat.le_refl _) ?_
      first | exact ⟨rfl, rfl, rfl⟩ | exact pB_t (by omega) | exact pB_f (by omega) | exact pC_t (by omega) | exact pC_f (by omega) | (exfalso; omega)
    · skip
      refine wq_aload_n (kk := 0) (q := 10) rfl rfl rfl ?_
      refine wq_getF (q := 13) f_De_18 rfl rfl (Nat.le_of_ble_eq_true rfl) rfl rfl rfl ?_
      refine wq_aload_n (kk := 0) (q := 14) rfl rfl rfl ?_
      refine wq_getI (kz := 4) (q := 17) rfl f_De_56 rfl rfl (Or.inl ⟨rfl, Nat.le_of_ble_eq_true rfl⟩) rfl rfl ?_
      refine wq_iload_n (kk := 1) (q := 18) rfl rfl rfl ?_
      refine wq_iast (q := 19) rfl (Or.inl ⟨rfl, Nat.le_of_ble_eq_true rfl⟩) rfl rfl (by first | omega | (simp [hup]; omega)) (by first | omega | (simp [hup]; omega)) ?_
      refine wq_aload_n (kk := 0) (q := 20) rfl rfl rfl ?_
      refine wq_getF (q := 23) f_De_21 rfl rfl (Nat.le_of_ble_eq_true rfl) rfl rfl rfl ?_
      refine wq_aload_n (kk := 0) (q := 24) rfl rfl rfl ?_
      refine wq_getI (kz := 4) (q := 27) rfl f_De_56 rfl rfl (Or.inl ⟨rfl, Nat.le_of_ble_eq_true rfl⟩) rfl rfl ?_
      refine wq_iload_n (kk := 2) (q := 28) rfl rfl rfl ?_
      refine wq_iast (q := 29) rfl (Or.inl ⟨rfl, Nat.le_of_ble_eq_true rfl⟩) rfl rfl (by first | omega | (simp [hup]; omega)) (by first | omega | (simp [hup]; omega)) ?_
      refine wq_aload_n (kk := 0) (q := 30) rfl rfl rfl ?_
      refine wq_getF (q := 33) f_De_24 rfl rfl (Nat.le_of_ble_eq_true rfl) rfl rfl rfl ?_
      refine wq_aload_n (kk := 0) (q := 34) rfl rfl rfl ?_
      refine wq_getI (kz := 4) (q := 37) rfl f_De_56 rfl rfl (Or.inl ⟨rfl, Nat.le_of_ble_eq_true rfl⟩) rfl rfl ?_
      refine wq_iload_n (kk := 3) (q := 38) rfl rfl rfl ?_
      refine wq_iast (q := 39) rfl (Or.inl ⟨rfl, Nat.le_of_ble_eq_true rfl⟩) rfl rfl (by first | omega | (simp [hup]; omega)) (by first | omega | (simp [hup]; omega)) ?_
      refine wq_aload_n (kk := 0) (q := 40) rfl rfl rfl ?_
      refine wq_getF (q := 43) f_De_27 rfl rfl (Nat.le_of_ble_eq_true rfl) rfl rfl rfl ?_
      refine wq_aload_n (kk := 0) (q := 44) rfl rfl rfl ?_
      refine wq_getI (kz := 4) (q := 47) rfl f_De_56 rfl rfl (Or.inl ⟨rfl, Nat.le_of_ble_eq_true rfl⟩) rfl rfl ?_
      refine wq_iload (i := 4) (q := 49) rfl rfl rfl ?_
      refine wq_iast (q := 50) rfl (Or.inl ⟨rfl, Nat.le_of_ble_eq_true rfl⟩) rfl rfl (by first | omega | (simp [hup]; omega)) (by first | omega | (simp [hup]; omega)) ?_
      refine wq_aload_n (kk := 0) (q := 51) rfl rfl rfl ?_
      refine wq_getF (q := 54) f_De_30 rfl rfl (Nat.le_of_ble_eq_true rfl) rfl rfl rfl ?_
      refine wq_aload_n (kk := 0) (q := 55) rfl rfl rfl ?_
      refine wq_getI (kz := 4) (q := 58) rfl f_De_56 rfl rfl (Or.inl ⟨rfl, Nat.le_of_ble_eq_true rfl⟩) rfl rfl ?_
      refine wq_iload (i := 5) (q := 60) rfl rfl rfl ?_
      refine wq_iast (q := 61) rfl (Or.inl ⟨rfl, Nat.le_of_ble_eq_true rfl⟩) rfl rfl (by first | omega | (simp [hup]; omega)) (by first | omega | (simp [hup]; omega)) ?_
      refine wq_aload_n (kk := 0) (q := 62) rfl rfl rfl ?_
      refine wq_getF (q := 65) f_De_33 rfl rfl (Nat.le_of_ble_eq_true rfl) rfl rfl rfl ?_
      refine wq_aload_n (kk := 0) (q := 66) rfl rfl rfl ?_
      refine wq_getI (kz := 4) (q := 69) rfl f_De_56 rfl rfl (Or.inl ⟨rfl, Nat.le_of_ble_eq_true rfl⟩) rfl rfl ?_
      refine wq_iconst (n := 0) (q := 70) rfl rfl rfl ?_
      refine wq_iast (q := 71) rfl (Or.inl ⟨rfl, Nat.le_of_ble_eq_true rfl⟩) rfl rfl (by first | omega | (simp [hup]; omega)) (by first | omega | (simp [hup]; omega)) ?_
      refine wq_aload_n (kk := 0) (q := 72) rfl rfl rfl ?_
      refine wq_getF (q := 75) f_De_36 rfl rfl (Nat.le_of_ble_eq_true rfl) rfl rfl rfl ?_
      refine wq_aload_n (kk := 0) (q := 76) rfl rfl rfl ?_
      refine wq_getI (kz := 4) (q := 79) rfl f_De_56 rfl rfl (Or.inl ⟨rfl, Nat.le_of_ble_eq_true rfl⟩) rfl rfl ?_
      refine wq_iload (i := 6) (q := 81) rfl rfl rfl ?_
      refine wq_iast (q := 82) rfl (Or.inl ⟨rfl, Nat.le_of_ble_eq_true rfl⟩) rfl rfl (by first | omega | (simp [hup]; omega)) (by first | omega | (simp [hup]; omega)) ?_
      refine wq_aload_n (kk := 0) (q := 83) rfl rfl rfl ?_
      refine wq_getF (q := 86) f_De_39 rfl rfl (Nat.le_of_ble_eq_true rfl) rfl rfl rfl ?_
      refine wq_aload_n (kk := 0) (q := 87) rfl rfl rfl ?_
      refine wq_getI (kz := 4) (q := 90) rfl f_De_56 rfl rfl (Or.inl ⟨rfl, Nat.le_of_ble_eq_true rfl⟩) rfl rfl ?_
      refine wq_iconst (n := 0) (q := 91) rfl rfl rfl ?_
      refine wq_zast (q := 92) rfl (Or.inl ⟨rfl, Nat.le_of_ble_eq_true rfl⟩) rfl rfl (by first | omega | (simp [hup]; omega)) (by first | omega | (simp [hup]; omega)) (by omega) ?_
      refine wq_aload_n (kk := 0) (q := 93) rfl rfl rfl ?_
      refine wq_dup (q := 94) rfl rfl rfl ?_
      refine wq_getI (kz := 4) (q := 97) rfl f_De_56 rfl rfl (Or.inl ⟨rfl, Nat.le_of_ble_eq_true rfl⟩) rfl rfl ?_
      refine wq_iconst (n := 1) (q := 98) rfl rfl rfl ?_
      refine wq_iadd (q := 99) rfl rfl (by first | omega | (simp [hup]; omega)) (by first | omega | (simp [hup]; omega)) ?_
      refine wq_putI (kz := 4) (q := 102) rfl f_De_56 rfl rfl rfl (Or.inl ⟨rfl, Nat.le_of_ble_eq_true rfl⟩) rfl rfl ?_
      refine wq_vret rfl rfl (Nat.le_refl _) (Nat.le_refl _) ?_
      first | exact ⟨rfl, rfl, rfl⟩ | exact pB_t (by omega) | exact pB_f (by omega) | exact pC_t (by omega) | exact pC_f (by omega) | (exfalso; omega)
set_option maxRecDepth 100000 in
theorem De_runningCount_lp (h : mH) (r : mR) (hn : 0 ≤ h 2 4 ∧ h 2 4 ≤ 120) : ∀ (N : Nat) (d f : Int), (h 2 4 - d).toNat = N → 0 ≤ d → d ≤ h 2 4 → f = cn (fun d => h 12 d == 0) d.toNat → WP (true, rm 1) m_De_runningCount (rt m_De_runningCount (rm 1) (pI (cn (fun d => h 12 d == 0) (h 2 4).toNat) h r)) 4 [some (vR 2), some (vI f), some (vI d)] [] h r (0, 0) := by
  intro N
  induction N using Nat.strongRecOn with
  | ind N ih =>
    intro d f hN h0 h1 hf
    have hb := cn_b (fun d => h 12 d == 0) d.toNat
    refine wq_iload_n (kk := 2) (q := 5) rfl rfl rfl ?_
    refine wq_aload_n (kk := 0) (q := 6) rfl rfl rfl ?_
    refine wq_getI (kz := 4) (q := 9) rfl f_De_56 rfl rfl (Or.inl ⟨rfl, Nat.le_of_ble_eq_true rfl⟩) rfl rfl ?_
    refine wq_icmp_ge (tgt := 35) (q := 12) rfl rfl rfl (fun c9 => ?_) (fun c9 => ?_)
    · skip
      refine wq_iload_n (kk := 1) (q := 36) rfl rfl rfl ?_
      refine wq_iret rfl rfl (Nat.le_refl _) (Nat.le_refl _) ?_
      have e : d = h 2 4 := by omega
      subst e
      rw [hf]
      exact ⟨rfl, rfl, rfl⟩
    · skip
      refine wq_iload_n (kk := 1) (q := 13) rfl rfl rfl ?_
      refine wq_aload_n (kk := 0) (q := 14) rfl rfl rfl ?_
      refine wq_getF (q := 17) f_De_39 rfl rfl (Nat.le_of_ble_eq_true rfl) rfl rfl rfl ?_
      refine wq_iload_n (kk := 2) (q := 18) rfl rfl rfl ?_
      refine wq_zald (q := 19) rfl (Or.inl ⟨rfl, Nat.le_of_ble_eq_true rfl⟩) rfl rfl (by first | omega | (simp [hup]; omega)) (by first | omega | (simp [hup]; omega)) ?_
      refine wq_if_eq (tgt := 26) (q := 22) rfl rfl rfl (fun c19 => ?_) (fun c19 => ?_)
      · skip
        refine wq_iconst (n := 1) (q := 27) rfl rfl rfl ?_
        refine wq_iadd (q := 28) rfl rfl (by first | omega | (simp [hup]; omega)) (by first | omega | (simp [hup]; omega)) ?_
        refine wq_istore_n (kk := 1) (q := 29) rfl rfl (Nat.le_of_ble_eq_true rfl) rfl ?_
        refine wq_iinc (i := 2) (n := 1) (q := 32) rfl rfl rfl (Nat.le_of_ble_eq_true rfl) rfl (by first | omega | (simp [hup]; omega)) (by first | omega | (simp [hup]; omega)) ?_
        refine wq_goto (tgt := 4) rfl rfl ?_
        refine ih _ ?_ (d + 1) _ rfl (by omega) (by omega) ?_
        · omega
        · rw [cn_s h0]; simp_all
      · skip
        refine wq_iconst (n := 0) (q := 23) rfl rfl rfl ?_
        refine wq_goto (tgt := 27) rfl rfl ?_
        refine wq_iadd (q := 28) rfl rfl (by first | omega | (simp [hup]; omega)) (by first | omega | (simp [hup]; omega)) ?_
        refine wq_istore_n (kk := 1) (q := 29) rfl rfl (Nat.le_of_ble_eq_true rfl) rfl ?_
        refine wq_iinc (i := 2) (n := 1) (q := 32) rfl rfl rfl (Nat.le_of_ble_eq_true rfl) rfl (by first | omega | (simp [hup]; omega)) (by first | omega | (simp [hup]; omega)) ?_
        refine wq_goto (tgt := 4) rfl rfl ?_
        refine ih _ ?_ (d + 1) _ rfl (by omega) (by omega) ?_
        · omega
        · rw [cn_s h0]; simp_all
set_option maxRecDepth 100000 in
theorem De_runningCount_ok (h : mH) (r : mR) (hn : 0 ≤ h 2 4 ∧ h 2 4 ≤ 120) : Meets true (rm 1) m_De_runningCount [vR 2] h r (pI (cn (fun d => h 12 d == 0) (h 2 4).toNat) h r) := by
  refine ⟨ok_De_runningCount, Nat.le_of_ble_eq_true rfl, ?_⟩
  refine wq_iconst (n := 0) (q := 1) rfl rfl rfl ?_
  refine wq_istore_n (kk := 1) (q := 2) rfl rfl (Nat.le_of_ble_eq_true rfl) rfl ?_
  refine wq_iconst (n := 0) (q := 3) rfl rfl rfl ?_
  refine wq_istore_n (kk := 2) (q := 4) rfl rfl (Nat.le_of_ble_eq_true rfl) rfl ?_
  exact De_runningCount_lp h r hn _ 0 0 rfl (by omega) (by omega) rfl

set_option maxRecDepth 100000 in
theorem De_lateCount_lp (h : mH) (r : mR) (hn : 0 ≤ h 2 4 ∧ h 2 4 ≤ 120) : ∀ (N : Nat) (d f : Int), (h 2 4 - d).toNat = N → 0 ≤ d → d ≤ h 2 4 → f = cn (fun d => decide (0 < h 10 d)) d.toNat → WP (true, rm 1) m_De_lateCount (rt m_De_lateCount (rm 1) (pI (cn (fun d => decide (0 < h 10 d)) (h 2 4).toNat) h r)) 4 [some (vR 2), some (vI f), some (vI d)] [] h r (0, 0) := by
  intro N
  induction N using Nat.strongRecOn with
  | ind N ih =>
    intro d f hN h0 h1 hf
    have hb := cn_b (fun d => decide (0 < h 10 d)) d.toNat
    refine wq_iload_n (kk := 2) (q := 5) rfl rfl rfl ?_
    refine wq_aload_n (kk := 0) (q := 6) rfl rfl rfl ?_
    refine wq_getI (kz := 4) (q := 9) rfl f_De_56 rfl rfl (Or.inl ⟨rfl, Nat.le_of_ble_eq_true rfl⟩) rfl rfl ?_
    refine wq_icmp_ge (tgt := 35) (q := 12) rfl rfl rfl (fun c9 => ?_) (fun c9 => ?_)
    · skip
      refine wq_iload_n (kk := 1) (q := 36) rfl rfl rfl ?_
      refine wq_iret rfl rfl (Nat.le_refl _) (Nat.le_refl _) ?_
      have e : d = h 2 4 := by omega
      subst e
      rw [hf]
      exact ⟨rfl, rfl, rfl⟩
    · skip
      refine wq_iload_n (kk := 1) (q := 13) rfl rfl rfl ?_
      refine wq_aload_n (kk := 0) (q := 14) rfl rfl rfl ?_
      refine wq_getF (q := 17) f_De_33 rfl rfl (Nat.le_of_ble_eq_true rfl) rfl rfl rfl ?_
      refine wq_iload_n (kk := 2) (q := 18) rfl rfl rfl ?_
      refine wq_iald (q := 19) rfl (Or.inl ⟨rfl, Nat.le_of_ble_eq_true rfl⟩) rfl rfl (by first | omega | (simp [hup]; omega)) (by first | omega | (simp [hup]; omega)) ?_
      refine wq_if_le (tgt := 26) (q := 22) rfl rfl rfl (fun c19 => ?_) (fun c19 => ?_)
      · skip
        refine wq_iconst (n := 0) (q := 27) rfl rfl rfl ?_
        refine wq_iadd (q := 28) rfl rfl (by first | omega | (simp [hup]; omega)) (by first | omega | (simp [hup]; omega)) ?_
        refine wq_istore_n (kk := 1) (q := 29) rfl rfl (Nat.le_of_ble_eq_true rfl) rfl ?_
        refine wq_iinc (i := 2) (n := 1) (q := 32) rfl rfl rfl (Nat.le_of_ble_eq_true rfl) rfl (by first | omega | (simp [hup]; omega)) (by first | omega | (simp [hup]; omega)) ?_
        refine wq_goto (tgt := 4) rfl rfl ?_
        refine ih _ ?_ (d + 1) _ rfl (by omega) (by omega) ?_
        · omega
        · rw [cn_s h0, hf]; by_cases hz : 0 < h 10 d <;> simp [hz] <;> omega
      · skip
        refine wq_iconst (n := 1) (q := 23) rfl rfl rfl ?_
        refine wq_goto (tgt := 27) rfl rfl ?_
        refine wq_iadd (q := 28) rfl rfl (by first | omega | (simp [hup]; omega)) (by first | omega | (simp [hup]; omega)) ?_
        refine wq_istore_n (kk := 1) (q := 29) rfl rfl (Nat.le_of_ble_eq_true rfl) rfl ?_
        refine wq_iinc (i := 2) (n := 1) (q := 32) rfl rfl rfl (Nat.le_of_ble_eq_true rfl) rfl (by first | omega | (simp [hup]; omega)) (by first | omega | (simp [hup]; omega)) ?_
        refine wq_goto (tgt := 4) rfl rfl ?_
        refine ih _ ?_ (d + 1) _ rfl (by omega) (by omega) ?_
        · omega
        · rw [cn_s h0, hf]; by_cases hz : 0 < h 10 d <;> simp [hz] <;> omega
set_option maxRecDepth 100000 in
theorem De_lateCount_ok (h : mH) (r : mR) (hn : 0 ≤ h 2 4 ∧ h 2 4 ≤ 120) : Meets true (rm 1) m_De_lateCount [vR 2] h r (pI (cn (fun d => decide (0 < h 10 d)) (h 2 4).toNat) h r) := by
  refine ⟨ok_De_lateCount, Nat.le_of_ble_eq_true rfl, ?_⟩
  refine wq_iconst (n := 0) (q := 1) rfl rfl rfl ?_
  refine wq_istore_n (kk := 1) (q := 2) rfl rfl (Nat.le_of_ble_eq_true rfl) rfl ?_
  refine wq_iconst (n := 0) (q := 3) rfl rfl rfl ?_
  refine wq_istore_n (kk := 2) (q := 4) rfl rfl (Nat.le_of_ble_eq_true rfl) rfl ?_
  exact De_lateCount_lp h r hn _ 0 0 rfl (by omega) (by omega) rfl

set_option maxRecDepth 100000 in
theorem De_countFrom_lp (s : Int) (h : mH) (r : mR) (hn : 0 ≤ h 2 4 ∧ h 2 4 ≤ 120) : ∀ (N : Nat) (d f : Int), (h 2 4 - d).toNat = N → 0 ≤ d → d ≤ h 2 4 → f = cn (fun d => (h 12 d == 0) && (h 6 d == s)) d.toNat → WP (true, rm 1) m_De_countFrom (rt m_De_countFrom (rm 1) (pI (cn (fun d => (h 12 d == 0) && (h 6 d == s)) (h 2 4).toNat) h r)) 4 [some (vR 2), some (vI s), some (vI f), some (vI d)] [] h r (0, 0) := by
  intro N
  induction N using Nat.strongRecOn with
  | ind N ih =>
    intro d f hN h0 h1 hf
    have hb := cn_b (fun d => (h 12 d == 0) && (h 6 d == s)) d.toNat
    refine wq_iload_n (kk := 3) (q := 5) rfl rfl rfl ?_
    refine wq_aload_n (kk := 0) (q := 6) rfl rfl rfl ?_
    refine wq_getI (kz := 4) (q := 9) rfl f_De_56 rfl rfl (Or.inl ⟨rfl, Nat.le_of_ble_eq_true rfl⟩) rfl rfl ?_
    refine wq_icmp_ge (tgt := 45) (q := 12) rfl rfl rfl (fun c9 => ?_) (fun c9 => ?_)
    · skip
      refine wq_iload_n (kk := 2) (q := 46) rfl rfl rfl ?_
      refine wq_iret rfl rfl (Nat.le_refl _) (Nat.le_refl _) ?_
      have e : d = h 2 4 := by omega
      subst e
      rw [hf]
      exact ⟨rfl, rfl, rfl⟩
    · skip
      refine wq_iload_n (kk := 2) (q := 13) rfl rfl rfl ?_
      refine wq_aload_n (kk := 0) (q := 14) rfl rfl rfl ?_
      refine wq_getF (q := 17) f_De_39 rfl rfl (Nat.le_of_ble_eq_true rfl) rfl rfl rfl ?_
      refine wq_iload_n (kk := 3) (q := 18) rfl rfl rfl ?_
      refine wq_zald (q := 19) rfl (Or.inl ⟨rfl, Nat.le_of_ble_eq_true rfl⟩) rfl rfl (by first | omega | (simp [hup]; omega)) (by first | omega | (simp [hup]; omega)) ?_
      refine wq_if_ne (tgt := 36) (q := 22) rfl rfl rfl (fun c19 => ?_) (fun c19 => ?_)
      · skip
        refine wq_iconst (n := 0) (q := 37) rfl rfl rfl ?_
        refine wq_iadd (q := 38) rfl rfl (by first | omega | (simp [hup]; omega)) (by first | omega | (simp [hup]; omega)) ?_
        refine wq_istore_n (kk := 2) (q := 39) rfl rfl (Nat.le_of_ble_eq_true rfl) rfl ?_
        refine wq_iinc (i := 3) (n := 1) (q := 42) rfl rfl rfl (Nat.le_of_ble_eq_true rfl) rfl (by first | omega | (simp [hup]; omega)) (by first | omega | (simp [hup]; omega)) ?_
        refine wq_goto (tgt := 4) rfl rfl ?_
        refine ih _ ?_ (d + 1) _ rfl (by omega) (by omega) ?_
        · omega
        · rw [cn_s h0]; simp_all
      · skip
        refine wq_aload_n (kk := 0) (q := 23) rfl rfl rfl ?_
        refine wq_getF (q := 26) f_De_21 rfl rfl (Nat.le_of_ble_eq_true rfl) rfl rfl rfl ?_
        refine wq_iload_n (kk := 3) (q := 27) rfl rfl rfl ?_
        refine wq_iald (q := 28) rfl (Or.inl ⟨rfl, Nat.le_of_ble_eq_true rfl⟩) rfl rfl (by first | omega | (simp [hup]; omega)) (by first | omega | (simp [hup]; omega)) ?_
        refine wq_iload_n (kk := 1) (q := 29) rfl rfl rfl ?_
        refine wq_icmp_ne (tgt := 36) (q := 32) rfl rfl rfl (fun c29 => ?_) (fun c29 => ?_)
        · skip
          refine wq_iconst (n := 0) (q := 37) rfl rfl rfl ?_
          refine wq_iadd (q := 38) rfl rfl (by first | omega | (simp [hup]; omega)) (by first | omega | (simp [hup]; omega)) ?_
          refine wq_istore_n (kk := 2) (q := 39) rfl rfl (Nat.le_of_ble_eq_true rfl) rfl ?_
          refine wq_iinc (i := 3) (n := 1) (q := 42) rfl rfl rfl (Nat.le_of_ble_eq_true rfl) rfl (by first | omega | (simp [hup]; omega)) (by first | omega | (simp [hup]; omega)) ?_
          refine wq_goto (tgt := 4) rfl rfl ?_
          refine ih _ ?_ (d + 1) _ rfl (by omega) (by omega) ?_
          · omega
          · rw [cn_s h0]; simp_all
        · skip
          refine wq_iconst (n := 1) (q := 33) rfl rfl rfl ?_
          refine wq_goto (tgt := 37) rfl rfl ?_
          refine wq_iadd (q := 38) rfl rfl (by first | omega | (simp [hup]; omega)) (by first | omega | (simp [hup]; omega)) ?_
          refine wq_istore_n (kk := 2) (q := 39) rfl rfl (Nat.le_of_ble_eq_true rfl) rfl ?_
          refine wq_iinc (i := 3) (n := 1) (q := 42) rfl rfl rfl (Nat.le_of_ble_eq_true rfl) rfl (by first | omega | (simp [hup]; omega)) (by first | omega | (simp [hup]; omega)) ?_
          refine wq_goto (tgt := 4) rfl rfl ?_
          refine ih _ ?_ (d + 1) _ rfl (by omega) (by omega) ?_
          · omega
          · rw [cn_s h0]; simp_all
set_option maxRecDepth 100000 in
theorem De_countFrom_ok (s : Int) (h : mH) (r : mR) (hn : 0 ≤ h 2 4 ∧ h 2 4 ≤ 120) : Meets true (rm 1) m_De_countFrom [vR 2, vI s] h r (pI (cn (fun d => (h 12 d == 0) && (h 6 d == s)) (h 2 4).toNat) h r) := by
  refine ⟨ok_De_countFrom, Nat.le_of_ble_eq_true rfl, ?_⟩
  refine wq_iconst (n := 0) (q := 1) rfl rfl rfl ?_
  refine wq_istore_n (kk := 2) (q := 2) rfl rfl (Nat.le_of_ble_eq_true rfl) rfl ?_
  refine wq_iconst (n := 0) (q := 3) rfl rfl rfl ?_
  refine wq_istore_n (kk := 3) (q := 4) rfl rfl (Nat.le_of_ble_eq_true rfl) rfl ?_
  exact De_countFrom_lp s h r hn _ 0 0 rfl (by omega) (by omega) rfl

set_option maxRecDepth 100000 in
theorem De_countTo_lp (s : Int) (h : mH) (r : mR) (hn : 0 ≤ h 2 4 ∧ h 2 4 ≤ 120) : ∀ (N : Nat) (d f : Int), (h 2 4 - d).toNat = N → 0 ≤ d → d ≤ h 2 4 → f = cn (fun d => (h 12 d == 0) && (h 7 d == s)) d.toNat → WP (true, rm 1) m_De_countTo (rt m_De_countTo (rm 1) (pI (cn (fun d => (h 12 d == 0) && (h 7 d == s)) (h 2 4).toNat) h r)) 4 [some (vR 2), some (vI s), some (vI f), some (vI d)] [] h r (0, 0) := by
  intro N
  induction N using Nat.strongRecOn with
  | ind N ih =>
    intro d f hN h0 h1 hf
    have hb := cn_b (fun d => (h 12 d == 0) && (h 7 d == s)) d.toNat
    refine wq_iload_n (kk := 3) (q := 5) rfl rfl rfl ?_
    refine wq_aload_n (kk := 0) (q := 6) rfl rfl rfl ?_
    refine wq_getI (kz := 4) (q := 9) rfl f_De_56 rfl rfl (Or.inl ⟨rfl, Nat.le_of_ble_eq_true rfl⟩) rfl rfl ?_
    refine wq_icmp_ge (tgt := 45) (q := 12) rfl rfl rfl (fun c9 => ?_) (fun c9 => ?_)
    · skip
      refine wq_iload_n (kk := 2) (q := 46) rfl rfl rfl ?_
      refine wq_iret rfl rfl (Nat.le_refl _) (Nat.le_refl _) ?_
      have e : d = h 2 4 := by omega
      subst e
      rw [hf]
      exact ⟨rfl, rfl, rfl⟩
    · skip
      refine wq_iload_n (kk := 2) (q := 13) rfl rfl rfl ?_
      refine wq_aload_n (kk := 0) (q := 14) rfl rfl rfl ?_
      refine wq_getF (q := 17) f_De_39 rfl rfl (Nat.le_of_ble_eq_true rfl) rfl rfl rfl ?_
      refine wq_iload_n (kk := 3) (q := 18) rfl rfl rfl ?_
      refine wq_zald (q := 19) rfl (Or.inl ⟨rfl, Nat.le_of_ble_eq_true rfl⟩) rfl rfl (by first | omega | (simp [hup]; omega)) (by first | omega | (simp [hup]; omega)) ?_
      refine wq_if_ne (tgt := 36) (q := 22) rfl rfl rfl (fun c19 => ?_) (fun c19 => ?_)
      · skip
        refine wq_iconst (n := 0) (q := 37) rfl rfl rfl ?_
        refine wq_iadd (q := 38) rfl rfl (by first | omega | (simp [hup]; omega)) (by first | omega | (simp [hup]; omega)) ?_
        refine wq_istore_n (kk := 2) (q := 39) rfl rfl (Nat.le_of_ble_eq_true rfl) rfl ?_
        refine wq_iinc (i := 3) (n := 1) (q := 42) rfl rfl rfl (Nat.le_of_ble_eq_true rfl) rfl (by first | omega | (simp [hup]; omega)) (by first | omega | (simp [hup]; omega)) ?_
        refine wq_goto (tgt := 4) rfl rfl ?_
        refine ih _ ?_ (d + 1) _ rfl (by omega) (by omega) ?_
        · omega
        · rw [cn_s h0]; simp_all
      · skip
        refine wq_aload_n (kk := 0) (q := 23) rfl rfl rfl ?_
        refine wq_getF (q := 26) f_De_24 rfl rfl (Nat.le_of_ble_eq_true rfl) rfl rfl rfl ?_
        refine wq_iload_n (kk := 3) (q := 27) rfl rfl rfl ?_
        refine wq_iald (q := 28) rfl (Or.inl ⟨rfl, Nat.le_of_ble_eq_true rfl⟩) rfl rfl (by first | omega | (simp [hup]; omega)) (by first | omega | (simp [hup]; omega)) ?_
        refine wq_iload_n (kk := 1) (q := 29) rfl rfl rfl ?_
        refine wq_icmp_ne (tgt := 36) (q := 32) rfl rfl rfl (fun c29 => ?_) (fun c29 => ?_)
        · skip
          refine wq_iconst (n := 0) (q := 37) rfl rfl rfl ?_
          refine wq_iadd (q := 38) rfl rfl (by first | omega | (simp [hup]; omega)) (by first | omega | (simp [hup]; omega)) ?_
          refine wq_istore_n (kk := 2) (q := 39) rfl rfl (Nat.le_of_ble_eq_true rfl) rfl ?_
          refine wq_iinc (i := 3) (n := 1) (q := 42) rfl rfl rfl (Nat.le_of_ble_eq_true rfl) rfl (by first | omega | (simp [hup]; omega)) (by first | omega | (simp [hup]; omega)) ?_
          refine wq_goto (tgt := 4) rfl rfl ?_
          refine ih _ ?_ (d + 1) _ rfl (by omega) (by omega) ?_
          · omega
          · rw [cn_s h0]; simp_all
        · skip
          refine wq_iconst (n := 1) (q := 33) rfl rfl rfl ?_
          refine wq_goto (tgt := 37) rfl rfl ?_
          refine wq_iadd (q := 38) rfl rfl (by first | omega | (simp [hup]; omega)) (by first | omega | (simp [hup]; omega)) ?_
          refine wq_istore_n (kk := 2) (q := 39) rfl rfl (Nat.le_of_ble_eq_true rfl) rfl ?_
          refine wq_iinc (i := 3) (n := 1) (q := 42) rfl rfl rfl (Nat.le_of_ble_eq_true rfl) rfl (by first | omega | (simp [hup]; omega)) (by first | omega | (simp [hup]; omega)) ?_
          refine wq_goto (tgt := 4) rfl rfl ?_
          refine ih _ ?_ (d + 1) _ rfl (by omega) (by omega) ?_
          · omega
          · rw [cn_s h0]; simp_all
set_option maxRecDepth 100000 in
theorem De_countTo_ok (s : Int) (h : mH) (r : mR) (hn : 0 ≤ h 2 4 ∧ h 2 4 ≤ 120) : Meets true (rm 1) m_De_countTo [vR 2, vI s] h r (pI (cn (fun d => (h 12 d == 0) && (h 7 d == s)) (h 2 4).toNat) h r) := by
  refine ⟨ok_De_countTo, Nat.le_of_ble_eq_true rfl, ?_⟩
  refine wq_iconst (n := 0) (q := 1) rfl rfl rfl ?_
  refine wq_istore_n (kk := 2) (q := 2) rfl rfl (Nat.le_of_ble_eq_true rfl) rfl ?_
  refine wq_iconst (n := 0) (q := 3) rfl rfl rfl ?_
  refine wq_istore_n (kk := 3) (q := 4) rfl rfl (Nat.le_of_ble_eq_true rfl) rfl ?_
  exact De_countTo_lp s h r hn _ 0 0 rfl (by omega) (by omega) rfl

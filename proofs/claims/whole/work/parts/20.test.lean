set_option maxRecDepth 100000 in
theorem De_isTold_ok (i : Nat) (hi : i = 2 ∨ i = 13) (h : mH) (r : mR) : Meets true (rm 1) m_De_isTold [vR i] h r (pI (if 0 < h i 1 then 1 else 0) h r) := by
  rcases hi with rfl | rfl
  · refine ⟨ok_De_isTold, Nat.le_of_ble_eq_true rfl, ?_⟩
    refine wq_aload_n (kk := 0) (q := 1) rfl rfl rfl ?_
    refine wq_getI (q := 4) f_De_47 rfl rfl (Or.inl ⟨rfl, Nat.le_of_ble_eq_true rfl⟩) rfl rfl ?_
    refine wq_if_le (tgt := 11) (q := 7) rfl rfl rfl (fun c4 => ?_) (fun c4 => ?_)
    · skip
      refine wq_iconst (n := 0) (q := 12) rfl rfl rfl ?_
      refine wq_zret rfl rfl (Nat.le_refl _) (Nat.le_refl _) (by omega) ?_
      simp_all
    · skip
      refine wq_iconst (n := 1) (q := 8) rfl rfl rfl ?_
      refine wq_goto (tgt := 12) rfl rfl ?_
      refine wq_zret rfl rfl (Nat.le_refl _) (Nat.le_refl _) (by omega) ?_
      simp_all
  · refine ⟨ok_De_isTold, Nat.le_of_ble_eq_true rfl, ?_⟩
    refine wq_aload_n (kk := 0) (q := 1) rfl rfl rfl ?_
    refine wq_getI (q := 4) f_De_47 rfl rfl (Or.inl ⟨rfl, Nat.le_of_ble_eq_true rfl⟩) rfl rfl ?_
    refine wq_if_le (tgt := 11) (q := 7) rfl rfl rfl (fun c4 => ?_) (fun c4 => ?_)
    · skip
      refine wq_iconst (n := 0) (q := 12) rfl rfl rfl ?_
      refine wq_zret rfl rfl (Nat.le_refl _) (Nat.le_refl _) (by omega) ?_
      simp_all
    · skip
      refine wq_iconst (n := 1) (q := 8) rfl rfl rfl ?_
      refine wq_goto (tgt := 12) rfl rfl ?_
      refine wq_zret rfl rfl (Nat.le_refl _) (Nat.le_refl _) (by omega) ?_
      simp_all
set_option maxRecDepth 100000 in
theorem Ne_isTurn_ok (d e : Int) (h : mH) (r : mR) (hnde : r.1 31 7 = some 2) (hd : 0 ≤ d ∧ d < 120) (he : 0 ≤ e ∧ e < 120) : Meets true (rm 1) m_Ne_isTurn [vR 31, vI d, vI e] h r (pI (if h 5 d ≠ h 5 e then 1 else 0) h r) := by
  refine ⟨ok_Ne_isTurn, Nat.le_of_ble_eq_true rfl, ?_⟩
  refine wq_aload_n (kk := 0) (q := 1) rfl rfl rfl ?_
  refine wq_getR (q := 4) f_Ne_37 rfl rfl (Or.inl ⟨rfl, Nat.le_of_ble_eq_true rfl⟩) hnde rfl rfl ?_
  refine wq_getF (q := 7) f_Ne_92 rfl rfl (Nat.le_of_ble_eq_true rfl) rfl rfl rfl ?_
  refine wq_iload_n (kk := 1) (q := 8) rfl rfl rfl ?_
  refine wq_iald (q := 9) rfl (Or.inl ⟨rfl, Nat.le_of_ble_eq_true rfl⟩) rfl rfl (by omega) (by omega) ?_
  refine wq_aload_n (kk := 0) (q := 10) rfl rfl rfl ?_
  refine wq_getR (q := 13) f_Ne_37 rfl rfl (Or.inl ⟨rfl, Nat.le_of_ble_eq_true rfl⟩) hnde rfl rfl ?_
  refine wq_getF (q := 16) f_Ne_92 rfl rfl (Nat.le_of_ble_eq_true rfl) rfl rfl rfl ?_
  refine wq_iload_n (kk := 2) (q := 17) rfl rfl rfl ?_
  refine wq_iald (q := 18) rfl (Or.inl ⟨rfl, Nat.le_of_ble_eq_true rfl⟩) rfl rfl (by omega) (by omega) ?_
  refine wq_icmp_eq (tgt := 25) (q := 21) rfl rfl rfl (fun c18 => ?_) (fun c18 => ?_)
  · skip
    refine wq_iconst (n := 0) (q := 26) rfl rfl rfl ?_
    refine wq_zret rfl rfl (Nat.le_refl _) (Nat.le_refl _) (by omega) ?_
    simp_all
  · skip
    refine wq_iconst (n := 1) (q := 22) rfl rfl rfl ?_
    refine wq_goto (tgt := 26) rfl rfl ?_
    refine wq_zret rfl rfl (Nat.le_refl _) (Nat.le_refl _) (by omega) ?_
    simp_all

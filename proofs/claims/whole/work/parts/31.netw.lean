/-! LinkTimes$Net: cell 31 -/
set_option maxRecDepth 100000 in
theorem Ne_isTurn_ok (N : mN) (d e : Int) (h : mH) (r : mR) (hnde : r.1 31 7 = some 2) (hV : NV N) (hN : isN h N) (hd : dp N d) (he : dp N e) : Meets true (rm 1) m_Ne_isTurn [vR 31, vI d, vI e] h r (pI (bI (ln N d ≠ ln N e)) h r) := by
  have h1 := (hN.2.2.1 d hd).2.2.2.2.1
  have h2 := (hN.2.2.1 e he).2.2.2.2.1
  have hv := hV.1
  obtain ⟨d0, d1⟩ := hd
  obtain ⟨e0, e1⟩ := he
  refine ⟨ok_Ne_isTurn, Nat.le_of_ble_eq_true rfl, ?_⟩
  refine wq_aload_n (kk := 0) (q := 1) rfl rfl rfl ?_
  refine wq_getR (q := 4) f_Ne_37 rfl rfl (Or.inl ⟨rfl, Nat.le_of_ble_eq_true rfl⟩) hnde rfl rfl ?_
  refine wq_getF (q := 7) f_Ne_92 rfl rfl (Nat.le_of_ble_eq_true rfl) rfl rfl rfl ?_
  refine wq_iload_n (kk := 1) (q := 8) rfl rfl rfl ?_
  refine wq_iald (q := 9) rfl (Or.inl ⟨rfl, Nat.le_of_ble_eq_true rfl⟩) rfl rfl (by first | omega | (simp [hup]; omega)) (by first | omega | (simp [hup]; omega)) ?_
  refine wq_aload_n (kk := 0) (q := 10) rfl rfl rfl ?_
  refine wq_getR (q := 13) f_Ne_37 rfl rfl (Or.inl ⟨rfl, Nat.le_of_ble_eq_true rfl⟩) hnde rfl rfl ?_
  refine wq_getF (q := 16) f_Ne_92 rfl rfl (Nat.le_of_ble_eq_true rfl) rfl rfl rfl ?_
  refine wq_iload_n (kk := 2) (q := 17) rfl rfl rfl ?_
  refine wq_iald (q := 18) rfl (Or.inl ⟨rfl, Nat.le_of_ble_eq_true rfl⟩) rfl rfl (by first | omega | (simp [hup]; omega)) (by first | omega | (simp [hup]; omega)) ?_
  refine wq_icmp_eq (tgt := 25) (q := 21) rfl rfl rfl (fun c18 => ?_) (fun c18 => ?_)
  · skip
    refine wq_iconst (n := 0) (q := 26) rfl rfl rfl ?_
    refine wq_zret rfl rfl (Nat.le_refl _) (Nat.le_refl _) (by omega) ?_
    first | exact ⟨rfl, rfl, rfl⟩ | exact pB_t (by omega) | exact pB_f (by omega) | exact pC_t (by omega) | exact pC_f (by omega) | (exfalso; omega)
  · skip
    refine wq_iconst (n := 1) (q := 22) rfl rfl rfl ?_
    refine wq_goto (tgt := 26) rfl rfl ?_
    refine wq_zret rfl rfl (Nat.le_refl _) (Nat.le_refl _) (by omega) ?_
    first | exact ⟨rfl, rfl, rfl⟩ | exact pB_t (by omega) | exact pB_f (by omega) | exact pC_t (by omega) | exact pC_f (by omega) | (exfalso; omega)
set_option maxRecDepth 100000 in
theorem Ne_joins_ok (N : mN) (d e : Int) (h : mH) (r : mR) (hnde : r.1 31 7 = some 2) (hV : NV N) (hN : isN h N) (hd : dp N d) (he : dp N e) : Meets true (rm 2) m_Ne_joins [vR 31, vI d, vI e] h r (pI (bI (J N d e)) h r) := by
  have h1 := hN.2.2.1 d hd
  have h2 := hN.2.2.1 e he
  have v1 := hV.2.2.1 d hd
  have v2 := hV.2.2.1 e he
  have hv := hV.1
  have hs := hV.2.1
  have h3 := hN.2.2.2 (dst N d) (by omega) (by omega)
  have hd' := hd
  have he' := he
  obtain ⟨d0, d1⟩ := hd'
  obtain ⟨e0, e1⟩ := he'
  refine ⟨ok_Ne_joins, Nat.le_of_ble_eq_true rfl, ?_⟩
  refine wq_aload_n (kk := 0) (q := 1) rfl rfl rfl ?_
  refine wq_getR (q := 4) f_Ne_37 rfl rfl (Or.inl ⟨rfl, Nat.le_of_ble_eq_true rfl⟩) hnde rfl rfl ?_
  refine wq_getF (q := 7) f_Ne_85 rfl rfl (Nat.le_of_ble_eq_true rfl) rfl rfl rfl ?_
  refine wq_iload_n (kk := 1) (q := 8) rfl rfl rfl ?_
  refine wq_iald (q := 9) rfl (Or.inl ⟨rfl, Nat.le_of_ble_eq_true rfl⟩) rfl rfl (by first | omega | (rw [h1.2.2.2.1]; omega)) (by first | omega | (rw [h1.2.2.2.1]; omega)) ?_
  refine wq_istore_n (kk := 3) (q := 10) rfl rfl (Nat.le_of_ble_eq_true rfl) rfl ?_
  refine wq_aload_n (kk := 0) (q := 11) rfl rfl rfl ?_
  refine wq_getF (q := 14) f_Ne_9 rfl rfl (Nat.le_of_ble_eq_true rfl) rfl rfl rfl ?_
  refine wq_iload_n (kk := 2) (q := 15) rfl rfl rfl ?_
  refine wq_iald (q := 16) rfl (Or.inl ⟨rfl, Nat.le_of_ble_eq_true rfl⟩) rfl rfl (by first | omega | (rw [h1.2.2.2.1]; omega)) (by first | omega | (rw [h1.2.2.2.1]; omega)) ?_
  refine wq_aload_n (kk := 0) (q := 17) rfl rfl rfl ?_
  refine wq_getF (q := 20) f_Ne_15 rfl rfl (Nat.le_of_ble_eq_true rfl) rfl rfl rfl ?_
  refine wq_iload_n (kk := 1) (q := 21) rfl rfl rfl ?_
  refine wq_iald (q := 22) rfl (Or.inl ⟨rfl, Nat.le_of_ble_eq_true rfl⟩) rfl rfl (by first | omega | (rw [h1.2.2.2.1]; omega)) (by first | omega | (rw [h1.2.2.2.1]; omega)) ?_
  refine wq_isub (q := 23) rfl rfl (by first | omega | (rw [h1.2.2.2.1]; omega)) (by first | omega | (rw [h1.2.2.2.1]; omega)) ?_
  refine wq_istore (i := 4) (q := 25) rfl rfl (Nat.le_of_ble_eq_true rfl) rfl ?_
  refine wq_iload (i := 4) (q := 27) rfl rfl rfl ?_
  refine wq_if_lt (tgt := 52) (q := 30) rfl rfl rfl (fun c27 => ?_) (fun c27 => ?_)
  · skip
    refine wq_iconst (n := 0) (q := 53) rfl rfl rfl ?_
    refine wq_zret rfl rfl (Nat.le_refl _) (Nat.le_refl _) (by omega) ?_
    rw [h1.2.2.2.1] at *
    first
      | exact pC_t (by unfold J; omega)
      | exact pC_f (by unfold J; omega)
  · skip
    refine wq_aload_n (kk := 0) (q := 31) rfl rfl rfl ?_
    refine wq_getF (q := 34) f_Ne_34 rfl rfl (Nat.le_of_ble_eq_true rfl) rfl rfl rfl ?_
    refine wq_iload_n (kk := 3) (q := 35) rfl rfl rfl ?_
    refine wq_iald (q := 36) rfl (Or.inl ⟨rfl, Nat.le_of_ble_eq_true rfl⟩) rfl rfl (by first | omega | (rw [h1.2.2.2.1]; omega)) (by first | omega | (rw [h1.2.2.2.1]; omega)) ?_
    refine wq_bipush (n := -2) (q := 38) rfl rfl rfl ?_
    refine wq_icmp_eq (tgt := 54) (q := 41) rfl rfl rfl (fun c38 => ?_) (fun c38 => ?_)
    · skip
      refine wq_aload_n (kk := 0) (q := 55) rfl rfl rfl ?_
      refine wq_iload_n (kk := 1) (q := 56) rfl rfl rfl ?_
      refine wq_iload_n (kk := 2) (q := 57) rfl rfl rfl ?_
      refine wq_callV (q := 60) (m' := m_Ne_isTurn) (R' := rm 1) (As := [_, _]) rfl rfl l_Ne_88 vm_Ne_isTurn rfl rfl rfl (Or.inl ⟨rfl, Nat.le_of_ble_eq_true rfl⟩) (Nat.le_of_ble_eq_true rfl) (Nat.le_of_ble_eq_true rfl) (Nat.le_refl _) (Nat.le_refl _) (Nat.le_of_ble_eq_true rfl) (Ne_isTurn_ok N d e h r hnde hV hN hd he) rfl ?_
      rintro rv h' r' ⟨rfl, rfl, rfl⟩ -
      refine wq_cif_eq (tgt := 74) (q := 63) rfl rfl rfl (fun c60 => ?_) (fun c60 => ?_)
      · skip
        refine wq_iconst (n := 1) (q := 75) rfl rfl rfl ?_
        refine wq_goto (tgt := 79) rfl rfl ?_
        refine wq_zret rfl rfl (Nat.le_refl _) (Nat.le_refl _) (by omega) ?_
        rw [h1.2.2.2.1] at *
        first
          | exact pC_t (by unfold J; omega)
          | exact pC_f (by unfold J; omega)
      · skip
        refine wq_iload (i := 4) (q := 65) rfl rfl rfl ?_
        refine wq_aload_n (kk := 0) (q := 66) rfl rfl rfl ?_
        refine wq_getF (q := 69) f_Ne_31 rfl rfl (Nat.le_of_ble_eq_true rfl) rfl rfl rfl ?_
        refine wq_iload_n (kk := 3) (q := 70) rfl rfl rfl ?_
        refine wq_iald (q := 71) rfl (Or.inl ⟨rfl, Nat.le_of_ble_eq_true rfl⟩) rfl rfl (by first | omega | (rw [h1.2.2.2.1]; omega)) (by first | omega | (rw [h1.2.2.2.1]; omega)) ?_
        refine wq_icmp_lt (tgt := 78) (q := 74) rfl rfl rfl (fun c71 => ?_) (fun c71 => ?_)
        · skip
          refine wq_iconst (n := 0) (q := 79) rfl rfl rfl ?_
          refine wq_zret rfl rfl (Nat.le_refl _) (Nat.le_refl _) (by omega) ?_
          rw [h1.2.2.2.1] at *
          first
            | exact pC_t (by unfold J; omega)
            | exact pC_f (by unfold J; omega)
        · skip
          refine wq_iconst (n := 1) (q := 75) rfl rfl rfl ?_
          refine wq_goto (tgt := 79) rfl rfl ?_
          refine wq_zret rfl rfl (Nat.le_refl _) (Nat.le_refl _) (by omega) ?_
          rw [h1.2.2.2.1] at *
          first
            | exact pC_t (by unfold J; omega)
            | exact pC_f (by unfold J; omega)
    · skip
      refine wq_iload (i := 4) (q := 43) rfl rfl rfl ?_
      refine wq_aload_n (kk := 0) (q := 44) rfl rfl rfl ?_
      refine wq_getF (q := 47) f_Ne_34 rfl rfl (Nat.le_of_ble_eq_true rfl) rfl rfl rfl ?_
      refine wq_iload_n (kk := 3) (q := 48) rfl rfl rfl ?_
      refine wq_iald (q := 49) rfl (Or.inl ⟨rfl, Nat.le_of_ble_eq_true rfl⟩) rfl rfl (by first | omega | (rw [h1.2.2.2.1]; omega)) (by first | omega | (rw [h1.2.2.2.1]; omega)) ?_
      refine wq_icmp_le (tgt := 54) (q := 52) rfl rfl rfl (fun c49 => ?_) (fun c49 => ?_)
      · skip
        refine wq_aload_n (kk := 0) (q := 55) rfl rfl rfl ?_
        refine wq_iload_n (kk := 1) (q := 56) rfl rfl rfl ?_
        refine wq_iload_n (kk := 2) (q := 57) rfl rfl rfl ?_
        refine wq_callV (q := 60) (m' := m_Ne_isTurn) (R' := rm 1) (As := [_, _]) rfl rfl l_Ne_88 vm_Ne_isTurn rfl rfl rfl (Or.inl ⟨rfl, Nat.le_of_ble_eq_true rfl⟩) (Nat.le_of_ble_eq_true rfl) (Nat.le_of_ble_eq_true rfl) (Nat.le_refl _) (Nat.le_refl _) (Nat.le_of_ble_eq_true rfl) (Ne_isTurn_ok N d e h r hnde hV hN hd he) rfl ?_
        rintro rv h' r' ⟨rfl, rfl, rfl⟩ -
        refine wq_cif_eq (tgt := 74) (q := 63) rfl rfl rfl (fun c60 => ?_) (fun c60 => ?_)
        · skip
          refine wq_iconst (n := 1) (q := 75) rfl rfl rfl ?_
          refine wq_goto (tgt := 79) rfl rfl ?_
          refine wq_zret rfl rfl (Nat.le_refl _) (Nat.le_refl _) (by omega) ?_
          rw [h1.2.2.2.1] at *
          first
            | exact pC_t (by unfold J; omega)
            | exact pC_f (by unfold J; omega)
        · skip
          refine wq_iload (i := 4) (q := 65) rfl rfl rfl ?_
          refine wq_aload_n (kk := 0) (q := 66) rfl rfl rfl ?_
          refine wq_getF (q := 69) f_Ne_31 rfl rfl (Nat.le_of_ble_eq_true rfl) rfl rfl rfl ?_
          refine wq_iload_n (kk := 3) (q := 70) rfl rfl rfl ?_
          refine wq_iald (q := 71) rfl (Or.inl ⟨rfl, Nat.le_of_ble_eq_true rfl⟩) rfl rfl (by first | omega | (rw [h1.2.2.2.1]; omega)) (by first | omega | (rw [h1.2.2.2.1]; omega)) ?_
          refine wq_icmp_lt (tgt := 78) (q := 74) rfl rfl rfl (fun c71 => ?_) (fun c71 => ?_)
          · skip
            refine wq_iconst (n := 0) (q := 79) rfl rfl rfl ?_
            refine wq_zret rfl rfl (Nat.le_refl _) (Nat.le_refl _) (by omega) ?_
            rw [h1.2.2.2.1] at *
            first
              | exact pC_t (by unfold J; omega)
              | exact pC_f (by unfold J; omega)
          · skip
            refine wq_iconst (n := 1) (q := 75) rfl rfl rfl ?_
            refine wq_goto (tgt := 79) rfl rfl ?_
            refine wq_zret rfl rfl (Nat.le_refl _) (Nat.le_refl _) (by omega) ?_
            rw [h1.2.2.2.1] at *
            first
              | exact pC_t (by unfold J; omega)
              | exact pC_f (by unfold J; omega)
      · skip
        refine wq_iconst (n := 0) (q := 53) rfl rfl rfl ?_
        refine wq_zret rfl rfl (Nat.le_refl _) (Nat.le_refl _) (by omega) ?_
        rw [h1.2.2.2.1] at *
        first
          | exact pC_t (by unfold J; omega)
          | exact pC_f (by unfold J; omega)
set_option maxRecDepth 100000 in
theorem Ne_isBehind_ok (d e : Int) (h : mH) (r : mR) (hd : 0 ≤ d ∧ d < 120) (he : 0 ≤ e ∧ e < 120) : Meets true (rm 1) m_Ne_isBehind [vR 31, vI d, vI e] h r (pI (bI (h 32 e < h 32 d ∨ h 32 e = h 32 d ∧ e < d)) h r) := by
  refine ⟨ok_Ne_isBehind, Nat.le_of_ble_eq_true rfl, ?_⟩
  refine wq_aload_n (kk := 0) (q := 1) rfl rfl rfl ?_
  refine wq_getF (q := 4) f_Ne_9 rfl rfl (Nat.le_of_ble_eq_true rfl) rfl rfl rfl ?_
  refine wq_iload_n (kk := 1) (q := 5) rfl rfl rfl ?_
  refine wq_iald (q := 6) rfl (Or.inl ⟨rfl, Nat.le_of_ble_eq_true rfl⟩) rfl rfl (by first | omega | (simp [hup]; omega)) (by first | omega | (simp [hup]; omega)) ?_
  refine wq_aload_n (kk := 0) (q := 7) rfl rfl rfl ?_
  refine wq_getF (q := 10) f_Ne_9 rfl rfl (Nat.le_of_ble_eq_true rfl) rfl rfl rfl ?_
  refine wq_iload_n (kk := 2) (q := 11) rfl rfl rfl ?_
  refine wq_iald (q := 12) rfl (Or.inl ⟨rfl, Nat.le_of_ble_eq_true rfl⟩) rfl rfl (by first | omega | (simp [hup]; omega)) (by first | omega | (simp [hup]; omega)) ?_
  refine wq_icmp_gt (tgt := 35) (q := 15) rfl rfl rfl (fun c12 => ?_) (fun c12 => ?_)
  · skip
    refine wq_iconst (n := 1) (q := 36) rfl rfl rfl ?_
    refine wq_goto (tgt := 40) rfl rfl ?_
    refine wq_zret rfl rfl (Nat.le_refl _) (Nat.le_refl _) (by omega) ?_
    first | exact ⟨rfl, rfl, rfl⟩ | exact pB_t (by omega) | exact pB_f (by omega) | exact pC_t (by omega) | exact pC_f (by omega) | (exfalso; omega)
  · skip
    refine wq_aload_n (kk := 0) (q := 16) rfl rfl rfl ?_
    refine wq_getF (q := 19) f_Ne_9 rfl rfl (Nat.le_of_ble_eq_true rfl) rfl rfl rfl ?_
    refine wq_iload_n (kk := 1) (q := 20) rfl rfl rfl ?_
    refine wq_iald (q := 21) rfl (Or.inl ⟨rfl, Nat.le_of_ble_eq_true rfl⟩) rfl rfl (by first | omega | (simp [hup]; omega)) (by first | omega | (simp [hup]; omega)) ?_
    refine wq_aload_n (kk := 0) (q := 22) rfl rfl rfl ?_
    refine wq_getF (q := 25) f_Ne_9 rfl rfl (Nat.le_of_ble_eq_true rfl) rfl rfl rfl ?_
    refine wq_iload_n (kk := 2) (q := 26) rfl rfl rfl ?_
    refine wq_iald (q := 27) rfl (Or.inl ⟨rfl, Nat.le_of_ble_eq_true rfl⟩) rfl rfl (by first | omega | (simp [hup]; omega)) (by first | omega | (simp [hup]; omega)) ?_
    refine wq_icmp_ne (tgt := 39) (q := 30) rfl rfl rfl (fun c27 => ?_) (fun c27 => ?_)
    · skip
      refine wq_iconst (n := 0) (q := 40) rfl rfl rfl ?_
      refine wq_zret rfl rfl (Nat.le_refl _) (Nat.le_refl _) (by omega) ?_
      first | exact ⟨rfl, rfl, rfl⟩ | exact pB_t (by omega) | exact pB_f (by omega) | exact pC_t (by omega) | exact pC_f (by omega) | (exfalso; omega)
    · skip
      refine wq_iload_n (kk := 1) (q := 31) rfl rfl rfl ?_
      refine wq_iload_n (kk := 2) (q := 32) rfl rfl rfl ?_
      refine wq_icmp_le (tgt := 39) (q := 35) rfl rfl rfl (fun c32 => ?_) (fun c32 => ?_)
      · skip
        refine wq_iconst (n := 0) (q := 40) rfl rfl rfl ?_
        refine wq_zret rfl rfl (Nat.le_refl _) (Nat.le_refl _) (by omega) ?_
        first | exact ⟨rfl, rfl, rfl⟩ | exact pB_t (by omega) | exact pB_f (by omega) | exact pC_t (by omega) | exact pC_f (by omega) | (exfalso; omega)
      · skip
        refine wq_iconst (n := 1) (q := 36) rfl rfl rfl ?_
        refine wq_goto (tgt := 40) rfl rfl ?_
        refine wq_zret rfl rfl (Nat.le_refl _) (Nat.le_refl _) (by omega) ?_
        first | exact ⟨rfl, rfl, rfl⟩ | exact pB_t (by omega) | exact pB_f (by omega) | exact pC_t (by omega) | exact pC_f (by omega) | (exfalso; omega)

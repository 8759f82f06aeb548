/-! LinkTimesModel: extra, undo, still, feed -/
noncomputable def kER (h : mH) (N : mN) (l a b t w : Int) : Int := if bI ((0 ≤ l ∧ l < h 66 2) ∧ kU (nS N) a b) = 0 then 1 else if bI ((0 ≤ t ∧ t ≤ h 66 0) ∧ 1 ≤ w ∧ w ≤ 99) = 0 then 2 else if 120 ≤ h 66 4 then 3 else 0
set_option maxRecDepth 100000 in
set_option maxHeartbeats 1000000 in
theorem Mo_extraA (l a b t w k x6 : Int) (N : mN) (h : mH) (r : mR) (hI : mI h N) (hm : 0 ≤ h 64 10 ∧ h 64 10 ≤ 10) (hk : kER h N l a b t w = k) : WP (true, rm 4) m_Mo_extra (rt m_Mo_extra (rm 4) (arQ h r (kER h N l a b t w) (fun v h1 => (∃ h2, kpd (x_ref h 0) h2 ∧ fr [66] h2 h1 ∧ h1 66 = add1 (h 66) l a b t w (-2)) ∧ v = h 66 4))) 88 [some (vR 64), some (vI l), some (vI a), some (vI b), some (vI t), some (vI w), some (vI x6)] [vI k, vR 64] h r (0, 0) := by
  have e4 := hI.1.2.1
  have hn := hI.1.1.1
  refine wq_callV (q := 91) (m' := m_Mo_isRefused) (R' := rm 1) (As := [_]) rfl rfl l_Mo_228 vm_Mo_isRefused rfl rfl rfl (Or.inl ⟨rfl, Nat.le_of_ble_eq_true rfl⟩) (Nat.le_of_ble_eq_true rfl) (Nat.le_of_ble_eq_true rfl) (Nat.le_refl _) (Nat.le_refl _) (Nat.le_of_ble_eq_true rfl) (Mo_isRefused_ok k h r) rfl ?_
  rintro rv h1 r ⟨rfl, rfl, rfl⟩ -
  refine wq_cif_eq (tgt := 96) (q := 94) rfl rfl rfl (fun c91 => ?_) (fun c91 => ?_)
  · skip
    have k0 : k = 0 := by simpa using c91
    subst k0
    have h4 : h 66 4 < 120 := by
      by_cases z : h 66 4 < 120
      · exact z
      · unfold kER at hk
        split at hk
        · omega
        · split at hk
          · omega
          · rw [if_pos (by omega)] at hk; omega
    refine wq_aload_n (kk := 0) (q := 97) rfl rfl rfl ?_
    refine wq_callV (q := 100) (m' := m_Mo_keeps) (R' := rm 2) (As := []) rfl rfl l_Mo_378 vm_Mo_keeps rfl rfl rfl (Or.inl ⟨rfl, Nat.le_of_ble_eq_true rfl⟩) (Nat.le_of_ble_eq_true rfl) (Nat.le_of_ble_eq_true rfl) (Nat.le_refl _) (Nat.le_refl _) (Nat.le_of_ble_eq_true rfl) (Mo_keeps_ok _ r (by rw [x_ref_k (by omega)]; exact hm)) rfl ?_
    rintro rv h2 r ⟨rfl, rfl, hp⟩ -
    have e66 : h2 66 = h 66 := by rw [hp.f.1 66 (by decide), x_ref_c (by decide)]
    refine wq_aload_n (kk := 0) (q := 101) rfl rfl rfl ?_
    refine wq_getF (q := 104) f_Mo_17 rfl rfl (Nat.le_of_ble_eq_true rfl) rfl rfl rfl ?_
    refine wq_iload_n (kk := 1) (q := 105) rfl rfl rfl ?_
    refine wq_iload_n (kk := 2) (q := 106) rfl rfl rfl ?_
    refine wq_iload_n (kk := 3) (q := 107) rfl rfl rfl ?_
    refine wq_iload (i := 4) (q := 109) rfl rfl rfl ?_
    refine wq_iload (i := 5) (q := 111) rfl rfl rfl ?_
    refine wq_bipush (n := -2) (q := 113) rfl rfl rfl ?_
    refine wq_callS (q := 116) (m' := m_Mo_lays_) (R' := rm 2) (As := [_, _, _, _, _, _, _]) rfl rfl l_Mo_206 sm_Mo_lays_ rfl (Nat.le_of_ble_eq_true rfl) (Nat.le_of_ble_eq_true rfl) (Nat.le_refl _) (Nat.le_refl _) (Nat.le_of_ble_eq_true rfl) (Mo_lays_ok 66 (Or.inl rfl) l a b t w (-2) h2 r (by rw [e66]; omega)) rfl ?_
    rintro rv h3 r ⟨rfl, rfl, f3, e3⟩ -
    rw [e66] at e3
    have e34 : h3 66 4 = h 66 4 + 1 := by rw [e3]; exact (add1_e (by omega)).2.1
    refine wq_aload_n (kk := 0) (q := 117) rfl rfl rfl ?_
    refine wq_getF (q := 120) f_Mo_17 rfl rfl (Nat.le_of_ble_eq_true rfl) rfl rfl rfl ?_
    refine wq_iconst (n := 4) (q := 121) rfl rfl rfl ?_
    refine wq_iald (q := 122) rfl (Or.inl ⟨rfl, Nat.le_of_ble_eq_true rfl⟩) rfl rfl (by first | omega | (simp [hup]; omega)) (by first | omega | (simp [hup]; omega)) ?_
    refine wq_iconst (n := 1) (q := 123) rfl rfl rfl ?_
    refine wq_isub (q := 124) rfl rfl (by first | omega | (simp [hup]; omega)) (by first | omega | (simp [hup]; omega)) ?_
    exact wq_iret rfl rfl (Nat.le_refl _) (Nat.le_refl _) ⟨_, rfl, rfl, Or.inr ⟨hk, ⟨h2, hp, f3, e3⟩, by omega⟩⟩
  · skip
    refine wq_iconst (n := -1) (q := 95) rfl rfl rfl ?_
    exact wq_iret rfl rfl (Nat.le_refl _) (Nat.le_refl _) ⟨_, rfl, rfl, Or.inl ⟨by omega, rfl, by rw [hk]⟩⟩
set_option maxRecDepth 100000 in
set_option maxHeartbeats 1000000 in
theorem Mo_extra_ok (l a b t w : Int) (N : mN) (h : mH) (r : mR) (hI : mI h N) (hm : 0 ≤ h 64 10 ∧ h 64 10 ≤ 10) (h2b : 0 ≤ h 66 2 ∧ h 66 2 ≤ 8) : Meets true (rm 4) m_Mo_extra [vR 64, vI l, vI a, vI b, vI t, vI w] h r (arQ h r (kER h N l a b t w) (fun v h1 => (∃ h2, kpd (x_ref h 0) h2 ∧ fr [66] h2 h1 ∧ h1 66 = add1 (h 66) l a b t w (-2)) ∧ v = h 66 4)) := by
  have e4 := hI.1.2.1
  have hn := hI.1.1.1
  refine ⟨ok_Mo_extra, Nat.le_of_ble_eq_true rfl, ?_⟩
  refine wq_aload_n (kk := 0) (q := 1) rfl rfl rfl ?_
  refine wq_iload_n (kk := 2) (q := 2) rfl rfl rfl ?_
  refine wq_iload_n (kk := 3) (q := 3) rfl rfl rfl ?_
  refine wq_callV (q := 6) (m' := m_Mo_areUnlike) (R' := rm 3) (As := [_, _]) rfl rfl l_Mo_351 vm_Mo_areUnlike rfl rfl rfl (Or.inl ⟨rfl, Nat.le_of_ble_eq_true rfl⟩) (Nat.le_of_ble_eq_true rfl) (Nat.le_of_ble_eq_true rfl) (Nat.le_refl _) (Nat.le_refl _) (Nat.le_of_ble_eq_true rfl) (Mo_areUnlike_ok a b N h r hI) rfl ?_
  rintro rv h r ⟨rfl, rfl, rfl⟩ -
  refine wq_cif_eq (tgt := 29) (q := 9) rfl rfl rfl (fun c6 => ?_) (fun c6 => ?_)
  · skip
    refine wq_iconst (n := 0) (q := 30) rfl rfl rfl ?_
    refine wq_istore (i := 6) (q := 32) rfl rfl (Nat.le_of_ble_eq_true rfl) rfl ?_
    refine wq_aload_n (kk := 0) (q := 33) rfl rfl rfl ?_
    refine wq_iload (i := 6) (q := 35) rfl rfl rfl ?_
    refine wq_if_ne (tgt := 42) (q := 38) rfl rfl rfl (fun c35 => ?_) (fun c35 => ?_)
    · skip
      refine wq_iload (i := 4) (q := 44) rfl rfl rfl ?_
      refine wq_iconst (n := 0) (q := 45) rfl rfl rfl ?_
      refine wq_aload_n (kk := 0) (q := 46) rfl rfl rfl ?_
      refine wq_getF (q := 49) f_Mo_17 rfl rfl (Nat.le_of_ble_eq_true rfl) rfl rfl rfl ?_
      refine wq_iconst (n := 0) (q := 50) rfl rfl rfl ?_
      refine wq_iald (q := 51) rfl (Or.inl ⟨rfl, Nat.le_of_ble_eq_true rfl⟩) rfl rfl (by first | omega | (simp [hup]; omega)) (by first | omega | (simp [hup]; omega)) ?_
      refine wq_callS (q := 54) (m' := m_Mo_in) (R' := rm 1) (As := [_, _, _]) rfl rfl l_Mo_107 sm_Mo_in rfl (Nat.le_of_ble_eq_true rfl) (Nat.le_of_ble_eq_true rfl) (Nat.le_refl _) (Nat.le_refl _) (Nat.le_of_ble_eq_true rfl) (Mo_in_ok _ _ _ h r) rfl ?_
      rintro rv h r ⟨rfl, rfl, rfl⟩ -
      refine wq_cif_eq (tgt := 68) (q := 57) rfl rfl rfl (fun c54 => ?_) (fun c54 => ?_)
      · skip
        refine wq_iconst (n := 2) (q := 69) rfl rfl rfl ?_
        refine wq_goto (tgt := 88) rfl rfl ?_
        refine Mo_extraA l a b t w _ _ N h r hI hm ?_
        unfold kER
        first
        | (rw [bI_f (fun z => by first | exact c6 z.2 | omega), if_pos rfl]; done)
        | (exfalso; omega)
        | (rw [bI_t ⟨by omega, c6⟩, if_neg (by decide), bI_f (fun z => by first | exact c54 z.1 | exact c65 z.2), if_pos rfl]; done)
        | (rw [bI_t ⟨by omega, c6⟩, if_neg (by decide), bI_t ⟨c54, c65⟩, if_neg (by decide)]; first | exact if_pos (by omega) | exact if_neg (by omega))
      · skip
        refine wq_iload (i := 5) (q := 59) rfl rfl rfl ?_
        refine wq_iconst (n := 1) (q := 60) rfl rfl rfl ?_
        refine wq_bipush (n := 99) (q := 62) rfl rfl rfl ?_
        refine wq_callS (q := 65) (m' := m_Mo_in) (R' := rm 1) (As := [_, _, _]) rfl rfl l_Mo_107 sm_Mo_in rfl (Nat.le_of_ble_eq_true rfl) (Nat.le_of_ble_eq_true rfl) (Nat.le_refl _) (Nat.le_refl _) (Nat.le_of_ble_eq_true rfl) (Mo_in_ok _ _ _ h r) rfl ?_
        rintro rv h r ⟨rfl, rfl, rfl⟩ -
        refine wq_cif_ne (tgt := 72) (q := 68) rfl rfl rfl (fun c65 => ?_) (fun c65 => ?_)
        · skip
          refine wq_aload_n (kk := 0) (q := 73) rfl rfl rfl ?_
          refine wq_getF (q := 76) f_Mo_17 rfl rfl (Nat.le_of_ble_eq_true rfl) rfl rfl rfl ?_
          refine wq_iconst (n := 4) (q := 77) rfl rfl rfl ?_
          refine wq_iald (q := 78) rfl (Or.inl ⟨rfl, Nat.le_of_ble_eq_true rfl⟩) rfl rfl (by first | omega | (simp [hup]; omega)) (by first | omega | (simp [hup]; omega)) ?_
          refine wq_bipush (n := 120) (q := 80) rfl rfl rfl ?_
          refine wq_icmp_ne (tgt := 87) (q := 83) rfl rfl rfl (fun c80 => ?_) (fun c80 => ?_)
          · skip
            refine wq_iconst (n := 0) (q := 88) rfl rfl rfl ?_
            refine Mo_extraA l a b t w _ _ N h r hI hm ?_
            unfold kER
            first
            | (rw [bI_f (fun z => by first | exact c6 z.2 | omega), if_pos rfl]; done)
            | (exfalso; omega)
            | (rw [bI_t ⟨by omega, c6⟩, if_neg (by decide), bI_f (fun z => by first | exact c54 z.1 | exact c65 z.2), if_pos rfl]; done)
            | (rw [bI_t ⟨by omega, c6⟩, if_neg (by decide), bI_t ⟨c54, c65⟩, if_neg (by decide)]; first | exact if_pos (by omega) | exact if_neg (by omega))
          · skip
            refine wq_iconst (n := 3) (q := 84) rfl rfl rfl ?_
            refine wq_goto (tgt := 88) rfl rfl ?_
            refine Mo_extraA l a b t w _ _ N h r hI hm ?_
            unfold kER
            first
            | (rw [bI_f (fun z => by first | exact c6 z.2 | omega), if_pos rfl]; done)
            | (exfalso; omega)
            | (rw [bI_t ⟨by omega, c6⟩, if_neg (by decide), bI_f (fun z => by first | exact c54 z.1 | exact c65 z.2), if_pos rfl]; done)
            | (rw [bI_t ⟨by omega, c6⟩, if_neg (by decide), bI_t ⟨c54, c65⟩, if_neg (by decide)]; first | exact if_pos (by omega) | exact if_neg (by omega))
        · skip
          refine wq_iconst (n := 2) (q := 69) rfl rfl rfl ?_
          refine wq_goto (tgt := 88) rfl rfl ?_
          refine Mo_extraA l a b t w _ _ N h r hI hm ?_
          unfold kER
          first
          | (rw [bI_f (fun z => by first | exact c6 z.2 | omega), if_pos rfl]; done)
          | (exfalso; omega)
          | (rw [bI_t ⟨by omega, c6⟩, if_neg (by decide), bI_f (fun z => by first | exact c54 z.1 | exact c65 z.2), if_pos rfl]; done)
          | (rw [bI_t ⟨by omega, c6⟩, if_neg (by decide), bI_t ⟨c54, c65⟩, if_neg (by decide)]; first | exact if_pos (by omega) | exact if_neg (by omega))
    · skip
      refine wq_iconst (n := 1) (q := 39) rfl rfl rfl ?_
      refine wq_goto (tgt := 88) rfl rfl ?_
      refine Mo_extraA l a b t w _ _ N h r hI hm ?_
      unfold kER
      first
      | (rw [bI_f (fun z => by first | exact c6 z.2 | omega), if_pos rfl]; done)
      | (exfalso; omega)
      | (rw [bI_t ⟨by omega, c6⟩, if_neg (by decide), bI_f (fun z => by first | exact c54 z.1 | exact c65 z.2), if_pos rfl]; done)
      | (rw [bI_t ⟨by omega, c6⟩, if_neg (by decide), bI_t ⟨c54, c65⟩, if_neg (by decide)]; first | exact if_pos (by omega) | exact if_neg (by omega))
  · skip
    refine wq_iload_n (kk := 1) (q := 10) rfl rfl rfl ?_
    refine wq_iconst (n := 0) (q := 11) rfl rfl rfl ?_
    refine wq_aload_n (kk := 0) (q := 12) rfl rfl rfl ?_
    refine wq_getF (q := 15) f_Mo_17 rfl rfl (Nat.le_of_ble_eq_true rfl) rfl rfl rfl ?_
    refine wq_iconst (n := 2) (q := 16) rfl rfl rfl ?_
    refine wq_iald (q := 17) rfl (Or.inl ⟨rfl, Nat.le_of_ble_eq_true rfl⟩) rfl rfl (by first | omega | (simp [hup]; omega)) (by first | omega | (simp [hup]; omega)) ?_
    refine wq_iconst (n := 1) (q := 18) rfl rfl rfl ?_
    refine wq_isub (q := 19) rfl rfl (by first | omega | (simp [hup]; omega)) (by first | omega | (simp [hup]; omega)) ?_
    refine wq_callS (q := 22) (m' := m_Mo_in) (R' := rm 1) (As := [_, _, _]) rfl rfl l_Mo_107 sm_Mo_in rfl (Nat.le_of_ble_eq_true rfl) (Nat.le_of_ble_eq_true rfl) (Nat.le_refl _) (Nat.le_refl _) (Nat.le_of_ble_eq_true rfl) (Mo_in_ok _ _ _ h r) rfl ?_
    rintro rv h r ⟨rfl, rfl, rfl⟩ -
    refine wq_cif_eq (tgt := 29) (q := 25) rfl rfl rfl (fun c22 => ?_) (fun c22 => ?_)
    · skip
      refine wq_iconst (n := 0) (q := 30) rfl rfl rfl ?_
      refine wq_istore (i := 6) (q := 32) rfl rfl (Nat.le_of_ble_eq_true rfl) rfl ?_
      refine wq_aload_n (kk := 0) (q := 33) rfl rfl rfl ?_
      refine wq_iload (i := 6) (q := 35) rfl rfl rfl ?_
      refine wq_if_ne (tgt := 42) (q := 38) rfl rfl rfl (fun c35 => ?_) (fun c35 => ?_)
      · skip
        refine wq_iload (i := 4) (q := 44) rfl rfl rfl ?_
        refine wq_iconst (n := 0) (q := 45) rfl rfl rfl ?_
        refine wq_aload_n (kk := 0) (q := 46) rfl rfl rfl ?_
        refine wq_getF (q := 49) f_Mo_17 rfl rfl (Nat.le_of_ble_eq_true rfl) rfl rfl rfl ?_
        refine wq_iconst (n := 0) (q := 50) rfl rfl rfl ?_
        refine wq_iald (q := 51) rfl (Or.inl ⟨rfl, Nat.le_of_ble_eq_true rfl⟩) rfl rfl (by first | omega | (simp [hup]; omega)) (by first | omega | (simp [hup]; omega)) ?_
        refine wq_callS (q := 54) (m' := m_Mo_in) (R' := rm 1) (As := [_, _, _]) rfl rfl l_Mo_107 sm_Mo_in rfl (Nat.le_of_ble_eq_true rfl) (Nat.le_of_ble_eq_true rfl) (Nat.le_refl _) (Nat.le_refl _) (Nat.le_of_ble_eq_true rfl) (Mo_in_ok _ _ _ h r) rfl ?_
        rintro rv h r ⟨rfl, rfl, rfl⟩ -
        refine wq_cif_eq (tgt := 68) (q := 57) rfl rfl rfl (fun c54 => ?_) (fun c54 => ?_)
        · skip
          refine wq_iconst (n := 2) (q := 69) rfl rfl rfl ?_
          refine wq_goto (tgt := 88) rfl rfl ?_
          refine Mo_extraA l a b t w _ _ N h r hI hm ?_
          unfold kER
          first
          | (rw [bI_f (fun z => by first | exact c6 z.2 | omega), if_pos rfl]; done)
          | (exfalso; omega)
          | (rw [bI_t ⟨by omega, c6⟩, if_neg (by decide), bI_f (fun z => by first | exact c54 z.1 | exact c65 z.2), if_pos rfl]; done)
          | (rw [bI_t ⟨by omega, c6⟩, if_neg (by decide), bI_t ⟨c54, c65⟩, if_neg (by decide)]; first | exact if_pos (by omega) | exact if_neg (by omega))
        · skip
          refine wq_iload (i := 5) (q := 59) rfl rfl rfl ?_
          refine wq_iconst (n := 1) (q := 60) rfl rfl rfl ?_
          refine wq_bipush (n := 99) (q := 62) rfl rfl rfl ?_
          refine wq_callS (q := 65) (m' := m_Mo_in) (R' := rm 1) (As := [_, _, _]) rfl rfl l_Mo_107 sm_Mo_in rfl (Nat.le_of_ble_eq_true rfl) (Nat.le_of_ble_eq_true rfl) (Nat.le_refl _) (Nat.le_refl _) (Nat.le_of_ble_eq_true rfl) (Mo_in_ok _ _ _ h r) rfl ?_
          rintro rv h r ⟨rfl, rfl, rfl⟩ -
          refine wq_cif_ne (tgt := 72) (q := 68) rfl rfl rfl (fun c65 => ?_) (fun c65 => ?_)
          · skip
            refine wq_aload_n (kk := 0) (q := 73) rfl rfl rfl ?_
            refine wq_getF (q := 76) f_Mo_17 rfl rfl (Nat.le_of_ble_eq_true rfl) rfl rfl rfl ?_
            refine wq_iconst (n := 4) (q := 77) rfl rfl rfl ?_
            refine wq_iald (q := 78) rfl (Or.inl ⟨rfl, Nat.le_of_ble_eq_true rfl⟩) rfl rfl (by first | omega | (simp [hup]; omega)) (by first | omega | (simp [hup]; omega)) ?_
            refine wq_bipush (n := 120) (q := 80) rfl rfl rfl ?_
            refine wq_icmp_ne (tgt := 87) (q := 83) rfl rfl rfl (fun c80 => ?_) (fun c80 => ?_)
            · skip
              refine wq_iconst (n := 0) (q := 88) rfl rfl rfl ?_
              refine Mo_extraA l a b t w _ _ N h r hI hm ?_
              unfold kER
              first
              | (rw [bI_f (fun z => by first | exact c6 z.2 | omega), if_pos rfl]; done)
              | (exfalso; omega)
              | (rw [bI_t ⟨by omega, c6⟩, if_neg (by decide), bI_f (fun z => by first | exact c54 z.1 | exact c65 z.2), if_pos rfl]; done)
              | (rw [bI_t ⟨by omega, c6⟩, if_neg (by decide), bI_t ⟨c54, c65⟩, if_neg (by decide)]; first | exact if_pos (by omega) | exact if_neg (by omega))
            · skip
              refine wq_iconst (n := 3) (q := 84) rfl rfl rfl ?_
              refine wq_goto (tgt := 88) rfl rfl ?_
              refine Mo_extraA l a b t w _ _ N h r hI hm ?_
              unfold kER
              first
              | (rw [bI_f (fun z => by first | exact c6 z.2 | omega), if_pos rfl]; done)
              | (exfalso; omega)
              | (rw [bI_t ⟨by omega, c6⟩, if_neg (by decide), bI_f (fun z => by first | exact c54 z.1 | exact c65 z.2), if_pos rfl]; done)
              | (rw [bI_t ⟨by omega, c6⟩, if_neg (by decide), bI_t ⟨c54, c65⟩, if_neg (by decide)]; first | exact if_pos (by omega) | exact if_neg (by omega))
          · skip
            refine wq_iconst (n := 2) (q := 69) rfl rfl rfl ?_
            refine wq_goto (tgt := 88) rfl rfl ?_
            refine Mo_extraA l a b t w _ _ N h r hI hm ?_
            unfold kER
            first
            | (rw [bI_f (fun z => by first | exact c6 z.2 | omega), if_pos rfl]; done)
            | (exfalso; omega)
            | (rw [bI_t ⟨by omega, c6⟩, if_neg (by decide), bI_f (fun z => by first | exact c54 z.1 | exact c65 z.2), if_pos rfl]; done)
            | (rw [bI_t ⟨by omega, c6⟩, if_neg (by decide), bI_t ⟨c54, c65⟩, if_neg (by decide)]; first | exact if_pos (by omega) | exact if_neg (by omega))
      · skip
        refine wq_iconst (n := 1) (q := 39) rfl rfl rfl ?_
        refine wq_goto (tgt := 88) rfl rfl ?_
        refine Mo_extraA l a b t w _ _ N h r hI hm ?_
        unfold kER
        first
        | (rw [bI_f (fun z => by first | exact c6 z.2 | omega), if_pos rfl]; done)
        | (exfalso; omega)
        | (rw [bI_t ⟨by omega, c6⟩, if_neg (by decide), bI_f (fun z => by first | exact c54 z.1 | exact c65 z.2), if_pos rfl]; done)
        | (rw [bI_t ⟨by omega, c6⟩, if_neg (by decide), bI_t ⟨c54, c65⟩, if_neg (by decide)]; first | exact if_pos (by omega) | exact if_neg (by omega))
    · skip
      refine wq_iconst (n := 1) (q := 26) rfl rfl rfl ?_
      refine wq_goto (tgt := 30) rfl rfl ?_
      refine wq_istore (i := 6) (q := 32) rfl rfl (Nat.le_of_ble_eq_true rfl) rfl ?_
      refine wq_aload_n (kk := 0) (q := 33) rfl rfl rfl ?_
      refine wq_iload (i := 6) (q := 35) rfl rfl rfl ?_
      refine wq_if_ne (tgt := 42) (q := 38) rfl rfl rfl (fun c35 => ?_) (fun c35 => ?_)
      · skip
        refine wq_iload (i := 4) (q := 44) rfl rfl rfl ?_
        refine wq_iconst (n := 0) (q := 45) rfl rfl rfl ?_
        refine wq_aload_n (kk := 0) (q := 46) rfl rfl rfl ?_
        refine wq_getF (q := 49) f_Mo_17 rfl rfl (Nat.le_of_ble_eq_true rfl) rfl rfl rfl ?_
        refine wq_iconst (n := 0) (q := 50) rfl rfl rfl ?_
        refine wq_iald (q := 51) rfl (Or.inl ⟨rfl, Nat.le_of_ble_eq_true rfl⟩) rfl rfl (by first | omega | (simp [hup]; omega)) (by first | omega | (simp [hup]; omega)) ?_
        refine wq_callS (q := 54) (m' := m_Mo_in) (R' := rm 1) (As := [_, _, _]) rfl rfl l_Mo_107 sm_Mo_in rfl (Nat.le_of_ble_eq_true rfl) (Nat.le_of_ble_eq_true rfl) (Nat.le_refl _) (Nat.le_refl _) (Nat.le_of_ble_eq_true rfl) (Mo_in_ok _ _ _ h r) rfl ?_
        rintro rv h r ⟨rfl, rfl, rfl⟩ -
        refine wq_cif_eq (tgt := 68) (q := 57) rfl rfl rfl (fun c54 => ?_) (fun c54 => ?_)
        · skip
          refine wq_iconst (n := 2) (q := 69) rfl rfl rfl ?_
          refine wq_goto (tgt := 88) rfl rfl ?_
          refine Mo_extraA l a b t w _ _ N h r hI hm ?_
          unfold kER
          first
          | (rw [bI_f (fun z => by first | exact c6 z.2 | omega), if_pos rfl]; done)
          | (exfalso; omega)
          | (rw [bI_t ⟨by omega, c6⟩, if_neg (by decide), bI_f (fun z => by first | exact c54 z.1 | exact c65 z.2), if_pos rfl]; done)
          | (rw [bI_t ⟨by omega, c6⟩, if_neg (by decide), bI_t ⟨c54, c65⟩, if_neg (by decide)]; first | exact if_pos (by omega) | exact if_neg (by omega))
        · skip
          refine wq_iload (i := 5) (q := 59) rfl rfl rfl ?_
          refine wq_iconst (n := 1) (q := 60) rfl rfl rfl ?_
          refine wq_bipush (n := 99) (q := 62) rfl rfl rfl ?_
          refine wq_callS (q := 65) (m' := m_Mo_in) (R' := rm 1) (As := [_, _, _]) rfl rfl l_Mo_107 sm_Mo_in rfl (Nat.le_of_ble_eq_true rfl) (Nat.le_of_ble_eq_true rfl) (Nat.le_refl _) (Nat.le_refl _) (Nat.le_of_ble_eq_true rfl) (Mo_in_ok _ _ _ h r) rfl ?_
          rintro rv h r ⟨rfl, rfl, rfl⟩ -
          refine wq_cif_ne (tgt := 72) (q := 68) rfl rfl rfl (fun c65 => ?_) (fun c65 => ?_)
          · skip
            refine wq_aload_n (kk := 0) (q := 73) rfl rfl rfl ?_
            refine wq_getF (q := 76) f_Mo_17 rfl rfl (Nat.le_of_ble_eq_true rfl) rfl rfl rfl ?_
            refine wq_iconst (n := 4) (q := 77) rfl rfl rfl ?_
            refine wq_iald (q := 78) rfl (Or.inl ⟨rfl, Nat.le_of_ble_eq_true rfl⟩) rfl rfl (by first | omega | (simp [hup]; omega)) (by first | omega | (simp [hup]; omega)) ?_
            refine wq_bipush (n := 120) (q := 80) rfl rfl rfl ?_
            refine wq_icmp_ne (tgt := 87) (q := 83) rfl rfl rfl (fun c80 => ?_) (fun c80 => ?_)
            · skip
              refine wq_iconst (n := 0) (q := 88) rfl rfl rfl ?_
              refine Mo_extraA l a b t w _ _ N h r hI hm ?_
              unfold kER
              first
              | (rw [bI_f (fun z => by first | exact c6 z.2 | omega), if_pos rfl]; done)
              | (exfalso; omega)
              | (rw [bI_t ⟨by omega, c6⟩, if_neg (by decide), bI_f (fun z => by first | exact c54 z.1 | exact c65 z.2), if_pos rfl]; done)
              | (rw [bI_t ⟨by omega, c6⟩, if_neg (by decide), bI_t ⟨c54, c65⟩, if_neg (by decide)]; first | exact if_pos (by omega) | exact if_neg (by omega))
            · skip
              refine wq_iconst (n := 3) (q := 84) rfl rfl rfl ?_
              refine wq_goto (tgt := 88) rfl rfl ?_
              refine Mo_extraA l a b t w _ _ N h r hI hm ?_
              unfold kER
              first
              | (rw [bI_f (fun z => by first | exact c6 z.2 | omega), if_pos rfl]; done)
              | (exfalso; omega)
              | (rw [bI_t ⟨by omega, c6⟩, if_neg (by decide), bI_f (fun z => by first | exact c54 z.1 | exact c65 z.2), if_pos rfl]; done)
              | (rw [bI_t ⟨by omega, c6⟩, if_neg (by decide), bI_t ⟨c54, c65⟩, if_neg (by decide)]; first | exact if_pos (by omega) | exact if_neg (by omega))
          · skip
            refine wq_iconst (n := 2) (q := 69) rfl rfl rfl ?_
            refine wq_goto (tgt := 88) rfl rfl ?_
            refine Mo_extraA l a b t w _ _ N h r hI hm ?_
            unfold kER
            first
            | (rw [bI_f (fun z => by first | exact c6 z.2 | omega), if_pos rfl]; done)
            | (exfalso; omega)
            | (rw [bI_t ⟨by omega, c6⟩, if_neg (by decide), bI_f (fun z => by first | exact c54 z.1 | exact c65 z.2), if_pos rfl]; done)
            | (rw [bI_t ⟨by omega, c6⟩, if_neg (by decide), bI_t ⟨c54, c65⟩, if_neg (by decide)]; first | exact if_pos (by omega) | exact if_neg (by omega))
      · skip
        refine wq_iconst (n := 1) (q := 39) rfl rfl rfl ?_
        refine wq_goto (tgt := 88) rfl rfl ?_
        refine Mo_extraA l a b t w _ _ N h r hI hm ?_
        unfold kER
        first
        | (rw [bI_f (fun z => by first | exact c6 z.2 | omega), if_pos rfl]; done)
        | (exfalso; omega)
        | (rw [bI_t ⟨by omega, c6⟩, if_neg (by decide), bI_f (fun z => by first | exact c54 z.1 | exact c65 z.2), if_pos rfl]; done)
        | (rw [bI_t ⟨by omega, c6⟩, if_neg (by decide), bI_t ⟨c54, c65⟩, if_neg (by decide)]; first | exact if_pos (by omega) | exact if_neg (by omega))
abbrev unQ (h : mH) (r : mR) : mP := fun rv h1 r1 => r1 = r ∧ (h 64 10 = 0 ∧ rv = some (vI 0) ∧ h1 = x_ref h 1 ∨ 0 < h 64 10 ∧ rv = some (vI 1) ∧ fr [64, 66] h h1 ∧ (∀ k, k ≠ 10 → h1 64 k = x_ref h 0 64 k) ∧ h1 64 10 = h 64 10 - 1 ∧ ∀ x, 0 ≤ x → x < 985 → h1 66 x = h 69 (985 * (h 64 10 - 1) + x))
set_option maxRecDepth 100000 in
set_option maxHeartbeats 1000000 in
theorem Mo_undo0 (h : mH) (r : mR) (hm : h 64 10 = 0) : WP (true, rm 2) m_Mo_undo (rt m_Mo_undo (rm 2) (unQ h r)) 13 [some (vR 64)] [vI 0, vR 64] h r (0, 0) := by
  refine wq_callS (q := 16) (m' := m_Mo_unless) (R' := rm 1) (As := [_]) rfl rfl l_Mo_256 sm_Mo_unless rfl (Nat.le_of_ble_eq_true rfl) (Nat.le_of_ble_eq_true rfl) (Nat.le_refl _) (Nat.le_refl _) (Nat.le_of_ble_eq_true rfl) (Mo_unless_ok _ h r) rfl ?_
  rintro rv h r ⟨rfl, rfl, rfl⟩ -
  rw [show (if (0 : Int) = 0 then (1 : Int) else 0) = 1 from rfl]
  refine wq_callV (q := 19) (m' := m_Mo_isRefused) (R' := rm 1) (As := [_]) rfl rfl l_Mo_228 vm_Mo_isRefused rfl rfl rfl (Or.inl ⟨rfl, Nat.le_of_ble_eq_true rfl⟩) (Nat.le_of_ble_eq_true rfl) (Nat.le_of_ble_eq_true rfl) (Nat.le_refl _) (Nat.le_refl _) (Nat.le_of_ble_eq_true rfl) (Mo_isRefused_ok _ h r) rfl ?_
  rintro rv h1 r ⟨rfl, rfl, rfl⟩ -
  refine wq_cif_eq (tgt := 24) (q := 22) rfl rfl rfl (fun c19 => ?_) (fun c19 => ?_)
  · skip
    exact absurd (by decide) c19
  · skip
    refine wq_iconst (n := 0) (q := 23) rfl rfl rfl ?_
    exact wq_zret rfl rfl (Nat.le_refl _) (Nat.le_refl _) (by omega) ⟨rfl, Or.inl ⟨hm, rfl, rfl⟩⟩
set_option maxRecDepth 100000 in
set_option maxHeartbeats 1000000 in
theorem Mo_undo1 (h : mH) (r : mR) (hm : 0 < h 64 10 ∧ h 64 10 ≤ 10) : WP (true, rm 2) m_Mo_undo (rt m_Mo_undo (rm 2) (unQ h r)) 13 [some (vR 64)] [vI 1, vR 64] h r (0, 0) := by
  have e10 : x_ref h 0 64 10 = h 64 10 := x_ref_k (by omega)
  refine wq_callS (q := 16) (m' := m_Mo_unless) (R' := rm 1) (As := [_]) rfl rfl l_Mo_256 sm_Mo_unless rfl (Nat.le_of_ble_eq_true rfl) (Nat.le_of_ble_eq_true rfl) (Nat.le_refl _) (Nat.le_refl _) (Nat.le_of_ble_eq_true rfl) (Mo_unless_ok _ h r) rfl ?_
  rintro rv h r ⟨rfl, rfl, rfl⟩ -
  rw [show (if (1 : Int) = 0 then (1 : Int) else 0) = 0 from rfl]
  refine wq_callV (q := 19) (m' := m_Mo_isRefused) (R' := rm 1) (As := [_]) rfl rfl l_Mo_228 vm_Mo_isRefused rfl rfl rfl (Or.inl ⟨rfl, Nat.le_of_ble_eq_true rfl⟩) (Nat.le_of_ble_eq_true rfl) (Nat.le_of_ble_eq_true rfl) (Nat.le_refl _) (Nat.le_refl _) (Nat.le_of_ble_eq_true rfl) (Mo_isRefused_ok _ h r) rfl ?_
  rintro rv h1 r ⟨rfl, rfl, rfl⟩ -
  refine wq_cif_eq (tgt := 24) (q := 22) rfl rfl rfl (fun c19 => ?_) (fun c19 => ?_)
  · skip
    refine wq_aload_n (kk := 0) (q := 25) rfl rfl rfl ?_
    refine wq_dup (q := 26) rfl rfl rfl ?_
    refine wq_getI (kz := 10) (q := 29) rfl f_Mo_247 rfl rfl (Or.inl ⟨rfl, Nat.le_of_ble_eq_true rfl⟩) rfl rfl ?_
    refine wq_iconst (n := 1) (q := 30) rfl rfl rfl ?_
    refine wq_isub (q := 31) rfl rfl (by first | omega | (simp [hup]; omega)) (by first | omega | (simp [hup]; omega)) ?_
    refine wq_putI (kz := 10) (q := 34) rfl f_Mo_247 rfl rfl rfl (Or.inl ⟨rfl, Nat.le_of_ble_eq_true rfl⟩) rfl rfl ?_
    rw [e10]
    refine wq_aload_n (kk := 0) (q := 35) rfl rfl rfl ?_
    refine wq_getF (q := 38) f_Mo_26 rfl rfl (Nat.le_of_ble_eq_true rfl) rfl rfl rfl ?_
    refine wq_sipush (n := 985) (q := 41) rfl rfl rfl ?_
    refine wq_aload_n (kk := 0) (q := 42) rfl rfl rfl ?_
    refine wq_getI (kz := 10) (q := 45) rfl f_Mo_247 rfl rfl (Or.inl ⟨rfl, Nat.le_of_ble_eq_true rfl⟩) rfl rfl ?_
    rw [hup_s]
    refine wq_imul (q := 46) rfl rfl (by first | omega | (simp [hup]; omega)) (by first | omega | (simp [hup]; omega)) ?_
    refine wq_aload_n (kk := 0) (q := 47) rfl rfl rfl ?_
    refine wq_getF (q := 50) f_Mo_17 rfl rfl (Nat.le_of_ble_eq_true rfl) rfl rfl rfl ?_
    refine wq_iconst (n := 0) (q := 51) rfl rfl rfl ?_
    refine wq_callS (q := 54) (m' := m_Mo_copies) (R' := rm 1) (As := [_, _, _, _]) rfl rfl l_Mo_240 sm_Mo_copies rfl (Nat.le_of_ble_eq_true rfl) (Nat.le_of_ble_eq_true rfl) (Nat.le_refl _) (Nat.le_refl _) (Nat.le_of_ble_eq_true rfl) (Mo_copies_ok 69 _ 66 0 (by unfold cpP; omega) _ r) rfl ?_
    rintro rv h2 r ⟨rfl, rfl, hc⟩ -
    refine wq_iconst (n := 1) (q := 55) rfl rfl rfl ?_
    refine wq_zret rfl rfl (Nat.le_refl _) (Nat.le_refl _) (by omega) ⟨rfl, Or.inr ⟨by omega, rfl, (((((fr.rf (S := [64, 66]) (h := h)).up (by decide)).up (by decide)).up (by decide)).up (by decide)).trans hc.1 (by decide), fun k hk => ?_, ?_, fun x x0 x1 => ?_⟩⟩
    · rw [hc.1.at 64 k (by decide), hup_j hk]
    · rw [hc.1.at 64 10 (by decide), hup_s]
    · have := hc.2.1 x x0 x1
      rw [show (0 : Int) + x = x by omega] at this
      rw [this, hup_i (by decide), x_ref_c (by decide)]
  · skip
    refine wq_iconst (n := 0) (q := 23) rfl rfl rfl ?_
    exact absurd rfl c19
set_option maxRecDepth 100000 in
set_option maxHeartbeats 1000000 in
theorem Mo_undo_ok (h : mH) (r : mR) (hm : 0 ≤ h 64 10 ∧ h 64 10 ≤ 10) : Meets true (rm 2) m_Mo_undo [vR 64] h r (unQ h r) := by
  refine ⟨ok_Mo_undo, Nat.le_of_ble_eq_true rfl, ?_⟩
  refine wq_aload_n (kk := 0) (q := 1) rfl rfl rfl ?_
  refine wq_aload_n (kk := 0) (q := 2) rfl rfl rfl ?_
  refine wq_getI (kz := 10) (q := 5) rfl f_Mo_247 rfl rfl (Or.inl ⟨rfl, Nat.le_of_ble_eq_true rfl⟩) rfl rfl ?_
  refine wq_if_le (tgt := 12) (q := 8) rfl rfl rfl (fun c5 => ?_) (fun c5 => ?_)
  · skip
    refine wq_iconst (n := 0) (q := 13) rfl rfl rfl ?_
    first
    | exact Mo_undo0 h r (by omega)
    | exact Mo_undo1 h r (by omega)
  · skip
    refine wq_iconst (n := 1) (q := 9) rfl rfl rfl ?_
    refine wq_goto (tgt := 13) rfl rfl ?_
    first
    | exact Mo_undo0 h r (by omega)
    | exact Mo_undo1 h r (by omega)
/-- a spot that nothing leaves and where nothing comes -/
def qt (N : mN) (s : Int) : Bool := (cn (fun d => (rn N d == 1) && (frm N d == s)) (nN N).toNat == 0) && (cn (fun d => (rn N d == 1) && (dst N d == s)) (nN N).toNat == 0)
/-- the i-th such spot; none -/
def Stl (N : mN) (i v w : Int) : Prop := (∃ s, (0 ≤ s ∧ s < nS N) ∧ qt N s = true ∧ cn (qt N) s.toNat = i ∧ v = s ∧ w = 0) ∨ ((∀ s, 0 ≤ s → s < nS N → qt N s = true → cn (qt N) s.toNat ≠ i) ∧ w = 1)
theorem cn_lt1 {p : Int → Bool} {a b : Int} (a0 : 0 ≤ a) (hab : a < b) (hp : p a = true) : cn p a.toNat < cn p b.toNat := by
  have : ∀ k : Nat, cn p a.toNat + 1 ≤ cn p (a.toNat + 1 + k) := by
    intro k
    induction k with
    | zero =>
      show cn p a.toNat + 1 ≤ cn p a.toNat + (if p (a.toNat : Int) then 1 else 0)
      rw [show ((a.toNat : Nat) : Int) = a by omega, hp]
      simp
    | succ k ih =>
      show _ ≤ cn p (a.toNat + 1 + k) + (if p ((a.toNat + 1 + k : Nat) : Int) then 1 else 0)
      split <;> omega
  have h := this (b - a - 1).toNat
  rw [show a.toNat + 1 + (b - a - 1).toNat = b.toNat by omega] at h
  omega
theorem Stl.uniq {N : mN} {i v w v' w' : Int} (h : Stl N i v w) (h' : Stl N i v' w') : w = w' ∧ (w = 0 → v = v') := by
  rcases h with ⟨s, s1, s2, s3, s4, s5⟩ | ⟨a, b⟩ <;> rcases h' with ⟨s', t1, t2, t3, t4, t5⟩ | ⟨a', b'⟩
  · refine ⟨by omega, fun _ => ?_⟩
    rcases (show s < s' ∨ s = s' ∨ s' < s by omega) with z | z | z
    · have := cn_lt1 s1.1 z s2; omega
    · omega
    · have := cn_lt1 t1.1 z t2; omega
  · exact absurd s3 (a' s s1.1 s1.2 s2)
  · exact absurd t3 (a s' t1.1 t1.2 t2)
  · exact ⟨by omega, fun z => by omega⟩
set_option maxRecDepth 100000 in
set_option maxHeartbeats 1000000 in
theorem Mo_stillL (N : mN) (i : Int) (h : mH) (r : mR) (hI : mI h N) (h1 : mH) (e1 : h1 = hup h 64 0 0) : ∀ (M : Nat) (s c : Int), (nS N - s).toNat = M → 0 ≤ s → s ≤ nS N → c = cn (qt N) s.toNat → (∀ x, 0 ≤ x → x < s → qt N x = true → cn (qt N) x.toNat ≠ i) → WP (true, rm 4) m_Mo_still (rt m_Mo_still (rm 4) (fun rv h2 r2 => r2 = r ∧ ∃ v w, rv = some (vI v) ∧ Stl N i v w ∧ h2 = hup h 64 0 w)) 9 [some (vR 64), some (vI i), some (vI c), some (vI s)] [] h1 r (0, 0) := by
  intro M
  induction M using Nat.strongRecOn with
  | ind M ih =>
    intro s c hN s0 s1 hc hp
    have hM1 : isM h1 N := isM_f hI.1 (S := [64]) (by rw [e1]; exact fr.rf.up (by decide)) (by decide)
    have hS := hM1.1.2.1
    have hn := hM1.1.1
    have e66 := hM1.2.2.1
    have e11 : h1 64 11 = h 64 11 := by rw [e1, hup_j (by decide)]
    have hT := hI.2
    have cb := cn_b (qt N) s.toNat
    have c1 := cn_b (fun d => (rn N d == 1) && (frm N d == s)) (nN N).toNat
    have c2 := cn_b (fun d => (rn N d == 1) && (dst N d == s)) (nN N).toNat
    have hq : qt N s = true ↔ cn (fun d => (rn N d == 1) && (frm N d == s)) (nN N).toNat + cn (fun d => (rn N d == 1) && (dst N d == s)) (nN N).toNat = 0 := by
      unfold qt
      simp only [Bool.and_eq_true, beq_iff_eq]
      omega
    refine wq_aload_n (kk := 0) (q := 10) rfl rfl rfl ?_
    refine wq_getI (kz := 11) (q := 13) rfl f_Mo_244 rfl rfl (Or.inl ⟨rfl, Nat.le_of_ble_eq_true rfl⟩) rfl rfl ?_
    refine wq_if_eq (tgt := 58) (q := 16) rfl rfl rfl (fun c13 => ?_) (fun c13 => ?_)
    · skip
      refine wq_aload_n (kk := 0) (q := 59) rfl rfl rfl ?_
      refine wq_iconst (n := 1) (q := 60) rfl rfl rfl ?_
      refine wq_putI (kz := 0) (q := 63) rfl f_Mo_78 rfl rfl rfl (Or.inl ⟨rfl, Nat.le_of_ble_eq_true rfl⟩) rfl rfl ?_
      refine wq_iconst (n := 0) (q := 64) rfl rfl rfl ?_
      refine wq_iret rfl rfl (Nat.le_refl _) (Nat.le_refl _) ⟨rfl, 0, 1, rfl, Or.inr ⟨fun x x0 x1 x2 => hp x x0 (by omega) x2, rfl⟩, ?_⟩
      rw [e1]
      funext c j
      unfold hup
      split <;> rfl
    · skip
      refine wq_iload_n (kk := 3) (q := 17) rfl rfl rfl ?_
      refine wq_aload_n (kk := 0) (q := 18) rfl rfl rfl ?_
      refine wq_getF (q := 21) f_Mo_17 rfl rfl (Nat.le_of_ble_eq_true rfl) rfl rfl rfl ?_
      refine wq_iconst (n := 1) (q := 22) rfl rfl rfl ?_
      refine wq_iald (q := 23) rfl (Or.inl ⟨rfl, Nat.le_of_ble_eq_true rfl⟩) rfl rfl (by first | omega | (simp [hup]; omega)) (by first | omega | (simp [hup]; omega)) ?_
      refine wq_icmp_ge (tgt := 58) (q := 26) rfl rfl rfl (fun c23 => ?_) (fun c23 => ?_)
      · skip
        refine wq_aload_n (kk := 0) (q := 59) rfl rfl rfl ?_
        refine wq_iconst (n := 1) (q := 60) rfl rfl rfl ?_
        refine wq_putI (kz := 0) (q := 63) rfl f_Mo_78 rfl rfl rfl (Or.inl ⟨rfl, Nat.le_of_ble_eq_true rfl⟩) rfl rfl ?_
        refine wq_iconst (n := 0) (q := 64) rfl rfl rfl ?_
        refine wq_iret rfl rfl (Nat.le_refl _) (Nat.le_refl _) ⟨rfl, 0, 1, rfl, Or.inr ⟨fun x x0 x1 x2 => hp x x0 (by omega) x2, rfl⟩, ?_⟩
        rw [e1]
        funext c j
        unfold hup
        split <;> rfl
      · skip
        refine wq_aload_n (kk := 0) (q := 27) rfl rfl rfl ?_
        refine wq_iload_n (kk := 3) (q := 28) rfl rfl rfl ?_
        refine wq_iconst (n := 1) (q := 29) rfl rfl rfl ?_
        refine wq_callV (q := 32) (m' := m_Mo_runsBy) (R' := rm 3) (As := [_, _]) rfl rfl l_Mo_266 vm_Mo_runsBy rfl rfl rfl (Or.inl ⟨rfl, Nat.le_of_ble_eq_true rfl⟩) (Nat.le_of_ble_eq_true rfl) (Nat.le_of_ble_eq_true rfl) (Nat.le_refl _) (Nat.le_refl _) (Nat.le_of_ble_eq_true rfl) (Mo_runsBy_ok N s 1 (frm N) (Or.inl ⟨rfl, rfl⟩) h1 r hM1) rfl ?_
        rintro rv h1 r ⟨rfl, rfl, rfl⟩ -
        refine wq_aload_n (kk := 0) (q := 33) rfl rfl rfl ?_
        refine wq_iload_n (kk := 3) (q := 34) rfl rfl rfl ?_
        refine wq_iconst (n := 2) (q := 35) rfl rfl rfl ?_
        refine wq_callV (q := 38) (m' := m_Mo_runsBy) (R' := rm 3) (As := [_, _]) rfl rfl l_Mo_266 vm_Mo_runsBy rfl rfl rfl (Or.inl ⟨rfl, Nat.le_of_ble_eq_true rfl⟩) (Nat.le_of_ble_eq_true rfl) (Nat.le_of_ble_eq_true rfl) (Nat.le_refl _) (Nat.le_refl _) (Nat.le_of_ble_eq_true rfl) (Mo_runsBy_ok N s 2 (dst N) (Or.inr ⟨rfl, rfl⟩) h1 r hM1) rfl ?_
        rintro rv h1 r ⟨rfl, rfl, rfl⟩ -
        refine wq_iadd (q := 39) rfl rfl (by first | omega | (simp [hup]; omega)) (by first | omega | (simp [hup]; omega)) ?_
        refine wq_if_ne (tgt := 52) (q := 42) rfl rfl rfl (fun c39 => ?_) (fun c39 => ?_)
        · skip
          refine wq_iinc (i := 3) (n := 1) (q := 55) rfl rfl rfl (Nat.le_of_ble_eq_true rfl) rfl (by first | omega | (simp [hup]; omega)) (by first | omega | (simp [hup]; omega)) ?_
          refine wq_goto (tgt := 9) rfl rfl ?_
          refine ih _ (by omega) (s + 1) _ rfl (by omega) (by omega) ?_ (fun x x0 x1 x2 => ?_)
          · rw [cn_s s0, hc]
            split
            · rename_i z; first | omega | (exfalso; have := hq.1 z; omega)
            · rename_i z; first | omega | (exfalso; exact z (hq.2 c39))
          · by_cases e : x = s
            · subst e
              first
              | (have := hq.1 x2; exfalso; omega)
              | omega
            · exact hp x x0 (by omega) x2
        · skip
          refine wq_iload_n (kk := 2) (q := 43) rfl rfl rfl ?_
          refine wq_iload_n (kk := 1) (q := 44) rfl rfl rfl ?_
          refine wq_icmp_ne (tgt := 49) (q := 47) rfl rfl rfl (fun c44 => ?_) (fun c44 => ?_)
          · skip
            refine wq_iinc (i := 2) (n := 1) (q := 52) rfl rfl rfl (Nat.le_of_ble_eq_true rfl) rfl (by first | omega | (simp [hup]; omega)) (by first | omega | (simp [hup]; omega)) ?_
            refine wq_iinc (i := 3) (n := 1) (q := 55) rfl rfl rfl (Nat.le_of_ble_eq_true rfl) rfl (by first | omega | (simp [hup]; omega)) (by first | omega | (simp [hup]; omega)) ?_
            refine wq_goto (tgt := 9) rfl rfl ?_
            refine ih _ (by omega) (s + 1) _ rfl (by omega) (by omega) ?_ (fun x x0 x1 x2 => ?_)
            · rw [cn_s s0, hc]
              split
              · rename_i z; first | omega | (exfalso; have := hq.1 z; omega)
              · rename_i z; first | omega | (exfalso; exact z (hq.2 c39))
            · by_cases e : x = s
              · subst e
                first
                | (have := hq.1 x2; exfalso; omega)
                | omega
              · exact hp x x0 (by omega) x2
          · skip
            refine wq_iload_n (kk := 3) (q := 48) rfl rfl rfl ?_
            exact wq_iret rfl rfl (Nat.le_refl _) (Nat.le_refl _) ⟨rfl, s, 0, rfl, Or.inl ⟨s, ⟨s0, by omega⟩, hq.2 c39, by omega, rfl, rfl⟩, e1⟩
set_option maxRecDepth 100000 in
theorem Mo_still_ok (N : mN) (i : Int) (h : mH) (r : mR) (hI : mI h N) : Meets true (rm 4) m_Mo_still [vR 64, vI i] h r (fun rv h2 r2 => r2 = r ∧ ∃ v w, rv = some (vI v) ∧ Stl N i v w ∧ h2 = hup h 64 0 w) := by
  have hS := hI.1.1.2.1
  refine ⟨ok_Mo_still, Nat.le_of_ble_eq_true rfl, ?_⟩
  refine wq_aload_n (kk := 0) (q := 1) rfl rfl rfl ?_
  refine wq_iconst (n := 0) (q := 2) rfl rfl rfl ?_
  refine wq_putI (kz := 0) (q := 5) rfl f_Mo_78 rfl rfl rfl (Or.inl ⟨rfl, Nat.le_of_ble_eq_true rfl⟩) rfl rfl ?_
  refine wq_iconst (n := 0) (q := 6) rfl rfl rfl ?_
  refine wq_istore_n (kk := 2) (q := 7) rfl rfl (Nat.le_of_ble_eq_true rfl) rfl ?_
  refine wq_iconst (n := 0) (q := 8) rfl rfl rfl ?_
  refine wq_istore_n (kk := 3) (q := 9) rfl rfl (Nat.le_of_ble_eq_true rfl) rfl ?_
  exact Mo_stillL N i h r hI _ rfl _ 0 0 rfl (by omega) (by omega) rfl (fun x x0 x1 => by omega)

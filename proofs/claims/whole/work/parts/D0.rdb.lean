/-! LinkTimesModel: reading from the start -/
set_option maxRecDepth 100000 in
set_option maxHeartbeats 2000000 in
theorem Mo_readZ (T : mF) (n : Int) (h : mH) (r : mR) (h0 : mH) (F0 : f64 raF rrC h h0) (hS0 : rdR T n 0 h0) (e14 : h0 64 14 = 0) (e19 : h0 64 19 = 0) : ∀ (M : Nat) (k : Int) (h1 : mH), (5 - k).toNat = M → 1 ≤ k → k ≤ 5 → f64 [] [67] h0 h1 → (∀ j, 1 ≤ j → j < k → h1 67 j = 0) → WP (true, rm 11) m_Mo_readAll (rt m_Mo_readAll (rm 11) (raR T n (pRd T n) h r)) 17 [some (vR 64), some (vI n), some (vI k)] [] h1 r (0, 0) := by
  intro M
  induction M using Nat.strongRecOn with
  | ind M ih =>
    intro k h1 hM' k0 k1 hf hj
    refine wq_iload_n (kk := 2) (q := 18) rfl rfl rfl ?_
    refine wq_iconst (n := 4) (q := 19) rfl rfl rfl ?_
    refine wq_icmp_gt (tgt := 35) (q := 22) rfl rfl rfl (fun c19 => ?_) (fun c19 => ?_)
    · skip
      have hS := rdR_f hS0 hf (by decide) (by decide)
      have hM : mrR T n h1 st0 := by
        refine mrR_i (R := fun _ => 0) ?_ ⟨fun z => absurd z (by decide), fun j z => ?_⟩ (fun s s0 s1 => by omega) (fun s s0 s1 => by omega)
        · rw [hf.2 19 (by decide), e19, bI_f (by decide)]
        · have z' : (1 ≤ j ∧ j ≤ 4) ∨ (5 ≤ j ∧ j < 5 + 0) ∨ (15 ≤ j ∧ j < 15 + 0) ∨ (25 ≤ j ∧ j < 25 + 8 * 0) := z
          exact hj j (by omega) (by omega)
      refine wq_aload_n (kk := 0) (q := 36) rfl rfl rfl ?_
      refine wq_callV (q := 39) (m' := m_Mo_goesOn) (R' := rm 2) (As := []) rfl rfl l_Mo_134 vm_Mo_goesOn rfl rfl rfl (Or.inl ⟨rfl, Nat.le_of_ble_eq_true rfl⟩) (Nat.le_of_ble_eq_true rfl) (Nat.le_of_ble_eq_true rfl) (Nat.le_refl _) (Nat.le_refl _) (Nat.le_of_ble_eq_true rfl) (Mo_goesOn_ok T n 0 h1 r hS (by rw [hf.2 14 (by decide)]; exact e14)) rfl ?_
      rintro rv h2 r ⟨rfl, rfl, f2, y2⟩ -
      have s2 := rdR_f hS f2 (by decide) (by decide)
      have m2 := mrR_f hM f2 (by decide) (by decide) (by decide) (by decide)
      refine wq_aload_n (kk := 0) (q := 40) rfl rfl rfl ?_
      refine wq_callV (q := 43) (m' := m_Mo_readLine) (R' := rm 10) (As := []) rfl rfl l_Mo_225 vm_Mo_readLine rfl rfl rfl (Or.inl ⟨rfl, Nat.le_of_ble_eq_true rfl⟩) (Nat.le_of_ble_eq_true rfl) (Nat.le_of_ble_eq_true rfl) (Nat.le_refl _) (Nat.le_refl _) (Nat.le_of_ble_eq_true rfl) (Mo_readLine_ok T n 0 st0 h2 r s2 y2 m2 st0_V) rfl ?_
      rintro rv h3 r ⟨rfl, f3, rfl, a3, b3⟩ -
      have g3 : f64 raF rrC h h3 := ((F0.tr hf (by decide) (by decide)).tr f2 (by decide) (by decide)).tr f3 (by decide) (by decide)
      refine wq_cif_ne (tgt := 48) (q := 46) rfl rfl rfl (fun c43 => ?_) (fun c43 => ?_)
      · skip
        obtain ⟨y4, m4⟩ := a3 c43
        obtain ⟨v1, v2, v3⟩ := pL_V s2.2.2.2.1 s2.2.2.2.2 st0_V c43
        have s4 : rdR T n (pL T n 0 st0).2.2.1 h3 := by
          have w := rdR_f s2 f3 (by decide) (by decide)
          exact ⟨w.1, w.2.1, w.2.2.1, by omega, v3⟩
        exact Mo_readL T n (pRd T n) h r _ n.toNat _ _ st0 h3 (by omega) (pAll_y c43) g3 s4 y4 m4 v1
      · skip
        refine wq_iconst (n := 0) (q := 47) rfl rfl rfl ?_
        obtain ⟨a, b⟩ := b3 c43
        exact wq_zret rfl rfl (Nat.le_refl _) (Nat.le_refl _) (by omega) (raR.n (z := pRd T n) (pAll_n c43) c43 g3 a b)
    · skip
      refine wq_aload_n (kk := 0) (q := 23) rfl rfl rfl ?_
      refine wq_getF (q := 26) f_Mo_20 rfl rfl (Nat.le_of_ble_eq_true rfl) rfl rfl rfl ?_
      refine wq_iload_n (kk := 2) (q := 27) rfl rfl rfl ?_
      refine wq_iconst (n := 0) (q := 28) rfl rfl rfl ?_
      refine wq_iast (q := 29) rfl (Or.inl ⟨rfl, Nat.le_of_ble_eq_true rfl⟩) rfl rfl (by first | omega | (simp [hup]; omega)) (by first | omega | (simp [hup]; omega)) ?_
      refine wq_iinc (i := 2) (n := 1) (q := 32) rfl rfl rfl (Nat.le_of_ble_eq_true rfl) rfl (by first | omega | (simp [hup]; omega)) (by first | omega | (simp [hup]; omega)) ?_
      refine wq_goto (tgt := 17) rfl rfl ?_
      refine ih _ (by omega) (k + 1) _ rfl (by omega) (by omega) (hf.uc (by decide) (by decide)) (fun j j0 j1 => ?_)
      by_cases e : j = k
      · subst e; rw [hup_s]
      · rw [hup_j e]; exact hj j j0 (by omega)
set_option maxRecDepth 100000 in
theorem Mo_readAll_ok (T : mF) (n : Int) (h : mH) (r : mR) (n0 : 0 ≤ n ∧ n ≤ 900) (hT : ∀ j, 0 ≤ j → j < n → 0 ≤ h 65 j ∧ bq (T j) (h 65 j)) : Meets true (rm 11) m_Mo_readAll [vR 64, vI n] h r (raR T n (pRd T n) h r) := by
  refine ⟨ok_Mo_readAll, Nat.le_of_ble_eq_true rfl, ?_⟩
  refine wq_aload_n (kk := 0) (q := 1) rfl rfl rfl ?_
  refine wq_iload_n (kk := 1) (q := 2) rfl rfl rfl ?_
  refine wq_putI (kz := 12) (q := 5) rfl f_Mo_91 rfl rfl rfl (Or.inl ⟨rfl, Nat.le_of_ble_eq_true rfl⟩) rfl rfl ?_
  refine wq_aload_n (kk := 0) (q := 6) rfl rfl rfl ?_
  refine wq_iconst (n := 0) (q := 7) rfl rfl rfl ?_
  refine wq_putI (kz := 14) (q := 10) rfl f_Mo_94 rfl rfl rfl (Or.inl ⟨rfl, Nat.le_of_ble_eq_true rfl⟩) rfl rfl ?_
  refine wq_aload_n (kk := 0) (q := 11) rfl rfl rfl ?_
  refine wq_iconst (n := 0) (q := 12) rfl rfl rfl ?_
  refine wq_putZ (kz := 19) (q := 15) rfl f_Mo_166 rfl rfl rfl (Or.inl ⟨rfl, Nat.le_of_ble_eq_true rfl⟩) rfl rfl (by omega) ?_
  refine wq_iconst (n := 1) (q := 16) rfl rfl rfl ?_
  refine wq_istore_n (kk := 2) (q := 17) rfl rfl (Nat.le_of_ble_eq_true rfl) rfl ?_
  have F0 : f64 raF rrC h (hup (hup (hup h 64 12 n) 64 14 0) 64 19 0) := ((f64.rf.up (by decide) (by decide)).up (by decide) (by decide)).up (by decide) (by decide)
  refine Mo_readZ T n h r _ F0 ⟨fun j j0 j1 => ?_, ?_, n0.2, by omega, n0.1⟩ ?_ hup_s _ 1 _ rfl (by omega) (by omega) f64.rf (fun j j0 j1 => by omega)
  · rw [F0.1 65 (by decide)]; exact hT j j0 j1
  · rw [hup_j (by decide), hup_j (by decide), hup_s]
  · rw [hup_j (by decide), hup_s]

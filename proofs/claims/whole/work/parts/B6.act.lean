/-! LinkTimesModel: acts, undo -/
/-- the row is kept; s is 1 if the oldest went -/
def kpd (h h1 : mH) : Prop := ∃ s : Int, (s = 0 ∧ h 64 10 < 10 ∨ s = 1 ∧ h 64 10 = 10) ∧ fr [64, 69] h h1 ∧ (∀ k, k ≠ 10 → h1 64 k = h 64 k) ∧ h1 64 10 = h 64 10 + 1 - s ∧ (∀ j x, 0 ≤ j → j < h 64 10 - s → 0 ≤ x → x < 985 → h1 69 (985 * j + x) = h 69 (985 * (j + s) + x)) ∧ ∀ x, 0 ≤ x → x < 985 → h1 69 (985 * (h 64 10 - s) + x) = h 66 x
theorem kpd.f {h h1 : mH} (hk : kpd h h1) : fr [64, 69] h h1 ∧ ∀ k, k ≠ 10 → h1 64 k = h 64 k := by
  obtain ⟨s, -, a, b, -⟩ := hk
  exact ⟨a, b⟩
set_option maxRecDepth 100000 in
set_option maxHeartbeats 1000000 in
theorem Mo_keepsB (m : Int) (h h0 : mH) (r : mR) (s : Int) (hs : s = 0 ∧ h 64 10 < 10 ∨ s = 1 ∧ h 64 10 = 10) (hm : 0 ≤ h 64 10) (em : h0 64 10 = h 64 10 - s) (hf : fr [64, 69] h h0) (ho : ∀ k, k ≠ 10 → h0 64 k = h 64 k) (hx : ∀ j x, 0 ≤ j → j < h 64 10 - s → 0 ≤ x → x < 985 → h0 69 (985 * j + x) = h 69 (985 * (j + s) + x)) (x1 : Option mV) : WP (true, rm 2) m_Mo_keeps (rt m_Mo_keeps (rm 2) (fun rv h1 r1 => rv = none ∧ r1 = r ∧ kpd h h1)) 50 [some (vR 64), x1] [] h0 r (0, 0) := by
  refine wq_aload_n (kk := 0) (q := 51) rfl rfl rfl ?_
  refine wq_getF (q := 54) f_Mo_17 rfl rfl (Nat.le_of_ble_eq_true rfl) rfl rfl rfl ?_
  refine wq_iconst (n := 0) (q := 55) rfl rfl rfl ?_
  refine wq_aload_n (kk := 0) (q := 56) rfl rfl rfl ?_
  refine wq_getF (q := 59) f_Mo_26 rfl rfl (Nat.le_of_ble_eq_true rfl) rfl rfl rfl ?_
  refine wq_sipush (n := 985) (q := 62) rfl rfl rfl ?_
  refine wq_aload_n (kk := 0) (q := 63) rfl rfl rfl ?_
  refine wq_getI (kz := 10) (q := 66) rfl f_Mo_247 rfl rfl (Or.inl ⟨rfl, Nat.le_of_ble_eq_true rfl⟩) rfl rfl ?_
  refine wq_imul (q := 67) rfl rfl (by first | omega | (simp [hup]; omega)) (by first | omega | (simp [hup]; omega)) ?_
  refine wq_callS (q := 70) (m' := m_Mo_copies) (R' := rm 1) (As := [_, _, _, _]) rfl rfl l_Mo_240 sm_Mo_copies rfl (Nat.le_of_ble_eq_true rfl) (Nat.le_of_ble_eq_true rfl) (Nat.le_refl _) (Nat.le_refl _) (Nat.le_of_ble_eq_true rfl) (Mo_copies_ok 66 0 69 _ (by unfold cpP; omega) h0 r) rfl ?_
  rintro rv h1 r ⟨rfl, rfl, hc⟩ -
  have e10 : h1 64 10 = h0 64 10 := hc.1.at 64 10 (by decide)
  refine wq_aload_n (kk := 0) (q := 71) rfl rfl rfl ?_
  refine wq_dup (q := 72) rfl rfl rfl ?_
  refine wq_getI (kz := 10) (q := 75) rfl f_Mo_247 rfl rfl (Or.inl ⟨rfl, Nat.le_of_ble_eq_true rfl⟩) rfl rfl ?_
  refine wq_iconst (n := 1) (q := 76) rfl rfl rfl ?_
  refine wq_iadd (q := 77) rfl rfl (by first | omega | (simp [hup]; omega)) (by first | omega | (simp [hup]; omega)) ?_
  refine wq_putI (kz := 10) (q := 80) rfl f_Mo_247 rfl rfl rfl (Or.inl ⟨rfl, Nat.le_of_ble_eq_true rfl⟩) rfl rfl ?_
  refine wq_vret rfl rfl (Nat.le_refl _) (Nat.le_refl _) ⟨rfl, rfl, s, hs, (hf.trans hc.1 (by decide)).up (by decide), fun k hk => ?_, ?_, fun j x j0 j1 x0 x1 => ?_, fun x x0 x1 => ?_⟩
  · rw [hup_j hk, hc.1.at 64 k (by decide)]; exact ho k hk
  · rw [hup_s]; omega
  · rw [hup_i (by decide), hc.2.2 _ (by omega)]
    exact hx j x j0 j1 x0 x1
  · rw [hup_i (by decide)]
    have := hc.2.1 x x0 x1
    rw [em] at this
    rw [this, hf.at 66 _ (by decide)]
    congr 1
    omega
set_option maxRecDepth 100000 in
set_option maxHeartbeats 1000000 in
theorem Mo_keepsL (h : mH) (r : mR) (hm : h 64 10 = 10) : ∀ (M : Nat) (k : Int) (h1 : mH), (8865 - k).toNat = M → 0 ≤ k → k ≤ 8865 → fr [69] h h1 → (∀ x, 0 ≤ x → x < k → h1 69 x = h 69 (x + 985)) → (∀ x, k ≤ x → h1 69 x = h 69 x) → WP (true, rm 2) m_Mo_keeps (rt m_Mo_keeps (rm 2) (fun rv h1 r1 => rv = none ∧ r1 = r ∧ kpd h h1)) 11 [some (vR 64), some (vI k)] [] h1 r (0, 0) := by
  intro M
  induction M using Nat.strongRecOn with
  | ind M ih =>
    intro k h1 hN k0 k1 hf g1 g2
    have e10 : h1 64 10 = 10 := by rw [hf.at 64 10 (by decide)]; exact hm
    refine wq_iload_n (kk := 1) (q := 12) rfl rfl rfl ?_
    refine wq_sipush (n := 8865) (q := 15) rfl rfl rfl ?_
    refine wq_icmp_ge (tgt := 40) (q := 18) rfl rfl rfl (fun c15 => ?_) (fun c15 => ?_)
    · skip
      refine wq_aload_n (kk := 0) (q := 41) rfl rfl rfl ?_
      refine wq_dup (q := 42) rfl rfl rfl ?_
      refine wq_getI (kz := 10) (q := 45) rfl f_Mo_247 rfl rfl (Or.inl ⟨rfl, Nat.le_of_ble_eq_true rfl⟩) rfl rfl ?_
      refine wq_iconst (n := 1) (q := 46) rfl rfl rfl ?_
      refine wq_isub (q := 47) rfl rfl (by first | omega | (simp [hup]; omega)) (by first | omega | (simp [hup]; omega)) ?_
      refine wq_putI (kz := 10) (q := 50) rfl f_Mo_247 rfl rfl rfl (Or.inl ⟨rfl, Nat.le_of_ble_eq_true rfl⟩) rfl rfl ?_
      refine Mo_keepsB 10 h _ r 1 (Or.inr ⟨rfl, hm⟩) (by omega) (by rw [hup_s]; omega) ((hf.mono (by decide)).up (by decide)) (fun k hk => by rw [hup_j hk]; exact hf.at 64 k (by decide)) (fun j x j0 j1 x0 x1 => ?_) _
      rw [hup_i (by decide), g1 _ (by omega) (by omega)]
      congr 1
      omega
    · skip
      refine wq_aload_n (kk := 0) (q := 19) rfl rfl rfl ?_
      refine wq_getF (q := 22) f_Mo_26 rfl rfl (Nat.le_of_ble_eq_true rfl) rfl rfl rfl ?_
      refine wq_iload_n (kk := 1) (q := 23) rfl rfl rfl ?_
      refine wq_aload_n (kk := 0) (q := 24) rfl rfl rfl ?_
      refine wq_getF (q := 27) f_Mo_26 rfl rfl (Nat.le_of_ble_eq_true rfl) rfl rfl rfl ?_
      refine wq_iload_n (kk := 1) (q := 28) rfl rfl rfl ?_
      refine wq_sipush (n := 985) (q := 31) rfl rfl rfl ?_
      refine wq_iadd (q := 32) rfl rfl (by first | omega | (simp [hup]; omega)) (by first | omega | (simp [hup]; omega)) ?_
      refine wq_iald (q := 33) rfl (Or.inl ⟨rfl, Nat.le_of_ble_eq_true rfl⟩) rfl rfl (by first | omega | (simp [hup]; omega)) (by first | omega | (simp [hup]; omega)) ?_
      refine wq_iast (q := 34) rfl (Or.inl ⟨rfl, Nat.le_of_ble_eq_true rfl⟩) rfl rfl (by first | omega | (simp [hup]; omega)) (by first | omega | (simp [hup]; omega)) ?_
      refine wq_iinc (i := 1) (n := 1) (q := 37) rfl rfl rfl (Nat.le_of_ble_eq_true rfl) rfl (by first | omega | (simp [hup]; omega)) (by first | omega | (simp [hup]; omega)) ?_
      refine wq_goto (tgt := 11) rfl rfl ?_
      refine ih _ (by omega) (k + 1) _ rfl (by omega) (by omega) (hf.up (by decide)) (fun x x0 x1 => ?_) (fun x x0 => ?_)
      · by_cases e : x = k
        · subst e; rw [hup_s]; exact g2 _ (by omega)
        · rw [hup_j e]; exact g1 x x0 (by omega)
      · rw [hup_j (by omega)]; exact g2 x (by omega)
set_option maxRecDepth 100000 in
theorem Mo_keeps_ok (h : mH) (r : mR) (hm : 0 ≤ h 64 10 ∧ h 64 10 ≤ 10) : Meets true (rm 2) m_Mo_keeps [vR 64] h r (fun rv h1 r1 => rv = none ∧ r1 = r ∧ kpd h h1) := by
  refine ⟨ok_Mo_keeps, Nat.le_of_ble_eq_true rfl, ?_⟩
  refine wq_aload_n (kk := 0) (q := 1) rfl rfl rfl ?_
  refine wq_getI (kz := 10) (q := 4) rfl f_Mo_247 rfl rfl (Or.inl ⟨rfl, Nat.le_of_ble_eq_true rfl⟩) rfl rfl ?_
  refine wq_bipush (n := 10) (q := 6) rfl rfl rfl ?_
  refine wq_icmp_ne (tgt := 50) (q := 9) rfl rfl rfl (fun c6 => ?_) (fun c6 => ?_)
  · skip
    exact Mo_keepsB (h 64 10) h h r 0 (Or.inl ⟨rfl, by omega⟩) hm.1 (by omega) fr.rf (fun _ _ => rfl) (fun j x j0 j1 x0 x1 => by rw [show j + 0 = j by omega]) none
  · skip
    refine wq_iconst (n := 0) (q := 10) rfl rfl rfl ?_
    refine wq_istore_n (kk := 1) (q := 11) rfl rfl (Nat.le_of_ble_eq_true rfl) rfl ?_
    exact Mo_keepsL h r c6 _ 0 h rfl (by omega) (by omega) fr.rf (fun x x0 x1 => by omega) (fun x x0 => rfl)
set_option maxRecDepth 100000 in
theorem Mo_puts_ok (k v : Int) (h : mH) (r : mR) (hm : 0 ≤ h 64 10 ∧ h 64 10 ≤ 10) (hk : 0 ≤ k ∧ k < 985) : Meets true (rm 3) m_Mo_puts [vR 64, vI k, vI v] h r (fun rv h1 r1 => rv = some (vI (h 66 k)) ∧ r1 = r ∧ ∃ h2, kpd h h2 ∧ h1 = hup h2 66 k v) := by
  refine ⟨ok_Mo_puts, Nat.le_of_ble_eq_true rfl, ?_⟩
  refine wq_aload_n (kk := 0) (q := 1) rfl rfl rfl ?_
  refine wq_callV (q := 4) (m' := m_Mo_keeps) (R' := rm 2) (As := []) rfl rfl l_Mo_378 vm_Mo_keeps rfl rfl rfl (Or.inl ⟨rfl, Nat.le_of_ble_eq_true rfl⟩) (Nat.le_of_ble_eq_true rfl) (Nat.le_of_ble_eq_true rfl) (Nat.le_refl _) (Nat.le_refl _) (Nat.le_of_ble_eq_true rfl) (Mo_keeps_ok h r hm) rfl ?_
  rintro rv h2 r ⟨rfl, rfl, hp⟩ -
  refine wq_aload_n (kk := 0) (q := 5) rfl rfl rfl ?_
  refine wq_getF (q := 8) f_Mo_17 rfl rfl (Nat.le_of_ble_eq_true rfl) rfl rfl rfl ?_
  refine wq_iload_n (kk := 1) (q := 9) rfl rfl rfl ?_
  refine wq_iald (q := 10) rfl (Or.inl ⟨rfl, Nat.le_of_ble_eq_true rfl⟩) rfl rfl (by first | omega | (simp [hup]; omega)) (by first | omega | (simp [hup]; omega)) ?_
  refine wq_istore_n (kk := 3) (q := 11) rfl rfl (Nat.le_of_ble_eq_true rfl) rfl ?_
  refine wq_aload_n (kk := 0) (q := 12) rfl rfl rfl ?_
  refine wq_getF (q := 15) f_Mo_17 rfl rfl (Nat.le_of_ble_eq_true rfl) rfl rfl rfl ?_
  refine wq_iload_n (kk := 1) (q := 16) rfl rfl rfl ?_
  refine wq_iload_n (kk := 2) (q := 17) rfl rfl rfl ?_
  refine wq_iast (q := 18) rfl (Or.inl ⟨rfl, Nat.le_of_ble_eq_true rfl⟩) rfl rfl (by first | omega | (simp [hup]; omega)) (by first | omega | (simp [hup]; omega)) ?_
  refine wq_iload_n (kk := 3) (q := 19) rfl rfl rfl ?_
  exact wq_iret rfl rfl (Nat.le_refl _) (Nat.le_refl _) ⟨by rw [hp.f.1.at 66 k (by decide)], rfl, h2, hp, rfl⟩
abbrev arQ (h : mH) (r : mR) (k : Int) (F : Int → mH → Prop) : mP := fun rv h1 r1 => ∃ v, rv = some (vI v) ∧ r1 = r ∧ ((k ≠ 0 ∧ v = -1 ∧ h1 = x_ref h k) ∨ (k = 0 ∧ F v h1))
/-- an act that puts a number into the row -/
def putR (h : mH) (x w : Int) (h1 : mH) : Prop := ∃ h2, kpd (x_ref h 0) h2 ∧ h1 = hup h2 66 x w
theorem x_ref_k {h : mH} {k j : Int} (h1 : j ≠ 0 ∧ j ≠ 1 ∧ j ≠ 3) : x_ref h k 64 j = h 64 j := by
  unfold x_ref
  rw [hup_j h1.2.1, hup_j h1.2.2, hup_j h1.1]
theorem x_ref_c {h : mH} {k : Int} {c : Nat} (hc : c ≠ 64) : x_ref h k c = h c := by
  funext j
  unfold x_ref
  rw [hup_i hc, hup_i hc, hup_i hc]
set_option maxRecDepth 100000 in
set_option maxHeartbeats 1000000 in
theorem Mo_cancelA (d k : Int) (N : mN) (h : mH) (r : mR) (hI : mI h N) (hm : 0 ≤ h 64 10 ∧ h 64 10 ≤ 10) (hk : kS (nN N) (1 - rn N d) 1 d = k) : WP (true, rm 4) m_Mo_cancel (rt m_Mo_cancel (rm 4) (arQ h r (kS (nN N) (1 - rn N d) 1 d) (fun v h1 => putR h (25 + 8 * d + 6) 0 h1 ∧ v = cn (fun e => rn (nRun N d 0) e == 1) (nN N).toNat))) 26 [some (vR 64), some (vI d), none] [vI k, vR 64] h r (0, 0) := by
  have hn := hI.1.1.1
  refine wq_callV (q := 29) (m' := m_Mo_isRefused) (R' := rm 1) (As := [_]) rfl rfl l_Mo_228 vm_Mo_isRefused rfl rfl rfl (Or.inl ⟨rfl, Nat.le_of_ble_eq_true rfl⟩) (Nat.le_of_ble_eq_true rfl) (Nat.le_of_ble_eq_true rfl) (Nat.le_refl _) (Nat.le_refl _) (Nat.le_of_ble_eq_true rfl) (Mo_isRefused_ok k h r) rfl ?_
  rintro rv h1 r ⟨rfl, rfl, rfl⟩ -
  have f1 := x_ref_f (S := qF) (C := qK) (h := h) (k := k) (by decide) (by decide) (by decide) (by decide)
  have I1 := mI_f hI f1 (by decide) (by decide)
  refine wq_cif_eq (tgt := 34) (q := 32) rfl rfl rfl (fun c29 => ?_) (fun c29 => ?_)
  · skip
    have k0 : k = 0 := by simpa using c29
    subst k0
    have hd : 0 ≤ d ∧ d < nN N := by
      by_cases z : 0 ≤ d ∧ d < nN N
      · exact z
      · unfold kS at hk
        rw [if_neg z] at hk
        omega
    refine wq_aload_n (kk := 0) (q := 35) rfl rfl rfl ?_
    refine wq_iload_n (kk := 1) (q := 36) rfl rfl rfl ?_
    refine wq_bipush (n := 6) (q := 38) rfl rfl rfl ?_
    refine wq_callS (q := 41) (m' := m_Mo_at) (R' := rm 1) (As := [_, _]) rfl rfl l_Mo_209 sm_Mo_at rfl (Nat.le_of_ble_eq_true rfl) (Nat.le_of_ble_eq_true rfl) (Nat.le_refl _) (Nat.le_refl _) (Nat.le_of_ble_eq_true rfl) (Mo_at_ok d 6 _ r (by omega) (by omega)) rfl ?_
    rintro rv h2 r ⟨rfl, rfl, rfl⟩ -
    refine wq_iconst (n := 0) (q := 42) rfl rfl rfl ?_
    refine wq_callV (q := 45) (m' := m_Mo_puts) (R' := rm 3) (As := [_, _]) rfl rfl l_Mo_381 vm_Mo_puts rfl rfl rfl (Or.inl ⟨rfl, Nat.le_of_ble_eq_true rfl⟩) (Nat.le_of_ble_eq_true rfl) (Nat.le_of_ble_eq_true rfl) (Nat.le_refl _) (Nat.le_refl _) (Nat.le_of_ble_eq_true rfl) (Mo_puts_ok _ 0 _ r (by rw [x_ref_k (by omega)]; exact hm) (by omega)) rfl ?_
    rintro rv h2 r ⟨rfl, rfl, h3, hp, rfl⟩ -
    have hM3 : isM h3 N := isM_f I1.1 hp.f.1 (by decide)
    have hM4 := isM_run (v := 0) hM3 hd (by omega)
    refine wq_istore_n (kk := 2) (q := 46) rfl rfl (Nat.le_of_ble_eq_true rfl) rfl ?_
    refine wq_aload_n (kk := 0) (q := 47) rfl rfl rfl ?_
    refine wq_callV (q := 50) (m' := m_Mo_runMany) (R' := rm 3) (As := []) rfl rfl l_Mo_260 vm_Mo_runMany rfl rfl rfl (Or.inl ⟨rfl, Nat.le_of_ble_eq_true rfl⟩) (Nat.le_of_ble_eq_true rfl) (Nat.le_of_ble_eq_true rfl) (Nat.le_refl _) (Nat.le_refl _) (Nat.le_of_ble_eq_true rfl) (Mo_runMany_ok _ _ r hM4) rfl ?_
    rintro rv h4 r ⟨rfl, rfl, rfl⟩ -
    exact wq_iret rfl rfl (Nat.le_refl _) (Nat.le_refl _) ⟨_, rfl, rfl, Or.inr ⟨hk, ⟨h3, hp, rfl⟩, rfl⟩⟩
  · skip
    refine wq_iconst (n := -1) (q := 33) rfl rfl rfl ?_
    exact wq_iret rfl rfl (Nat.le_refl _) (Nat.le_refl _) ⟨_, rfl, rfl, Or.inl ⟨by omega, rfl, by rw [hk]⟩⟩
set_option maxRecDepth 100000 in
set_option maxHeartbeats 1000000 in
theorem Mo_cancel_ok (d : Int) (N : mN) (h : mH) (r : mR) (hI : mI h N) (hm : 0 ≤ h 64 10 ∧ h 64 10 ≤ 10) : Meets true (rm 4) m_Mo_cancel [vR 64, vI d] h r (arQ h r (kS (nN N) (1 - rn N d) 1 d) (fun v h1 => putR h (25 + 8 * d + 6) 0 h1 ∧ v = cn (fun e => rn (nRun N d 0) e == 1) (nN N).toNat)) := by
  have e4 := hI.1.2.1
  have hn := hI.1.1.1
  have hT := hI.2
  have hr : dp N d → rn N d = 0 ∨ rn N d = 1 := fun z => (hI.1.1.2.2.1 d z).2.2.2.2
  refine ⟨ok_Mo_cancel, Nat.le_of_ble_eq_true rfl, ?_⟩
  refine wq_aload_n (kk := 0) (q := 1) rfl rfl rfl ?_
  refine wq_aload_n (kk := 0) (q := 2) rfl rfl rfl ?_
  refine wq_iload_n (kk := 1) (q := 3) rfl rfl rfl ?_
  refine wq_callV (q := 6) (m' := m_Mo_isOne) (R' := rm 2) (As := [_]) rfl rfl l_Mo_269 vm_Mo_isOne rfl rfl rfl (Or.inl ⟨rfl, Nat.le_of_ble_eq_true rfl⟩) (Nat.le_of_ble_eq_true rfl) (Nat.le_of_ble_eq_true rfl) (Nat.le_refl _) (Nat.le_refl _) (Nat.le_of_ble_eq_true rfl) (Mo_isOne_ok d h r (by omega) (by omega) (by omega)) rfl ?_
  rintro rv h r ⟨rfl, rfl, rfl⟩ -
  rw [e4]
  refine wq_cif_ne (tgt := 13) (q := 9) rfl rfl rfl (fun c6 => ?_) (fun c6 => ?_)
  · skip
    refine wq_aload_n (kk := 0) (q := 14) rfl rfl rfl ?_
    refine wq_iload_n (kk := 1) (q := 15) rfl rfl rfl ?_
    refine wq_callV (q := 18) (m' := m_Mo_runs) (R' := rm 2) (As := [_]) rfl rfl l_Mo_253 vm_Mo_runs rfl rfl rfl (Or.inl ⟨rfl, Nat.le_of_ble_eq_true rfl⟩) (Nat.le_of_ble_eq_true rfl) (Nat.le_of_ble_eq_true rfl) (Nat.le_refl _) (Nat.le_refl _) (Nat.le_of_ble_eq_true rfl) (Mo_runs_ok N d h r hI.1 c6) rfl ?_
    rintro rv h r ⟨rfl, rfl, rfl⟩ -
    refine wq_cif_eq (tgt := 25) (q := 21) rfl rfl rfl (fun c18 => ?_) (fun c18 => ?_)
    · skip
      refine wq_iconst (n := 5) (q := 26) rfl rfl rfl ?_
      refine Mo_cancelA d _ N h r hI hm ?_
      unfold kS
      first
      | rw [if_neg c6]
      | (have := hr c6
         rw [if_pos c6]
         first | exact if_pos (by omega) | exact if_neg (by omega))
    · skip
      refine wq_iconst (n := 0) (q := 22) rfl rfl rfl ?_
      refine wq_goto (tgt := 26) rfl rfl ?_
      refine Mo_cancelA d _ N h r hI hm ?_
      unfold kS
      first
      | rw [if_neg c6]
      | (have := hr c6
         rw [if_pos c6]
         first | exact if_pos (by omega) | exact if_neg (by omega))
  · skip
    refine wq_iconst (n := 1) (q := 10) rfl rfl rfl ?_
    refine wq_goto (tgt := 26) rfl rfl ?_
    refine Mo_cancelA d _ N h r hI hm ?_
    unfold kS
    first
    | rw [if_neg c6]
    | (have := hr c6
       rw [if_pos c6]
       first | exact if_pos (by omega) | exact if_neg (by omega))
set_option maxRecDepth 100000 in
set_option maxHeartbeats 1000000 in
theorem Mo_runA (d k : Int) (N : mN) (h : mH) (r : mR) (hI : mI h N) (hm : 0 ≤ h 64 10 ∧ h 64 10 ≤ 10) (hk : kS (nN N) (1 - rn N d) 0 d = k) : WP (true, rm 4) m_Mo_run (rt m_Mo_run (rm 4) (arQ h r (kS (nN N) (1 - rn N d) 0 d) (fun v h1 => putR h (25 + 8 * d + 6) 1 h1 ∧ v = cn (fun e => rn (nRun N d 1) e == 1) (nN N).toNat))) 26 [some (vR 64), some (vI d), none] [vI k, vR 64] h r (0, 0) := by
  have hn := hI.1.1.1
  refine wq_callV (q := 29) (m' := m_Mo_isRefused) (R' := rm 1) (As := [_]) rfl rfl l_Mo_228 vm_Mo_isRefused rfl rfl rfl (Or.inl ⟨rfl, Nat.le_of_ble_eq_true rfl⟩) (Nat.le_of_ble_eq_true rfl) (Nat.le_of_ble_eq_true rfl) (Nat.le_refl _) (Nat.le_refl _) (Nat.le_of_ble_eq_true rfl) (Mo_isRefused_ok k h r) rfl ?_
  rintro rv h1 r ⟨rfl, rfl, rfl⟩ -
  have f1 := x_ref_f (S := qF) (C := qK) (h := h) (k := k) (by decide) (by decide) (by decide) (by decide)
  have I1 := mI_f hI f1 (by decide) (by decide)
  refine wq_cif_eq (tgt := 34) (q := 32) rfl rfl rfl (fun c29 => ?_) (fun c29 => ?_)
  · skip
    have k0 : k = 0 := by simpa using c29
    subst k0
    have hd : 0 ≤ d ∧ d < nN N := by
      by_cases z : 0 ≤ d ∧ d < nN N
      · exact z
      · unfold kS at hk
        rw [if_neg z] at hk
        omega
    refine wq_aload_n (kk := 0) (q := 35) rfl rfl rfl ?_
    refine wq_iload_n (kk := 1) (q := 36) rfl rfl rfl ?_
    refine wq_bipush (n := 6) (q := 38) rfl rfl rfl ?_
    refine wq_callS (q := 41) (m' := m_Mo_at) (R' := rm 1) (As := [_, _]) rfl rfl l_Mo_209 sm_Mo_at rfl (Nat.le_of_ble_eq_true rfl) (Nat.le_of_ble_eq_true rfl) (Nat.le_refl _) (Nat.le_refl _) (Nat.le_of_ble_eq_true rfl) (Mo_at_ok d 6 _ r (by omega) (by omega)) rfl ?_
    rintro rv h2 r ⟨rfl, rfl, rfl⟩ -
    refine wq_iconst (n := 1) (q := 42) rfl rfl rfl ?_
    refine wq_callV (q := 45) (m' := m_Mo_puts) (R' := rm 3) (As := [_, _]) rfl rfl l_Mo_381 vm_Mo_puts rfl rfl rfl (Or.inl ⟨rfl, Nat.le_of_ble_eq_true rfl⟩) (Nat.le_of_ble_eq_true rfl) (Nat.le_of_ble_eq_true rfl) (Nat.le_refl _) (Nat.le_refl _) (Nat.le_of_ble_eq_true rfl) (Mo_puts_ok _ 1 _ r (by rw [x_ref_k (by omega)]; exact hm) (by omega)) rfl ?_
    rintro rv h2 r ⟨rfl, rfl, h3, hp, rfl⟩ -
    have hM3 : isM h3 N := isM_f I1.1 hp.f.1 (by decide)
    have hM4 := isM_run (v := 1) hM3 hd (by omega)
    refine wq_istore_n (kk := 2) (q := 46) rfl rfl (Nat.le_of_ble_eq_true rfl) rfl ?_
    refine wq_aload_n (kk := 0) (q := 47) rfl rfl rfl ?_
    refine wq_callV (q := 50) (m' := m_Mo_runMany) (R' := rm 3) (As := []) rfl rfl l_Mo_260 vm_Mo_runMany rfl rfl rfl (Or.inl ⟨rfl, Nat.le_of_ble_eq_true rfl⟩) (Nat.le_of_ble_eq_true rfl) (Nat.le_of_ble_eq_true rfl) (Nat.le_refl _) (Nat.le_refl _) (Nat.le_of_ble_eq_true rfl) (Mo_runMany_ok _ _ r hM4) rfl ?_
    rintro rv h4 r ⟨rfl, rfl, rfl⟩ -
    exact wq_iret rfl rfl (Nat.le_refl _) (Nat.le_refl _) ⟨_, rfl, rfl, Or.inr ⟨hk, ⟨h3, hp, rfl⟩, rfl⟩⟩
  · skip
    refine wq_iconst (n := -1) (q := 33) rfl rfl rfl ?_
    exact wq_iret rfl rfl (Nat.le_refl _) (Nat.le_refl _) ⟨_, rfl, rfl, Or.inl ⟨by omega, rfl, by rw [hk]⟩⟩
set_option maxRecDepth 100000 in
set_option maxHeartbeats 1000000 in
theorem Mo_run_ok (d : Int) (N : mN) (h : mH) (r : mR) (hI : mI h N) (hm : 0 ≤ h 64 10 ∧ h 64 10 ≤ 10) : Meets true (rm 4) m_Mo_run [vR 64, vI d] h r (arQ h r (kS (nN N) (1 - rn N d) 0 d) (fun v h1 => putR h (25 + 8 * d + 6) 1 h1 ∧ v = cn (fun e => rn (nRun N d 1) e == 1) (nN N).toNat)) := by
  have e4 := hI.1.2.1
  have hn := hI.1.1.1
  have hT := hI.2
  have hr : dp N d → rn N d = 0 ∨ rn N d = 1 := fun z => (hI.1.1.2.2.1 d z).2.2.2.2
  refine ⟨ok_Mo_run, Nat.le_of_ble_eq_true rfl, ?_⟩
  refine wq_aload_n (kk := 0) (q := 1) rfl rfl rfl ?_
  refine wq_aload_n (kk := 0) (q := 2) rfl rfl rfl ?_
  refine wq_iload_n (kk := 1) (q := 3) rfl rfl rfl ?_
  refine wq_callV (q := 6) (m' := m_Mo_isOne) (R' := rm 2) (As := [_]) rfl rfl l_Mo_269 vm_Mo_isOne rfl rfl rfl (Or.inl ⟨rfl, Nat.le_of_ble_eq_true rfl⟩) (Nat.le_of_ble_eq_true rfl) (Nat.le_of_ble_eq_true rfl) (Nat.le_refl _) (Nat.le_refl _) (Nat.le_of_ble_eq_true rfl) (Mo_isOne_ok d h r (by omega) (by omega) (by omega)) rfl ?_
  rintro rv h r ⟨rfl, rfl, rfl⟩ -
  rw [e4]
  refine wq_cif_ne (tgt := 13) (q := 9) rfl rfl rfl (fun c6 => ?_) (fun c6 => ?_)
  · skip
    refine wq_aload_n (kk := 0) (q := 14) rfl rfl rfl ?_
    refine wq_iload_n (kk := 1) (q := 15) rfl rfl rfl ?_
    refine wq_callV (q := 18) (m' := m_Mo_runs) (R' := rm 2) (As := [_]) rfl rfl l_Mo_253 vm_Mo_runs rfl rfl rfl (Or.inl ⟨rfl, Nat.le_of_ble_eq_true rfl⟩) (Nat.le_of_ble_eq_true rfl) (Nat.le_of_ble_eq_true rfl) (Nat.le_refl _) (Nat.le_refl _) (Nat.le_of_ble_eq_true rfl) (Mo_runs_ok N d h r hI.1 c6) rfl ?_
    rintro rv h r ⟨rfl, rfl, rfl⟩ -
    refine wq_cif_eq (tgt := 25) (q := 21) rfl rfl rfl (fun c18 => ?_) (fun c18 => ?_)
    · skip
      refine wq_iconst (n := 0) (q := 26) rfl rfl rfl ?_
      refine Mo_runA d _ N h r hI hm ?_
      unfold kS
      first
      | rw [if_neg c6]
      | (have := hr c6
         rw [if_pos c6]
         first | exact if_pos (by omega) | exact if_neg (by omega))
    · skip
      refine wq_iconst (n := 5) (q := 22) rfl rfl rfl ?_
      refine wq_goto (tgt := 26) rfl rfl ?_
      refine Mo_runA d _ N h r hI hm ?_
      unfold kS
      first
      | rw [if_neg c6]
      | (have := hr c6
         rw [if_pos c6]
         first | exact if_pos (by omega) | exact if_neg (by omega))
  · skip
    refine wq_iconst (n := 1) (q := 10) rfl rfl rfl ?_
    refine wq_goto (tgt := 26) rfl rfl ?_
    refine Mo_runA d _ N h r hI hm ?_
    unfold kS
    first
    | rw [if_neg c6]
    | (have := hr c6
       rw [if_pos c6]
       first | exact if_pos (by omega) | exact if_neg (by omega))
set_option maxRecDepth 100000 in
set_option maxHeartbeats 1000000 in
theorem Mo_delay_ok (d w : Int) (N : mN) (h : mH) (r : mR) (hI : mI h N) (hm : 0 ≤ h 64 10 ∧ h 64 10 ≤ 10) : Meets true (rm 4) m_Mo_delay [vR 64, vI d, vI w] h r (arQ h r (kW (0 ≤ d ∧ d < nN N) (0 ≤ w ∧ w ≤ 99)) (fun v h1 => putR h (25 + 8 * d + 5) w h1 ∧ v = h 66 (25 + 8 * d + 5))) := by
  have e4 := hI.1.2.1
  have e1 := hI.1.2.2.1
  have hn := hI.1.1.1
  have hS := hI.1.1.2.1
  have hT := hI.2
  refine ⟨ok_Mo_delay, Nat.le_of_ble_eq_true rfl, ?_⟩
  refine wq_aload_n (kk := 0) (q := 1) rfl rfl rfl ?_
  refine wq_aload_n (kk := 0) (q := 2) rfl rfl rfl ?_
  refine wq_iload_n (kk := 1) (q := 3) rfl rfl rfl ?_
  refine wq_callV (q := 6) (m' := m_Mo_isOne) (R' := rm 2) (As := [_]) rfl rfl l_Mo_269 vm_Mo_isOne rfl rfl rfl (Or.inl ⟨rfl, Nat.le_of_ble_eq_true rfl⟩) (Nat.le_of_ble_eq_true rfl) (Nat.le_of_ble_eq_true rfl) (Nat.le_refl _) (Nat.le_refl _) (Nat.le_of_ble_eq_true rfl) (Mo_isOne_ok d h r (by omega) (by omega) (by omega)) rfl ?_
  rintro rv h r ⟨rfl, rfl, rfl⟩ -
  rw [e4]
  refine wq_iload_n (kk := 2) (q := 7) rfl rfl rfl ?_
  refine wq_iconst (n := 0) (q := 8) rfl rfl rfl ?_
  refine wq_bipush (n := 99) (q := 10) rfl rfl rfl ?_
  refine wq_callS (q := 13) (m' := m_Mo_in) (R' := rm 1) (As := [_, _, _]) rfl rfl l_Mo_107 sm_Mo_in rfl (Nat.le_of_ble_eq_true rfl) (Nat.le_of_ble_eq_true rfl) (Nat.le_refl _) (Nat.le_refl _) (Nat.le_of_ble_eq_true rfl) (Mo_in_ok _ _ _ h r) rfl ?_
  rintro rv h r ⟨rfl, rfl, rfl⟩ -
  refine wq_callS (q := 16) (m' := m_Mo_unless_) (R' := rm 1) (As := [_, _]) rfl rfl l_Mo_304 sm_Mo_unless_ rfl (Nat.le_of_ble_eq_true rfl) (Nat.le_of_ble_eq_true rfl) (Nat.le_refl _) (Nat.le_refl _) (Nat.le_of_ble_eq_true rfl) (Mo_unless2_ok _ _ h r) rfl ?_
  rintro rv h r ⟨rfl, rfl, rfl⟩ -
  rw [show (if bI (0 ≤ d ∧ d < nN N) = 0 then (1 : Int) else if bI (0 ≤ w ∧ w ≤ 99) = 0 then 2 else 0) = kW (0 ≤ d ∧ d < nN N) (0 ≤ w ∧ w ≤ 99) from rfl]
  generalize hk : kW (0 ≤ d ∧ d < nN N) (0 ≤ w ∧ w ≤ 99) = k
  refine wq_callV (q := 19) (m' := m_Mo_isRefused) (R' := rm 1) (As := [_]) rfl rfl l_Mo_228 vm_Mo_isRefused rfl rfl rfl (Or.inl ⟨rfl, Nat.le_of_ble_eq_true rfl⟩) (Nat.le_of_ble_eq_true rfl) (Nat.le_of_ble_eq_true rfl) (Nat.le_refl _) (Nat.le_refl _) (Nat.le_of_ble_eq_true rfl) (Mo_isRefused_ok k h r) rfl ?_
  rintro rv h1 r ⟨rfl, rfl, rfl⟩ -
  refine wq_cif_eq (tgt := 26) (q := 22) rfl rfl rfl (fun c19 => ?_) (fun c19 => ?_)
  · skip
    have k0 : k = 0 := by simpa using c19
    subst k0
    have hd : 0 ≤ d ∧ d < nN N := Classical.byContradiction (fun z => by rw [kW_1 z] at hk; omega)
    refine wq_aload_n (kk := 0) (q := 27) rfl rfl rfl ?_
    refine wq_iload_n (kk := 1) (q := 28) rfl rfl rfl ?_
    refine wq_iconst (n := 5) (q := 29) rfl rfl rfl ?_
    refine wq_callS (q := 32) (m' := m_Mo_at) (R' := rm 1) (As := [_, _]) rfl rfl l_Mo_209 sm_Mo_at rfl (Nat.le_of_ble_eq_true rfl) (Nat.le_of_ble_eq_true rfl) (Nat.le_refl _) (Nat.le_refl _) (Nat.le_of_ble_eq_true rfl) (Mo_at_ok d 5 _ r (by omega) (by omega)) rfl ?_
    rintro rv h2 r ⟨rfl, rfl, rfl⟩ -
    refine wq_iload_n (kk := 2) (q := 33) rfl rfl rfl ?_
    refine wq_callV (q := 36) (m' := m_Mo_puts) (R' := rm 3) (As := [_, _]) rfl rfl l_Mo_381 vm_Mo_puts rfl rfl rfl (Or.inl ⟨rfl, Nat.le_of_ble_eq_true rfl⟩) (Nat.le_of_ble_eq_true rfl) (Nat.le_of_ble_eq_true rfl) (Nat.le_refl _) (Nat.le_refl _) (Nat.le_of_ble_eq_true rfl) (Mo_puts_ok _ _ _ r (by rw [x_ref_k (by omega)]; exact hm) (by omega)) rfl ?_
    rintro rv h2 r ⟨rfl, rfl, h3, hp, rfl⟩ -
    refine wq_iret rfl rfl (Nat.le_refl _) (Nat.le_refl _) ⟨_, rfl, rfl, Or.inr ⟨rfl, ⟨h3, hp, ?_⟩, rfl⟩⟩
    first | rfl | rw [if_pos (by assumption)] | rw [if_neg (by assumption)]
  · skip
    refine wq_iconst (n := -1) (q := 23) rfl rfl rfl ?_
    refine wq_goto (tgt := 36) rfl rfl ?_
    exact wq_iret rfl rfl (Nat.le_refl _) (Nat.le_refl _) ⟨_, rfl, rfl, Or.inl ⟨c19, rfl, rfl⟩⟩
set_option maxRecDepth 100000 in
set_option maxHeartbeats 1000000 in
theorem Mo_change_ok (d w : Int) (N : mN) (h : mH) (r : mR) (hI : mI h N) (hm : 0 ≤ h 64 10 ∧ h 64 10 ≤ 10) : Meets true (rm 4) m_Mo_change [vR 64, vI d, vI w] h r (arQ h r (kW (0 ≤ d ∧ d < nS N) (0 ≤ w ∧ w ≤ 99)) (fun v h1 => putR h (5 + d) w h1 ∧ v = h 66 (5 + d))) := by
  have e4 := hI.1.2.1
  have e1 := hI.1.2.2.1
  have hn := hI.1.1.1
  have hS := hI.1.1.2.1
  have hT := hI.2
  refine ⟨ok_Mo_change, Nat.le_of_ble_eq_true rfl, ?_⟩
  refine wq_aload_n (kk := 0) (q := 1) rfl rfl rfl ?_
  refine wq_aload_n (kk := 0) (q := 2) rfl rfl rfl ?_
  refine wq_iload_n (kk := 1) (q := 3) rfl rfl rfl ?_
  refine wq_callV (q := 6) (m' := m_Mo_isSpot) (R' := rm 2) (As := [_]) rfl rfl l_Mo_263 vm_Mo_isSpot rfl rfl rfl (Or.inl ⟨rfl, Nat.le_of_ble_eq_true rfl⟩) (Nat.le_of_ble_eq_true rfl) (Nat.le_of_ble_eq_true rfl) (Nat.le_refl _) (Nat.le_refl _) (Nat.le_of_ble_eq_true rfl) (Mo_isSpot_ok d h r (by omega) (by omega) (by omega)) rfl ?_
  rintro rv h r ⟨rfl, rfl, rfl⟩ -
  rw [e1]
  refine wq_iload_n (kk := 2) (q := 7) rfl rfl rfl ?_
  refine wq_iconst (n := 0) (q := 8) rfl rfl rfl ?_
  refine wq_bipush (n := 99) (q := 10) rfl rfl rfl ?_
  refine wq_callS (q := 13) (m' := m_Mo_in) (R' := rm 1) (As := [_, _, _]) rfl rfl l_Mo_107 sm_Mo_in rfl (Nat.le_of_ble_eq_true rfl) (Nat.le_of_ble_eq_true rfl) (Nat.le_refl _) (Nat.le_refl _) (Nat.le_of_ble_eq_true rfl) (Mo_in_ok _ _ _ h r) rfl ?_
  rintro rv h r ⟨rfl, rfl, rfl⟩ -
  refine wq_callS (q := 16) (m' := m_Mo_unless_) (R' := rm 1) (As := [_, _]) rfl rfl l_Mo_304 sm_Mo_unless_ rfl (Nat.le_of_ble_eq_true rfl) (Nat.le_of_ble_eq_true rfl) (Nat.le_refl _) (Nat.le_refl _) (Nat.le_of_ble_eq_true rfl) (Mo_unless2_ok _ _ h r) rfl ?_
  rintro rv h r ⟨rfl, rfl, rfl⟩ -
  rw [show (if bI (0 ≤ d ∧ d < nS N) = 0 then (1 : Int) else if bI (0 ≤ w ∧ w ≤ 99) = 0 then 2 else 0) = kW (0 ≤ d ∧ d < nS N) (0 ≤ w ∧ w ≤ 99) from rfl]
  generalize hk : kW (0 ≤ d ∧ d < nS N) (0 ≤ w ∧ w ≤ 99) = k
  refine wq_callV (q := 19) (m' := m_Mo_isRefused) (R' := rm 1) (As := [_]) rfl rfl l_Mo_228 vm_Mo_isRefused rfl rfl rfl (Or.inl ⟨rfl, Nat.le_of_ble_eq_true rfl⟩) (Nat.le_of_ble_eq_true rfl) (Nat.le_of_ble_eq_true rfl) (Nat.le_refl _) (Nat.le_refl _) (Nat.le_of_ble_eq_true rfl) (Mo_isRefused_ok k h r) rfl ?_
  rintro rv h1 r ⟨rfl, rfl, rfl⟩ -
  refine wq_cif_eq (tgt := 26) (q := 22) rfl rfl rfl (fun c19 => ?_) (fun c19 => ?_)
  · skip
    have k0 : k = 0 := by simpa using c19
    subst k0
    have hd : 0 ≤ d ∧ d < nS N := Classical.byContradiction (fun z => by rw [kW_1 z] at hk; omega)
    refine wq_aload_n (kk := 0) (q := 27) rfl rfl rfl ?_
    refine wq_iconst (n := 5) (q := 28) rfl rfl rfl ?_
    refine wq_iload_n (kk := 1) (q := 29) rfl rfl rfl ?_
    refine wq_iadd (q := 30) rfl rfl (by first | omega | (simp [hup]; omega)) (by first | omega | (simp [hup]; omega)) ?_
    refine wq_iload_n (kk := 2) (q := 31) rfl rfl rfl ?_
    refine wq_callV (q := 34) (m' := m_Mo_puts) (R' := rm 3) (As := [_, _]) rfl rfl l_Mo_381 vm_Mo_puts rfl rfl rfl (Or.inl ⟨rfl, Nat.le_of_ble_eq_true rfl⟩) (Nat.le_of_ble_eq_true rfl) (Nat.le_of_ble_eq_true rfl) (Nat.le_refl _) (Nat.le_refl _) (Nat.le_of_ble_eq_true rfl) (Mo_puts_ok _ _ _ r (by rw [x_ref_k (by omega)]; exact hm) (by omega)) rfl ?_
    rintro rv h2 r ⟨rfl, rfl, h3, hp, rfl⟩ -
    refine wq_iret rfl rfl (Nat.le_refl _) (Nat.le_refl _) ⟨_, rfl, rfl, Or.inr ⟨rfl, ⟨h3, hp, ?_⟩, rfl⟩⟩
    first | rfl | rw [if_pos (by assumption)] | rw [if_neg (by assumption)]
  · skip
    refine wq_iconst (n := -1) (q := 23) rfl rfl rfl ?_
    refine wq_goto (tgt := 34) rfl rfl ?_
    exact wq_iret rfl rfl (Nat.le_refl _) (Nat.le_refl _) ⟨_, rfl, rfl, Or.inl ⟨c19, rfl, rfl⟩⟩
set_option maxRecDepth 100000 in
set_option maxHeartbeats 1000000 in
theorem Mo_hold_ok (d w : Int) (N : mN) (h : mH) (r : mR) (hI : mI h N) (hm : 0 ≤ h 64 10 ∧ h 64 10 ≤ 10) : Meets true (rm 4) m_Mo_hold [vR 64, vI d, vI w] h r (arQ h r (kW (0 ≤ d ∧ d < nS N) (-1 ≤ w ∧ w ≤ 999)) (fun v h1 => putR h (15 + d) (if w = -1 then -2 else w) h1 ∧ v = h 66 (15 + d))) := by
  have e4 := hI.1.2.1
  have e1 := hI.1.2.2.1
  have hn := hI.1.1.1
  have hS := hI.1.1.2.1
  have hT := hI.2
  refine ⟨ok_Mo_hold, Nat.le_of_ble_eq_true rfl, ?_⟩
  refine wq_aload_n (kk := 0) (q := 1) rfl rfl rfl ?_
  refine wq_aload_n (kk := 0) (q := 2) rfl rfl rfl ?_
  refine wq_iload_n (kk := 1) (q := 3) rfl rfl rfl ?_
  refine wq_callV (q := 6) (m' := m_Mo_isSpot) (R' := rm 2) (As := [_]) rfl rfl l_Mo_263 vm_Mo_isSpot rfl rfl rfl (Or.inl ⟨rfl, Nat.le_of_ble_eq_true rfl⟩) (Nat.le_of_ble_eq_true rfl) (Nat.le_of_ble_eq_true rfl) (Nat.le_refl _) (Nat.le_refl _) (Nat.le_of_ble_eq_true rfl) (Mo_isSpot_ok d h r (by omega) (by omega) (by omega)) rfl ?_
  rintro rv h r ⟨rfl, rfl, rfl⟩ -
  rw [e1]
  refine wq_iload_n (kk := 2) (q := 7) rfl rfl rfl ?_
  refine wq_iconst (n := -1) (q := 8) rfl rfl rfl ?_
  refine wq_sipush (n := 999) (q := 11) rfl rfl rfl ?_
  refine wq_callS (q := 14) (m' := m_Mo_in) (R' := rm 1) (As := [_, _, _]) rfl rfl l_Mo_107 sm_Mo_in rfl (Nat.le_of_ble_eq_true rfl) (Nat.le_of_ble_eq_true rfl) (Nat.le_refl _) (Nat.le_refl _) (Nat.le_of_ble_eq_true rfl) (Mo_in_ok _ _ _ h r) rfl ?_
  rintro rv h r ⟨rfl, rfl, rfl⟩ -
  refine wq_callS (q := 17) (m' := m_Mo_unless_) (R' := rm 1) (As := [_, _]) rfl rfl l_Mo_304 sm_Mo_unless_ rfl (Nat.le_of_ble_eq_true rfl) (Nat.le_of_ble_eq_true rfl) (Nat.le_refl _) (Nat.le_refl _) (Nat.le_of_ble_eq_true rfl) (Mo_unless2_ok _ _ h r) rfl ?_
  rintro rv h r ⟨rfl, rfl, rfl⟩ -
  rw [show (if bI (0 ≤ d ∧ d < nS N) = 0 then (1 : Int) else if bI (-1 ≤ w ∧ w ≤ 999) = 0 then 2 else 0) = kW (0 ≤ d ∧ d < nS N) (-1 ≤ w ∧ w ≤ 999) from rfl]
  generalize hk : kW (0 ≤ d ∧ d < nS N) (-1 ≤ w ∧ w ≤ 999) = k
  refine wq_callV (q := 20) (m' := m_Mo_isRefused) (R' := rm 1) (As := [_]) rfl rfl l_Mo_228 vm_Mo_isRefused rfl rfl rfl (Or.inl ⟨rfl, Nat.le_of_ble_eq_true rfl⟩) (Nat.le_of_ble_eq_true rfl) (Nat.le_of_ble_eq_true rfl) (Nat.le_refl _) (Nat.le_refl _) (Nat.le_of_ble_eq_true rfl) (Mo_isRefused_ok k h r) rfl ?_
  rintro rv h1 r ⟨rfl, rfl, rfl⟩ -
  refine wq_cif_eq (tgt := 27) (q := 23) rfl rfl rfl (fun c20 => ?_) (fun c20 => ?_)
  · skip
    have k0 : k = 0 := by simpa using c20
    subst k0
    have hd : 0 ≤ d ∧ d < nS N := Classical.byContradiction (fun z => by rw [kW_1 z] at hk; omega)
    refine wq_aload_n (kk := 0) (q := 28) rfl rfl rfl ?_
    refine wq_bipush (n := 15) (q := 30) rfl rfl rfl ?_
    refine wq_iload_n (kk := 1) (q := 31) rfl rfl rfl ?_
    refine wq_iadd (q := 32) rfl rfl (by first | omega | (simp [hup]; omega)) (by first | omega | (simp [hup]; omega)) ?_
    refine wq_iload_n (kk := 2) (q := 33) rfl rfl rfl ?_
    refine wq_iconst (n := -1) (q := 34) rfl rfl rfl ?_
    refine wq_icmp_ne (tgt := 42) (q := 37) rfl rfl rfl (fun c34 => ?_) (fun c34 => ?_)
    · skip
      refine wq_iload_n (kk := 2) (q := 43) rfl rfl rfl ?_
      refine wq_callV (q := 46) (m' := m_Mo_puts) (R' := rm 3) (As := [_, _]) rfl rfl l_Mo_381 vm_Mo_puts rfl rfl rfl (Or.inl ⟨rfl, Nat.le_of_ble_eq_true rfl⟩) (Nat.le_of_ble_eq_true rfl) (Nat.le_of_ble_eq_true rfl) (Nat.le_refl _) (Nat.le_refl _) (Nat.le_of_ble_eq_true rfl) (Mo_puts_ok _ _ _ r (by rw [x_ref_k (by omega)]; exact hm) (by omega)) rfl ?_
      rintro rv h2 r ⟨rfl, rfl, h3, hp, rfl⟩ -
      refine wq_iret rfl rfl (Nat.le_refl _) (Nat.le_refl _) ⟨_, rfl, rfl, Or.inr ⟨rfl, ⟨h3, hp, ?_⟩, rfl⟩⟩
      first | rfl | rw [if_pos (by assumption)] | rw [if_neg (by assumption)]
    · skip
      refine wq_bipush (n := -2) (q := 39) rfl rfl rfl ?_
      refine wq_goto (tgt := 43) rfl rfl ?_
      refine wq_callV (q := 46) (m' := m_Mo_puts) (R' := rm 3) (As := [_, _]) rfl rfl l_Mo_381 vm_Mo_puts rfl rfl rfl (Or.inl ⟨rfl, Nat.le_of_ble_eq_true rfl⟩) (Nat.le_of_ble_eq_true rfl) (Nat.le_of_ble_eq_true rfl) (Nat.le_refl _) (Nat.le_refl _) (Nat.le_of_ble_eq_true rfl) (Mo_puts_ok _ _ _ r (by rw [x_ref_k (by omega)]; exact hm) (by omega)) rfl ?_
      rintro rv h2 r ⟨rfl, rfl, h3, hp, rfl⟩ -
      refine wq_iret rfl rfl (Nat.le_refl _) (Nat.le_refl _) ⟨_, rfl, rfl, Or.inr ⟨rfl, ⟨h3, hp, ?_⟩, rfl⟩⟩
      first | rfl | rw [if_pos (by assumption)] | rw [if_neg (by assumption)]
  · skip
    refine wq_iconst (n := -1) (q := 24) rfl rfl rfl ?_
    refine wq_goto (tgt := 46) rfl rfl ?_
    exact wq_iret rfl rfl (Nat.le_refl _) (Nat.le_refl _) ⟨_, rfl, rfl, Or.inl ⟨c20, rfl, rfl⟩⟩
set_option maxRecDepth 100000 in
set_option maxHeartbeats 1000000 in
theorem Mo_lays_ok (T : Nat) (hT : T = 66 ∨ T = 67) (l a b t w k : Int) (h : mH) (r : mR) (h4 : 0 ≤ h T 4 ∧ h T 4 < 120) : Meets true (rm 2) m_Mo_lays_ [vR T, vI l, vI a, vI b, vI t, vI w, vI k] h r (fun rv h1 r1 => rv = none ∧ r1 = r ∧ fr [T] h h1 ∧ h1 T = add1 (h T) l a b t w k) := by
  rcases hT with rfl | rfl
  · refine ⟨ok_Mo_lays_, Nat.le_of_ble_eq_true rfl, ?_⟩
    refine wq_aload_n (kk := 0) (q := 1) rfl rfl rfl ?_
    refine wq_iconst (n := 4) (q := 2) rfl rfl rfl ?_
    refine wq_iald (q := 3) rfl (Or.inl ⟨rfl, Nat.le_of_ble_eq_true rfl⟩) rfl rfl (by first | omega | (simp only [hup_j (show ¬ (4 : Int) = 25 + 8 * h 66 4 + 0 by omega), hup_j (show ¬ (4 : Int) = 25 + 8 * h 66 4 + 1 by omega), hup_j (show ¬ (4 : Int) = 25 + 8 * h 66 4 + 2 by omega), hup_j (show ¬ (4 : Int) = 25 + 8 * h 66 4 + 3 by omega), hup_j (show ¬ (4 : Int) = 25 + 8 * h 66 4 + 4 by omega), hup_j (show ¬ (4 : Int) = 25 + 8 * h 66 4 + 5 by omega), hup_j (show ¬ (4 : Int) = 25 + 8 * h 66 4 + 6 by omega), hup_j (show ¬ (4 : Int) = 25 + 8 * h 66 4 + 7 by omega)]; omega)) (by first | omega | (simp only [hup_j (show ¬ (4 : Int) = 25 + 8 * h 66 4 + 0 by omega), hup_j (show ¬ (4 : Int) = 25 + 8 * h 66 4 + 1 by omega), hup_j (show ¬ (4 : Int) = 25 + 8 * h 66 4 + 2 by omega), hup_j (show ¬ (4 : Int) = 25 + 8 * h 66 4 + 3 by omega), hup_j (show ¬ (4 : Int) = 25 + 8 * h 66 4 + 4 by omega), hup_j (show ¬ (4 : Int) = 25 + 8 * h 66 4 + 5 by omega), hup_j (show ¬ (4 : Int) = 25 + 8 * h 66 4 + 6 by omega), hup_j (show ¬ (4 : Int) = 25 + 8 * h 66 4 + 7 by omega)]; omega)) ?_
    refine wq_istore (i := 7) (q := 5) rfl rfl (Nat.le_of_ble_eq_true rfl) rfl ?_
    refine wq_aload_n (kk := 0) (q := 6) rfl rfl rfl ?_
    refine wq_iload (i := 7) (q := 8) rfl rfl rfl ?_
    refine wq_iconst (n := 0) (q := 9) rfl rfl rfl ?_
    refine wq_callS (q := 12) (m' := m_Mo_at) (R' := rm 1) (As := [_, _]) rfl rfl l_Mo_209 sm_Mo_at rfl (Nat.le_of_ble_eq_true rfl) (Nat.le_of_ble_eq_true rfl) (Nat.le_refl _) (Nat.le_refl _) (Nat.le_of_ble_eq_true rfl) (Mo_at_ok _ _ _ _ (by omega) (by omega)) rfl ?_
    rintro rv h r ⟨rfl, rfl, rfl⟩ -
    refine wq_iload_n (kk := 1) (q := 13) rfl rfl rfl ?_
    refine wq_iast (q := 14) rfl (Or.inl ⟨rfl, Nat.le_of_ble_eq_true rfl⟩) rfl rfl (by first | omega | (simp only [hup_j (show ¬ (4 : Int) = 25 + 8 * h 66 4 + 0 by omega), hup_j (show ¬ (4 : Int) = 25 + 8 * h 66 4 + 1 by omega), hup_j (show ¬ (4 : Int) = 25 + 8 * h 66 4 + 2 by omega), hup_j (show ¬ (4 : Int) = 25 + 8 * h 66 4 + 3 by omega), hup_j (show ¬ (4 : Int) = 25 + 8 * h 66 4 + 4 by omega), hup_j (show ¬ (4 : Int) = 25 + 8 * h 66 4 + 5 by omega), hup_j (show ¬ (4 : Int) = 25 + 8 * h 66 4 + 6 by omega), hup_j (show ¬ (4 : Int) = 25 + 8 * h 66 4 + 7 by omega)]; omega)) (by first | omega | (simp only [hup_j (show ¬ (4 : Int) = 25 + 8 * h 66 4 + 0 by omega), hup_j (show ¬ (4 : Int) = 25 + 8 * h 66 4 + 1 by omega), hup_j (show ¬ (4 : Int) = 25 + 8 * h 66 4 + 2 by omega), hup_j (show ¬ (4 : Int) = 25 + 8 * h 66 4 + 3 by omega), hup_j (show ¬ (4 : Int) = 25 + 8 * h 66 4 + 4 by omega), hup_j (show ¬ (4 : Int) = 25 + 8 * h 66 4 + 5 by omega), hup_j (show ¬ (4 : Int) = 25 + 8 * h 66 4 + 6 by omega), hup_j (show ¬ (4 : Int) = 25 + 8 * h 66 4 + 7 by omega)]; omega)) ?_
    refine wq_aload_n (kk := 0) (q := 15) rfl rfl rfl ?_
    refine wq_iload (i := 7) (q := 17) rfl rfl rfl ?_
    refine wq_iconst (n := 1) (q := 18) rfl rfl rfl ?_
    refine wq_callS (q := 21) (m' := m_Mo_at) (R' := rm 1) (As := [_, _]) rfl rfl l_Mo_209 sm_Mo_at rfl (Nat.le_of_ble_eq_true rfl) (Nat.le_of_ble_eq_true rfl) (Nat.le_refl _) (Nat.le_refl _) (Nat.le_of_ble_eq_true rfl) (Mo_at_ok _ _ _ _ (by omega) (by omega)) rfl ?_
    rintro rv h r ⟨rfl, rfl, rfl⟩ -
    refine wq_iload_n (kk := 2) (q := 22) rfl rfl rfl ?_
    refine wq_iast (q := 23) rfl (Or.inl ⟨rfl, Nat.le_of_ble_eq_true rfl⟩) rfl rfl (by first | omega | (simp only [hup_j (show ¬ (4 : Int) = 25 + 8 * h 66 4 + 0 by omega), hup_j (show ¬ (4 : Int) = 25 + 8 * h 66 4 + 1 by omega), hup_j (show ¬ (4 : Int) = 25 + 8 * h 66 4 + 2 by omega), hup_j (show ¬ (4 : Int) = 25 + 8 * h 66 4 + 3 by omega), hup_j (show ¬ (4 : Int) = 25 + 8 * h 66 4 + 4 by omega), hup_j (show ¬ (4 : Int) = 25 + 8 * h 66 4 + 5 by omega), hup_j (show ¬ (4 : Int) = 25 + 8 * h 66 4 + 6 by omega), hup_j (show ¬ (4 : Int) = 25 + 8 * h 66 4 + 7 by omega)]; omega)) (by first | omega | (simp only [hup_j (show ¬ (4 : Int) = 25 + 8 * h 66 4 + 0 by omega), hup_j (show ¬ (4 : Int) = 25 + 8 * h 66 4 + 1 by omega), hup_j (show ¬ (4 : Int) = 25 + 8 * h 66 4 + 2 by omega), hup_j (show ¬ (4 : Int) = 25 + 8 * h 66 4 + 3 by omega), hup_j (show ¬ (4 : Int) = 25 + 8 * h 66 4 + 4 by omega), hup_j (show ¬ (4 : Int) = 25 + 8 * h 66 4 + 5 by omega), hup_j (show ¬ (4 : Int) = 25 + 8 * h 66 4 + 6 by omega), hup_j (show ¬ (4 : Int) = 25 + 8 * h 66 4 + 7 by omega)]; omega)) ?_
    refine wq_aload_n (kk := 0) (q := 24) rfl rfl rfl ?_
    refine wq_iload (i := 7) (q := 26) rfl rfl rfl ?_
    refine wq_iconst (n := 2) (q := 27) rfl rfl rfl ?_
    refine wq_callS (q := 30) (m' := m_Mo_at) (R' := rm 1) (As := [_, _]) rfl rfl l_Mo_209 sm_Mo_at rfl (Nat.le_of_ble_eq_true rfl) (Nat.le_of_ble_eq_true rfl) (Nat.le_refl _) (Nat.le_refl _) (Nat.le_of_ble_eq_true rfl) (Mo_at_ok _ _ _ _ (by omega) (by omega)) rfl ?_
    rintro rv h r ⟨rfl, rfl, rfl⟩ -
    refine wq_iload_n (kk := 3) (q := 31) rfl rfl rfl ?_
    refine wq_iast (q := 32) rfl (Or.inl ⟨rfl, Nat.le_of_ble_eq_true rfl⟩) rfl rfl (by first | omega | (simp only [hup_j (show ¬ (4 : Int) = 25 + 8 * h 66 4 + 0 by omega), hup_j (show ¬ (4 : Int) = 25 + 8 * h 66 4 + 1 by omega), hup_j (show ¬ (4 : Int) = 25 + 8 * h 66 4 + 2 by omega), hup_j (show ¬ (4 : Int) = 25 + 8 * h 66 4 + 3 by omega), hup_j (show ¬ (4 : Int) = 25 + 8 * h 66 4 + 4 by omega), hup_j (show ¬ (4 : Int) = 25 + 8 * h 66 4 + 5 by omega), hup_j (show ¬ (4 : Int) = 25 + 8 * h 66 4 + 6 by omega), hup_j (show ¬ (4 : Int) = 25 + 8 * h 66 4 + 7 by omega)]; omega)) (by first | omega | (simp only [hup_j (show ¬ (4 : Int) = 25 + 8 * h 66 4 + 0 by omega), hup_j (show ¬ (4 : Int) = 25 + 8 * h 66 4 + 1 by omega), hup_j (show ¬ (4 : Int) = 25 + 8 * h 66 4 + 2 by omega), hup_j (show ¬ (4 : Int) = 25 + 8 * h 66 4 + 3 by omega), hup_j (show ¬ (4 : Int) = 25 + 8 * h 66 4 + 4 by omega), hup_j (show ¬ (4 : Int) = 25 + 8 * h 66 4 + 5 by omega), hup_j (show ¬ (4 : Int) = 25 + 8 * h 66 4 + 6 by omega), hup_j (show ¬ (4 : Int) = 25 + 8 * h 66 4 + 7 by omega)]; omega)) ?_
    refine wq_aload_n (kk := 0) (q := 33) rfl rfl rfl ?_
    refine wq_iload (i := 7) (q := 35) rfl rfl rfl ?_
    refine wq_iconst (n := 3) (q := 36) rfl rfl rfl ?_
    refine wq_callS (q := 39) (m' := m_Mo_at) (R' := rm 1) (As := [_, _]) rfl rfl l_Mo_209 sm_Mo_at rfl (Nat.le_of_ble_eq_true rfl) (Nat.le_of_ble_eq_true rfl) (Nat.le_refl _) (Nat.le_refl _) (Nat.le_of_ble_eq_true rfl) (Mo_at_ok _ _ _ _ (by omega) (by omega)) rfl ?_
    rintro rv h r ⟨rfl, rfl, rfl⟩ -
    refine wq_iload (i := 4) (q := 41) rfl rfl rfl ?_
    refine wq_iast (q := 42) rfl (Or.inl ⟨rfl, Nat.le_of_ble_eq_true rfl⟩) rfl rfl (by first | omega | (simp only [hup_j (show ¬ (4 : Int) = 25 + 8 * h 66 4 + 0 by omega), hup_j (show ¬ (4 : Int) = 25 + 8 * h 66 4 + 1 by omega), hup_j (show ¬ (4 : Int) = 25 + 8 * h 66 4 + 2 by omega), hup_j (show ¬ (4 : Int) = 25 + 8 * h 66 4 + 3 by omega), hup_j (show ¬ (4 : Int) = 25 + 8 * h 66 4 + 4 by omega), hup_j (show ¬ (4 : Int) = 25 + 8 * h 66 4 + 5 by omega), hup_j (show ¬ (4 : Int) = 25 + 8 * h 66 4 + 6 by omega), hup_j (show ¬ (4 : Int) = 25 + 8 * h 66 4 + 7 by omega)]; omega)) (by first | omega | (simp only [hup_j (show ¬ (4 : Int) = 25 + 8 * h 66 4 + 0 by omega), hup_j (show ¬ (4 : Int) = 25 + 8 * h 66 4 + 1 by omega), hup_j (show ¬ (4 : Int) = 25 + 8 * h 66 4 + 2 by omega), hup_j (show ¬ (4 : Int) = 25 + 8 * h 66 4 + 3 by omega), hup_j (show ¬ (4 : Int) = 25 + 8 * h 66 4 + 4 by omega), hup_j (show ¬ (4 : Int) = 25 + 8 * h 66 4 + 5 by omega), hup_j (show ¬ (4 : Int) = 25 + 8 * h 66 4 + 6 by omega), hup_j (show ¬ (4 : Int) = 25 + 8 * h 66 4 + 7 by omega)]; omega)) ?_
    refine wq_aload_n (kk := 0) (q := 43) rfl rfl rfl ?_
    refine wq_iload (i := 7) (q := 45) rfl rfl rfl ?_
    refine wq_iconst (n := 4) (q := 46) rfl rfl rfl ?_
    refine wq_callS (q := 49) (m' := m_Mo_at) (R' := rm 1) (As := [_, _]) rfl rfl l_Mo_209 sm_Mo_at rfl (Nat.le_of_ble_eq_true rfl) (Nat.le_of_ble_eq_true rfl) (Nat.le_refl _) (Nat.le_refl _) (Nat.le_of_ble_eq_true rfl) (Mo_at_ok _ _ _ _ (by omega) (by omega)) rfl ?_
    rintro rv h r ⟨rfl, rfl, rfl⟩ -
    refine wq_iload (i := 5) (q := 51) rfl rfl rfl ?_
    refine wq_iast (q := 52) rfl (Or.inl ⟨rfl, Nat.le_of_ble_eq_true rfl⟩) rfl rfl (by first | omega | (simp only [hup_j (show ¬ (4 : Int) = 25 + 8 * h 66 4 + 0 by omega), hup_j (show ¬ (4 : Int) = 25 + 8 * h 66 4 + 1 by omega), hup_j (show ¬ (4 : Int) = 25 + 8 * h 66 4 + 2 by omega), hup_j (show ¬ (4 : Int) = 25 + 8 * h 66 4 + 3 by omega), hup_j (show ¬ (4 : Int) = 25 + 8 * h 66 4 + 4 by omega), hup_j (show ¬ (4 : Int) = 25 + 8 * h 66 4 + 5 by omega), hup_j (show ¬ (4 : Int) = 25 + 8 * h 66 4 + 6 by omega), hup_j (show ¬ (4 : Int) = 25 + 8 * h 66 4 + 7 by omega)]; omega)) (by first | omega | (simp only [hup_j (show ¬ (4 : Int) = 25 + 8 * h 66 4 + 0 by omega), hup_j (show ¬ (4 : Int) = 25 + 8 * h 66 4 + 1 by omega), hup_j (show ¬ (4 : Int) = 25 + 8 * h 66 4 + 2 by omega), hup_j (show ¬ (4 : Int) = 25 + 8 * h 66 4 + 3 by omega), hup_j (show ¬ (4 : Int) = 25 + 8 * h 66 4 + 4 by omega), hup_j (show ¬ (4 : Int) = 25 + 8 * h 66 4 + 5 by omega), hup_j (show ¬ (4 : Int) = 25 + 8 * h 66 4 + 6 by omega), hup_j (show ¬ (4 : Int) = 25 + 8 * h 66 4 + 7 by omega)]; omega)) ?_
    refine wq_aload_n (kk := 0) (q := 53) rfl rfl rfl ?_
    refine wq_iload (i := 7) (q := 55) rfl rfl rfl ?_
    refine wq_iconst (n := 5) (q := 56) rfl rfl rfl ?_
    refine wq_callS (q := 59) (m' := m_Mo_at) (R' := rm 1) (As := [_, _]) rfl rfl l_Mo_209 sm_Mo_at rfl (Nat.le_of_ble_eq_true rfl) (Nat.le_of_ble_eq_true rfl) (Nat.le_refl _) (Nat.le_refl _) (Nat.le_of_ble_eq_true rfl) (Mo_at_ok _ _ _ _ (by omega) (by omega)) rfl ?_
    rintro rv h r ⟨rfl, rfl, rfl⟩ -
    refine wq_iconst (n := 0) (q := 60) rfl rfl rfl ?_
    refine wq_iast (q := 61) rfl (Or.inl ⟨rfl, Nat.le_of_ble_eq_true rfl⟩) rfl rfl (by first | omega | (simp only [hup_j (show ¬ (4 : Int) = 25 + 8 * h 66 4 + 0 by omega), hup_j (show ¬ (4 : Int) = 25 + 8 * h 66 4 + 1 by omega), hup_j (show ¬ (4 : Int) = 25 + 8 * h 66 4 + 2 by omega), hup_j (show ¬ (4 : Int) = 25 + 8 * h 66 4 + 3 by omega), hup_j (show ¬ (4 : Int) = 25 + 8 * h 66 4 + 4 by omega), hup_j (show ¬ (4 : Int) = 25 + 8 * h 66 4 + 5 by omega), hup_j (show ¬ (4 : Int) = 25 + 8 * h 66 4 + 6 by omega), hup_j (show ¬ (4 : Int) = 25 + 8 * h 66 4 + 7 by omega)]; omega)) (by first | omega | (simp only [hup_j (show ¬ (4 : Int) = 25 + 8 * h 66 4 + 0 by omega), hup_j (show ¬ (4 : Int) = 25 + 8 * h 66 4 + 1 by omega), hup_j (show ¬ (4 : Int) = 25 + 8 * h 66 4 + 2 by omega), hup_j (show ¬ (4 : Int) = 25 + 8 * h 66 4 + 3 by omega), hup_j (show ¬ (4 : Int) = 25 + 8 * h 66 4 + 4 by omega), hup_j (show ¬ (4 : Int) = 25 + 8 * h 66 4 + 5 by omega), hup_j (show ¬ (4 : Int) = 25 + 8 * h 66 4 + 6 by omega), hup_j (show ¬ (4 : Int) = 25 + 8 * h 66 4 + 7 by omega)]; omega)) ?_
    refine wq_aload_n (kk := 0) (q := 62) rfl rfl rfl ?_
    refine wq_iload (i := 7) (q := 64) rfl rfl rfl ?_
    refine wq_bipush (n := 6) (q := 66) rfl rfl rfl ?_
    refine wq_callS (q := 69) (m' := m_Mo_at) (R' := rm 1) (As := [_, _]) rfl rfl l_Mo_209 sm_Mo_at rfl (Nat.le_of_ble_eq_true rfl) (Nat.le_of_ble_eq_true rfl) (Nat.le_refl _) (Nat.le_refl _) (Nat.le_of_ble_eq_true rfl) (Mo_at_ok _ _ _ _ (by omega) (by omega)) rfl ?_
    rintro rv h r ⟨rfl, rfl, rfl⟩ -
    refine wq_iconst (n := 1) (q := 70) rfl rfl rfl ?_
    refine wq_iast (q := 71) rfl (Or.inl ⟨rfl, Nat.le_of_ble_eq_true rfl⟩) rfl rfl (by first | omega | (simp only [hup_j (show ¬ (4 : Int) = 25 + 8 * h 66 4 + 0 by omega), hup_j (show ¬ (4 : Int) = 25 + 8 * h 66 4 + 1 by omega), hup_j (show ¬ (4 : Int) = 25 + 8 * h 66 4 + 2 by omega), hup_j (show ¬ (4 : Int) = 25 + 8 * h 66 4 + 3 by omega), hup_j (show ¬ (4 : Int) = 25 + 8 * h 66 4 + 4 by omega), hup_j (show ¬ (4 : Int) = 25 + 8 * h 66 4 + 5 by omega), hup_j (show ¬ (4 : Int) = 25 + 8 * h 66 4 + 6 by omega), hup_j (show ¬ (4 : Int) = 25 + 8 * h 66 4 + 7 by omega)]; omega)) (by first | omega | (simp only [hup_j (show ¬ (4 : Int) = 25 + 8 * h 66 4 + 0 by omega), hup_j (show ¬ (4 : Int) = 25 + 8 * h 66 4 + 1 by omega), hup_j (show ¬ (4 : Int) = 25 + 8 * h 66 4 + 2 by omega), hup_j (show ¬ (4 : Int) = 25 + 8 * h 66 4 + 3 by omega), hup_j (show ¬ (4 : Int) = 25 + 8 * h 66 4 + 4 by omega), hup_j (show ¬ (4 : Int) = 25 + 8 * h 66 4 + 5 by omega), hup_j (show ¬ (4 : Int) = 25 + 8 * h 66 4 + 6 by omega), hup_j (show ¬ (4 : Int) = 25 + 8 * h 66 4 + 7 by omega)]; omega)) ?_
    refine wq_aload_n (kk := 0) (q := 72) rfl rfl rfl ?_
    refine wq_iload (i := 7) (q := 74) rfl rfl rfl ?_
    refine wq_bipush (n := 7) (q := 76) rfl rfl rfl ?_
    refine wq_callS (q := 79) (m' := m_Mo_at) (R' := rm 1) (As := [_, _]) rfl rfl l_Mo_209 sm_Mo_at rfl (Nat.le_of_ble_eq_true rfl) (Nat.le_of_ble_eq_true rfl) (Nat.le_refl _) (Nat.le_refl _) (Nat.le_of_ble_eq_true rfl) (Mo_at_ok _ _ _ _ (by omega) (by omega)) rfl ?_
    rintro rv h r ⟨rfl, rfl, rfl⟩ -
    refine wq_iload (i := 6) (q := 81) rfl rfl rfl ?_
    refine wq_iast (q := 82) rfl (Or.inl ⟨rfl, Nat.le_of_ble_eq_true rfl⟩) rfl rfl (by first | omega | (simp only [hup_j (show ¬ (4 : Int) = 25 + 8 * h 66 4 + 0 by omega), hup_j (show ¬ (4 : Int) = 25 + 8 * h 66 4 + 1 by omega), hup_j (show ¬ (4 : Int) = 25 + 8 * h 66 4 + 2 by omega), hup_j (show ¬ (4 : Int) = 25 + 8 * h 66 4 + 3 by omega), hup_j (show ¬ (4 : Int) = 25 + 8 * h 66 4 + 4 by omega), hup_j (show ¬ (4 : Int) = 25 + 8 * h 66 4 + 5 by omega), hup_j (show ¬ (4 : Int) = 25 + 8 * h 66 4 + 6 by omega), hup_j (show ¬ (4 : Int) = 25 + 8 * h 66 4 + 7 by omega)]; omega)) (by first | omega | (simp only [hup_j (show ¬ (4 : Int) = 25 + 8 * h 66 4 + 0 by omega), hup_j (show ¬ (4 : Int) = 25 + 8 * h 66 4 + 1 by omega), hup_j (show ¬ (4 : Int) = 25 + 8 * h 66 4 + 2 by omega), hup_j (show ¬ (4 : Int) = 25 + 8 * h 66 4 + 3 by omega), hup_j (show ¬ (4 : Int) = 25 + 8 * h 66 4 + 4 by omega), hup_j (show ¬ (4 : Int) = 25 + 8 * h 66 4 + 5 by omega), hup_j (show ¬ (4 : Int) = 25 + 8 * h 66 4 + 6 by omega), hup_j (show ¬ (4 : Int) = 25 + 8 * h 66 4 + 7 by omega)]; omega)) ?_
    refine wq_aload_n (kk := 0) (q := 83) rfl rfl rfl ?_
    refine wq_iconst (n := 4) (q := 84) rfl rfl rfl ?_
    refine wq_dup2 (q := 85) rfl rfl rfl rfl ?_
    refine wq_iald (q := 86) rfl (Or.inl ⟨rfl, Nat.le_of_ble_eq_true rfl⟩) rfl rfl (by first | omega | (simp only [hup_j (show ¬ (4 : Int) = 25 + 8 * h 66 4 + 0 by omega), hup_j (show ¬ (4 : Int) = 25 + 8 * h 66 4 + 1 by omega), hup_j (show ¬ (4 : Int) = 25 + 8 * h 66 4 + 2 by omega), hup_j (show ¬ (4 : Int) = 25 + 8 * h 66 4 + 3 by omega), hup_j (show ¬ (4 : Int) = 25 + 8 * h 66 4 + 4 by omega), hup_j (show ¬ (4 : Int) = 25 + 8 * h 66 4 + 5 by omega), hup_j (show ¬ (4 : Int) = 25 + 8 * h 66 4 + 6 by omega), hup_j (show ¬ (4 : Int) = 25 + 8 * h 66 4 + 7 by omega)]; omega)) (by first | omega | (simp only [hup_j (show ¬ (4 : Int) = 25 + 8 * h 66 4 + 0 by omega), hup_j (show ¬ (4 : Int) = 25 + 8 * h 66 4 + 1 by omega), hup_j (show ¬ (4 : Int) = 25 + 8 * h 66 4 + 2 by omega), hup_j (show ¬ (4 : Int) = 25 + 8 * h 66 4 + 3 by omega), hup_j (show ¬ (4 : Int) = 25 + 8 * h 66 4 + 4 by omega), hup_j (show ¬ (4 : Int) = 25 + 8 * h 66 4 + 5 by omega), hup_j (show ¬ (4 : Int) = 25 + 8 * h 66 4 + 6 by omega), hup_j (show ¬ (4 : Int) = 25 + 8 * h 66 4 + 7 by omega)]; omega)) ?_
    refine wq_iconst (n := 1) (q := 87) rfl rfl rfl ?_
    refine wq_iadd (q := 88) rfl rfl (by first | omega | (simp only [hup_j (show ¬ (4 : Int) = 25 + 8 * h 66 4 + 0 by omega), hup_j (show ¬ (4 : Int) = 25 + 8 * h 66 4 + 1 by omega), hup_j (show ¬ (4 : Int) = 25 + 8 * h 66 4 + 2 by omega), hup_j (show ¬ (4 : Int) = 25 + 8 * h 66 4 + 3 by omega), hup_j (show ¬ (4 : Int) = 25 + 8 * h 66 4 + 4 by omega), hup_j (show ¬ (4 : Int) = 25 + 8 * h 66 4 + 5 by omega), hup_j (show ¬ (4 : Int) = 25 + 8 * h 66 4 + 6 by omega), hup_j (show ¬ (4 : Int) = 25 + 8 * h 66 4 + 7 by omega)]; omega)) (by first | omega | (simp only [hup_j (show ¬ (4 : Int) = 25 + 8 * h 66 4 + 0 by omega), hup_j (show ¬ (4 : Int) = 25 + 8 * h 66 4 + 1 by omega), hup_j (show ¬ (4 : Int) = 25 + 8 * h 66 4 + 2 by omega), hup_j (show ¬ (4 : Int) = 25 + 8 * h 66 4 + 3 by omega), hup_j (show ¬ (4 : Int) = 25 + 8 * h 66 4 + 4 by omega), hup_j (show ¬ (4 : Int) = 25 + 8 * h 66 4 + 5 by omega), hup_j (show ¬ (4 : Int) = 25 + 8 * h 66 4 + 6 by omega), hup_j (show ¬ (4 : Int) = 25 + 8 * h 66 4 + 7 by omega)]; omega)) ?_
    refine wq_iast (q := 89) rfl (Or.inl ⟨rfl, Nat.le_of_ble_eq_true rfl⟩) rfl rfl (by first | omega | (simp only [hup_j (show ¬ (4 : Int) = 25 + 8 * h 66 4 + 0 by omega), hup_j (show ¬ (4 : Int) = 25 + 8 * h 66 4 + 1 by omega), hup_j (show ¬ (4 : Int) = 25 + 8 * h 66 4 + 2 by omega), hup_j (show ¬ (4 : Int) = 25 + 8 * h 66 4 + 3 by omega), hup_j (show ¬ (4 : Int) = 25 + 8 * h 66 4 + 4 by omega), hup_j (show ¬ (4 : Int) = 25 + 8 * h 66 4 + 5 by omega), hup_j (show ¬ (4 : Int) = 25 + 8 * h 66 4 + 6 by omega), hup_j (show ¬ (4 : Int) = 25 + 8 * h 66 4 + 7 by omega)]; omega)) (by first | omega | (simp only [hup_j (show ¬ (4 : Int) = 25 + 8 * h 66 4 + 0 by omega), hup_j (show ¬ (4 : Int) = 25 + 8 * h 66 4 + 1 by omega), hup_j (show ¬ (4 : Int) = 25 + 8 * h 66 4 + 2 by omega), hup_j (show ¬ (4 : Int) = 25 + 8 * h 66 4 + 3 by omega), hup_j (show ¬ (4 : Int) = 25 + 8 * h 66 4 + 4 by omega), hup_j (show ¬ (4 : Int) = 25 + 8 * h 66 4 + 5 by omega), hup_j (show ¬ (4 : Int) = 25 + 8 * h 66 4 + 6 by omega), hup_j (show ¬ (4 : Int) = 25 + 8 * h 66 4 + 7 by omega)]; omega)) ?_
    refine wq_vret rfl rfl (Nat.le_refl _) (Nat.le_refl _) ⟨rfl, rfl, ((((((((fr.rf.up (by decide)).up (by decide)).up (by decide)).up (by decide)).up (by decide)).up (by decide)).up (by decide)).up (by decide)).up (by decide), ?_⟩
    funext j
    unfold add1 up
    have n0 : ¬ (4 : Int) = 25 + 8 * h 66 4 := by omega
    have n1 : ¬ (4 : Int) = 25 + 8 * h 66 4 + 1 := by omega
    have n2 : ¬ (4 : Int) = 25 + 8 * h 66 4 + 2 := by omega
    have n3 : ¬ (4 : Int) = 25 + 8 * h 66 4 + 3 := by omega
    have n4 : ¬ (4 : Int) = 25 + 8 * h 66 4 + 4 := by omega
    have n5 : ¬ (4 : Int) = 25 + 8 * h 66 4 + 5 := by omega
    have n6 : ¬ (4 : Int) = 25 + 8 * h 66 4 + 6 := by omega
    have n7 : ¬ (4 : Int) = 25 + 8 * h 66 4 + 7 := by omega
    simp only [hup, true_and, Int.add_zero, n0, n1, n2, n3, n4, n5, n6, n7, if_false]
  · refine ⟨ok_Mo_lays_, Nat.le_of_ble_eq_true rfl, ?_⟩
    refine wq_aload_n (kk := 0) (q := 1) rfl rfl rfl ?_
    refine wq_iconst (n := 4) (q := 2) rfl rfl rfl ?_
    refine wq_iald (q := 3) rfl (Or.inl ⟨rfl, Nat.le_of_ble_eq_true rfl⟩) rfl rfl (by first | omega | (simp only [hup_j (show ¬ (4 : Int) = 25 + 8 * h 67 4 + 0 by omega), hup_j (show ¬ (4 : Int) = 25 + 8 * h 67 4 + 1 by omega), hup_j (show ¬ (4 : Int) = 25 + 8 * h 67 4 + 2 by omega), hup_j (show ¬ (4 : Int) = 25 + 8 * h 67 4 + 3 by omega), hup_j (show ¬ (4 : Int) = 25 + 8 * h 67 4 + 4 by omega), hup_j (show ¬ (4 : Int) = 25 + 8 * h 67 4 + 5 by omega), hup_j (show ¬ (4 : Int) = 25 + 8 * h 67 4 + 6 by omega), hup_j (show ¬ (4 : Int) = 25 + 8 * h 67 4 + 7 by omega)]; omega)) (by first | omega | (simp only [hup_j (show ¬ (4 : Int) = 25 + 8 * h 67 4 + 0 by omega), hup_j (show ¬ (4 : Int) = 25 + 8 * h 67 4 + 1 by omega), hup_j (show ¬ (4 : Int) = 25 + 8 * h 67 4 + 2 by omega), hup_j (show ¬ (4 : Int) = 25 + 8 * h 67 4 + 3 by omega), hup_j (show ¬ (4 : Int) = 25 + 8 * h 67 4 + 4 by omega), hup_j (show ¬ (4 : Int) = 25 + 8 * h 67 4 + 5 by omega), hup_j (show ¬ (4 : Int) = 25 + 8 * h 67 4 + 6 by omega), hup_j (show ¬ (4 : Int) = 25 + 8 * h 67 4 + 7 by omega)]; omega)) ?_
    refine wq_istore (i := 7) (q := 5) rfl rfl (Nat.le_of_ble_eq_true rfl) rfl ?_
    refine wq_aload_n (kk := 0) (q := 6) rfl rfl rfl ?_
    refine wq_iload (i := 7) (q := 8) rfl rfl rfl ?_
    refine wq_iconst (n := 0) (q := 9) rfl rfl rfl ?_
    refine wq_callS (q := 12) (m' := m_Mo_at) (R' := rm 1) (As := [_, _]) rfl rfl l_Mo_209 sm_Mo_at rfl (Nat.le_of_ble_eq_true rfl) (Nat.le_of_ble_eq_true rfl) (Nat.le_refl _) (Nat.le_refl _) (Nat.le_of_ble_eq_true rfl) (Mo_at_ok _ _ _ _ (by omega) (by omega)) rfl ?_
    rintro rv h r ⟨rfl, rfl, rfl⟩ -
    refine wq_iload_n (kk := 1) (q := 13) rfl rfl rfl ?_
    refine wq_iast (q := 14) rfl (Or.inl ⟨rfl, Nat.le_of_ble_eq_true rfl⟩) rfl rfl (by first | omega | (simp only [hup_j (show ¬ (4 : Int) = 25 + 8 * h 67 4 + 0 by omega), hup_j (show ¬ (4 : Int) = 25 + 8 * h 67 4 + 1 by omega), hup_j (show ¬ (4 : Int) = 25 + 8 * h 67 4 + 2 by omega), hup_j (show ¬ (4 : Int) = 25 + 8 * h 67 4 + 3 by omega), hup_j (show ¬ (4 : Int) = 25 + 8 * h 67 4 + 4 by omega), hup_j (show ¬ (4 : Int) = 25 + 8 * h 67 4 + 5 by omega), hup_j (show ¬ (4 : Int) = 25 + 8 * h 67 4 + 6 by omega), hup_j (show ¬ (4 : Int) = 25 + 8 * h 67 4 + 7 by omega)]; omega)) (by first | omega | (simp only [hup_j (show ¬ (4 : Int) = 25 + 8 * h 67 4 + 0 by omega), hup_j (show ¬ (4 : Int) = 25 + 8 * h 67 4 + 1 by omega), hup_j (show ¬ (4 : Int) = 25 + 8 * h 67 4 + 2 by omega), hup_j (show ¬ (4 : Int) = 25 + 8 * h 67 4 + 3 by omega), hup_j (show ¬ (4 : Int) = 25 + 8 * h 67 4 + 4 by omega), hup_j (show ¬ (4 : Int) = 25 + 8 * h 67 4 + 5 by omega), hup_j (show ¬ (4 : Int) = 25 + 8 * h 67 4 + 6 by omega), hup_j (show ¬ (4 : Int) = 25 + 8 * h 67 4 + 7 by omega)]; omega)) ?_
    refine wq_aload_n (kk := 0) (q := 15) rfl rfl rfl ?_
    refine wq_iload (i := 7) (q := 17) rfl rfl rfl ?_
    refine wq_iconst (n := 1) (q := 18) rfl rfl rfl ?_
    refine wq_callS (q := 21) (m' := m_Mo_at) (R' := rm 1) (As := [_, _]) rfl rfl l_Mo_209 sm_Mo_at rfl (Nat.le_of_ble_eq_true rfl) (Nat.le_of_ble_eq_true rfl) (Nat.le_refl _) (Nat.le_refl _) (Nat.le_of_ble_eq_true rfl) (Mo_at_ok _ _ _ _ (by omega) (by omega)) rfl ?_
    rintro rv h r ⟨rfl, rfl, rfl⟩ -
    refine wq_iload_n (kk := 2) (q := 22) rfl rfl rfl ?_
    refine wq_iast (q := 23) rfl (Or.inl ⟨rfl, Nat.le_of_ble_eq_true rfl⟩) rfl rfl (by first | omega | (simp only [hup_j (show ¬ (4 : Int) = 25 + 8 * h 67 4 + 0 by omega), hup_j (show ¬ (4 : Int) = 25 + 8 * h 67 4 + 1 by omega), hup_j (show ¬ (4 : Int) = 25 + 8 * h 67 4 + 2 by omega), hup_j (show ¬ (4 : Int) = 25 + 8 * h 67 4 + 3 by omega), hup_j (show ¬ (4 : Int) = 25 + 8 * h 67 4 + 4 by omega), hup_j (show ¬ (4 : Int) = 25 + 8 * h 67 4 + 5 by omega), hup_j (show ¬ (4 : Int) = 25 + 8 * h 67 4 + 6 by omega), hup_j (show ¬ (4 : Int) = 25 + 8 * h 67 4 + 7 by omega)]; omega)) (by first | omega | (simp only [hup_j (show ¬ (4 : Int) = 25 + 8 * h 67 4 + 0 by omega), hup_j (show ¬ (4 : Int) = 25 + 8 * h 67 4 + 1 by omega), hup_j (show ¬ (4 : Int) = 25 + 8 * h 67 4 + 2 by omega), hup_j (show ¬ (4 : Int) = 25 + 8 * h 67 4 + 3 by omega), hup_j (show ¬ (4 : Int) = 25 + 8 * h 67 4 + 4 by omega), hup_j (show ¬ (4 : Int) = 25 + 8 * h 67 4 + 5 by omega), hup_j (show ¬ (4 : Int) = 25 + 8 * h 67 4 + 6 by omega), hup_j (show ¬ (4 : Int) = 25 + 8 * h 67 4 + 7 by omega)]; omega)) ?_
    refine wq_aload_n (kk := 0) (q := 24) rfl rfl rfl ?_
    refine wq_iload (i := 7) (q := 26) rfl rfl rfl ?_
    refine wq_iconst (n := 2) (q := 27) rfl rfl rfl ?_
    refine wq_callS (q := 30) (m' := m_Mo_at) (R' := rm 1) (As := [_, _]) rfl rfl l_Mo_209 sm_Mo_at rfl (Nat.le_of_ble_eq_true rfl) (Nat.le_of_ble_eq_true rfl) (Nat.le_refl _) (Nat.le_refl _) (Nat.le_of_ble_eq_true rfl) (Mo_at_ok _ _ _ _ (by omega) (by omega)) rfl ?_
    rintro rv h r ⟨rfl, rfl, rfl⟩ -
    refine wq_iload_n (kk := 3) (q := 31) rfl rfl rfl ?_
    refine wq_iast (q := 32) rfl (Or.inl ⟨rfl, Nat.le_of_ble_eq_true rfl⟩) rfl rfl (by first | omega | (simp only [hup_j (show ¬ (4 : Int) = 25 + 8 * h 67 4 + 0 by omega), hup_j (show ¬ (4 : Int) = 25 + 8 * h 67 4 + 1 by omega), hup_j (show ¬ (4 : Int) = 25 + 8 * h 67 4 + 2 by omega), hup_j (show ¬ (4 : Int) = 25 + 8 * h 67 4 + 3 by omega), hup_j (show ¬ (4 : Int) = 25 + 8 * h 67 4 + 4 by omega), hup_j (show ¬ (4 : Int) = 25 + 8 * h 67 4 + 5 by omega), hup_j (show ¬ (4 : Int) = 25 + 8 * h 67 4 + 6 by omega), hup_j (show ¬ (4 : Int) = 25 + 8 * h 67 4 + 7 by omega)]; omega)) (by first | omega | (simp only [hup_j (show ¬ (4 : Int) = 25 + 8 * h 67 4 + 0 by omega), hup_j (show ¬ (4 : Int) = 25 + 8 * h 67 4 + 1 by omega), hup_j (show ¬ (4 : Int) = 25 + 8 * h 67 4 + 2 by omega), hup_j (show ¬ (4 : Int) = 25 + 8 * h 67 4 + 3 by omega), hup_j (show ¬ (4 : Int) = 25 + 8 * h 67 4 + 4 by omega), hup_j (show ¬ (4 : Int) = 25 + 8 * h 67 4 + 5 by omega), hup_j (show ¬ (4 : Int) = 25 + 8 * h 67 4 + 6 by omega), hup_j (show ¬ (4 : Int) = 25 + 8 * h 67 4 + 7 by omega)]; omega)) ?_
    refine wq_aload_n (kk := 0) (q := 33) rfl rfl rfl ?_
    refine wq_iload (i := 7) (q := 35) rfl rfl rfl ?_
    refine wq_iconst (n := 3) (q := 36) rfl rfl rfl ?_
    refine wq_callS (q := 39) (m' := m_Mo_at) (R' := rm 1) (As := [_, _]) rfl rfl l_Mo_209 sm_Mo_at rfl (Nat.le_of_ble_eq_true rfl) (Nat.le_of_ble_eq_true rfl) (Nat.le_refl _) (Nat.le_refl _) (Nat.le_of_ble_eq_true rfl) (Mo_at_ok _ _ _ _ (by omega) (by omega)) rfl ?_
    rintro rv h r ⟨rfl, rfl, rfl⟩ -
    refine wq_iload (i := 4) (q := 41) rfl rfl rfl ?_
    refine wq_iast (q := 42) rfl (Or.inl ⟨rfl, Nat.le_of_ble_eq_true rfl⟩) rfl rfl (by first | omega | (simp only [hup_j (show ¬ (4 : Int) = 25 + 8 * h 67 4 + 0 by omega), hup_j (show ¬ (4 : Int) = 25 + 8 * h 67 4 + 1 by omega), hup_j (show ¬ (4 : Int) = 25 + 8 * h 67 4 + 2 by omega), hup_j (show ¬ (4 : Int) = 25 + 8 * h 67 4 + 3 by omega), hup_j (show ¬ (4 : Int) = 25 + 8 * h 67 4 + 4 by omega), hup_j (show ¬ (4 : Int) = 25 + 8 * h 67 4 + 5 by omega), hup_j (show ¬ (4 : Int) = 25 + 8 * h 67 4 + 6 by omega), hup_j (show ¬ (4 : Int) = 25 + 8 * h 67 4 + 7 by omega)]; omega)) (by first | omega | (simp only [hup_j (show ¬ (4 : Int) = 25 + 8 * h 67 4 + 0 by omega), hup_j (show ¬ (4 : Int) = 25 + 8 * h 67 4 + 1 by omega), hup_j (show ¬ (4 : Int) = 25 + 8 * h 67 4 + 2 by omega), hup_j (show ¬ (4 : Int) = 25 + 8 * h 67 4 + 3 by omega), hup_j (show ¬ (4 : Int) = 25 + 8 * h 67 4 + 4 by omega), hup_j (show ¬ (4 : Int) = 25 + 8 * h 67 4 + 5 by omega), hup_j (show ¬ (4 : Int) = 25 + 8 * h 67 4 + 6 by omega), hup_j (show ¬ (4 : Int) = 25 + 8 * h 67 4 + 7 by omega)]; omega)) ?_
    refine wq_aload_n (kk := 0) (q := 43) rfl rfl rfl ?_
    refine wq_iload (i := 7) (q := 45) rfl rfl rfl ?_
    refine wq_iconst (n := 4) (q := 46) rfl rfl rfl ?_
    refine wq_callS (q := 49) (m' := m_Mo_at) (R' := rm 1) (As := [_, _]) rfl rfl l_Mo_209 sm_Mo_at rfl (Nat.le_of_ble_eq_true rfl) (Nat.le_of_ble_eq_true rfl) (Nat.le_refl _) (Nat.le_refl _) (Nat.le_of_ble_eq_true rfl) (Mo_at_ok _ _ _ _ (by omega) (by omega)) rfl ?_
    rintro rv h r ⟨rfl, rfl, rfl⟩ -
    refine wq_iload (i := 5) (q := 51) rfl rfl rfl ?_
    refine wq_iast (q := 52) rfl (Or.inl ⟨rfl, Nat.le_of_ble_eq_true rfl⟩) rfl rfl (by first | omega | (simp only [hup_j (show ¬ (4 : Int) = 25 + 8 * h 67 4 + 0 by omega), hup_j (show ¬ (4 : Int) = 25 + 8 * h 67 4 + 1 by omega), hup_j (show ¬ (4 : Int) = 25 + 8 * h 67 4 + 2 by omega), hup_j (show ¬ (4 : Int) = 25 + 8 * h 67 4 + 3 by omega), hup_j (show ¬ (4 : Int) = 25 + 8 * h 67 4 + 4 by omega), hup_j (show ¬ (4 : Int) = 25 + 8 * h 67 4 + 5 by omega), hup_j (show ¬ (4 : Int) = 25 + 8 * h 67 4 + 6 by omega), hup_j (show ¬ (4 : Int) = 25 + 8 * h 67 4 + 7 by omega)]; omega)) (by first | omega | (simp only [hup_j (show ¬ (4 : Int) = 25 + 8 * h 67 4 + 0 by omega), hup_j (show ¬ (4 : Int) = 25 + 8 * h 67 4 + 1 by omega), hup_j (show ¬ (4 : Int) = 25 + 8 * h 67 4 + 2 by omega), hup_j (show ¬ (4 : Int) = 25 + 8 * h 67 4 + 3 by omega), hup_j (show ¬ (4 : Int) = 25 + 8 * h 67 4 + 4 by omega), hup_j (show ¬ (4 : Int) = 25 + 8 * h 67 4 + 5 by omega), hup_j (show ¬ (4 : Int) = 25 + 8 * h 67 4 + 6 by omega), hup_j (show ¬ (4 : Int) = 25 + 8 * h 67 4 + 7 by omega)]; omega)) ?_
    refine wq_aload_n (kk := 0) (q := 53) rfl rfl rfl ?_
    refine wq_iload (i := 7) (q := 55) rfl rfl rfl ?_
    refine wq_iconst (n := 5) (q := 56) rfl rfl rfl ?_
    refine wq_callS (q := 59) (m' := m_Mo_at) (R' := rm 1) (As := [_, _]) rfl rfl l_Mo_209 sm_Mo_at rfl (Nat.le_of_ble_eq_true rfl) (Nat.le_of_ble_eq_true rfl) (Nat.le_refl _) (Nat.le_refl _) (Nat.le_of_ble_eq_true rfl) (Mo_at_ok _ _ _ _ (by omega) (by omega)) rfl ?_
    rintro rv h r ⟨rfl, rfl, rfl⟩ -
    refine wq_iconst (n := 0) (q := 60) rfl rfl rfl ?_
    refine wq_iast (q := 61) rfl (Or.inl ⟨rfl, Nat.le_of_ble_eq_true rfl⟩) rfl rfl (by first | omega | (simp only [hup_j (show ¬ (4 : Int) = 25 + 8 * h 67 4 + 0 by omega), hup_j (show ¬ (4 : Int) = 25 + 8 * h 67 4 + 1 by omega), hup_j (show ¬ (4 : Int) = 25 + 8 * h 67 4 + 2 by omega), hup_j (show ¬ (4 : Int) = 25 + 8 * h 67 4 + 3 by omega), hup_j (show ¬ (4 : Int) = 25 + 8 * h 67 4 + 4 by omega), hup_j (show ¬ (4 : Int) = 25 + 8 * h 67 4 + 5 by omega), hup_j (show ¬ (4 : Int) = 25 + 8 * h 67 4 + 6 by omega), hup_j (show ¬ (4 : Int) = 25 + 8 * h 67 4 + 7 by omega)]; omega)) (by first | omega | (simp only [hup_j (show ¬ (4 : Int) = 25 + 8 * h 67 4 + 0 by omega), hup_j (show ¬ (4 : Int) = 25 + 8 * h 67 4 + 1 by omega), hup_j (show ¬ (4 : Int) = 25 + 8 * h 67 4 + 2 by omega), hup_j (show ¬ (4 : Int) = 25 + 8 * h 67 4 + 3 by omega), hup_j (show ¬ (4 : Int) = 25 + 8 * h 67 4 + 4 by omega), hup_j (show ¬ (4 : Int) = 25 + 8 * h 67 4 + 5 by omega), hup_j (show ¬ (4 : Int) = 25 + 8 * h 67 4 + 6 by omega), hup_j (show ¬ (4 : Int) = 25 + 8 * h 67 4 + 7 by omega)]; omega)) ?_
    refine wq_aload_n (kk := 0) (q := 62) rfl rfl rfl ?_
    refine wq_iload (i := 7) (q := 64) rfl rfl rfl ?_
    refine wq_bipush (n := 6) (q := 66) rfl rfl rfl ?_
    refine wq_callS (q := 69) (m' := m_Mo_at) (R' := rm 1) (As := [_, _]) rfl rfl l_Mo_209 sm_Mo_at rfl (Nat.le_of_ble_eq_true rfl) (Nat.le_of_ble_eq_true rfl) (Nat.le_refl _) (Nat.le_refl _) (Nat.le_of_ble_eq_true rfl) (Mo_at_ok _ _ _ _ (by omega) (by omega)) rfl ?_
    rintro rv h r ⟨rfl, rfl, rfl⟩ -
    refine wq_iconst (n := 1) (q := 70) rfl rfl rfl ?_
    refine wq_iast (q := 71) rfl (Or.inl ⟨rfl, Nat.le_of_ble_eq_true rfl⟩) rfl rfl (by first | omega | (simp only [hup_j (show ¬ (4 : Int) = 25 + 8 * h 67 4 + 0 by omega), hup_j (show ¬ (4 : Int) = 25 + 8 * h 67 4 + 1 by omega), hup_j (show ¬ (4 : Int) = 25 + 8 * h 67 4 + 2 by omega), hup_j (show ¬ (4 : Int) = 25 + 8 * h 67 4 + 3 by omega), hup_j (show ¬ (4 : Int) = 25 + 8 * h 67 4 + 4 by omega), hup_j (show ¬ (4 : Int) = 25 + 8 * h 67 4 + 5 by omega), hup_j (show ¬ (4 : Int) = 25 + 8 * h 67 4 + 6 by omega), hup_j (show ¬ (4 : Int) = 25 + 8 * h 67 4 + 7 by omega)]; omega)) (by first | omega | (simp only [hup_j (show ¬ (4 : Int) = 25 + 8 * h 67 4 + 0 by omega), hup_j (show ¬ (4 : Int) = 25 + 8 * h 67 4 + 1 by omega), hup_j (show ¬ (4 : Int) = 25 + 8 * h 67 4 + 2 by omega), hup_j (show ¬ (4 : Int) = 25 + 8 * h 67 4 + 3 by omega), hup_j (show ¬ (4 : Int) = 25 + 8 * h 67 4 + 4 by omega), hup_j (show ¬ (4 : Int) = 25 + 8 * h 67 4 + 5 by omega), hup_j (show ¬ (4 : Int) = 25 + 8 * h 67 4 + 6 by omega), hup_j (show ¬ (4 : Int) = 25 + 8 * h 67 4 + 7 by omega)]; omega)) ?_
    refine wq_aload_n (kk := 0) (q := 72) rfl rfl rfl ?_
    refine wq_iload (i := 7) (q := 74) rfl rfl rfl ?_
    refine wq_bipush (n := 7) (q := 76) rfl rfl rfl ?_
    refine wq_callS (q := 79) (m' := m_Mo_at) (R' := rm 1) (As := [_, _]) rfl rfl l_Mo_209 sm_Mo_at rfl (Nat.le_of_ble_eq_true rfl) (Nat.le_of_ble_eq_true rfl) (Nat.le_refl _) (Nat.le_refl _) (Nat.le_of_ble_eq_true rfl) (Mo_at_ok _ _ _ _ (by omega) (by omega)) rfl ?_
    rintro rv h r ⟨rfl, rfl, rfl⟩ -
    refine wq_iload (i := 6) (q := 81) rfl rfl rfl ?_
    refine wq_iast (q := 82) rfl (Or.inl ⟨rfl, Nat.le_of_ble_eq_true rfl⟩) rfl rfl (by first | omega | (simp only [hup_j (show ¬ (4 : Int) = 25 + 8 * h 67 4 + 0 by omega), hup_j (show ¬ (4 : Int) = 25 + 8 * h 67 4 + 1 by omega), hup_j (show ¬ (4 : Int) = 25 + 8 * h 67 4 + 2 by omega), hup_j (show ¬ (4 : Int) = 25 + 8 * h 67 4 + 3 by omega), hup_j (show ¬ (4 : Int) = 25 + 8 * h 67 4 + 4 by omega), hup_j (show ¬ (4 : Int) = 25 + 8 * h 67 4 + 5 by omega), hup_j (show ¬ (4 : Int) = 25 + 8 * h 67 4 + 6 by omega), hup_j (show ¬ (4 : Int) = 25 + 8 * h 67 4 + 7 by omega)]; omega)) (by first | omega | (simp only [hup_j (show ¬ (4 : Int) = 25 + 8 * h 67 4 + 0 by omega), hup_j (show ¬ (4 : Int) = 25 + 8 * h 67 4 + 1 by omega), hup_j (show ¬ (4 : Int) = 25 + 8 * h 67 4 + 2 by omega), hup_j (show ¬ (4 : Int) = 25 + 8 * h 67 4 + 3 by omega), hup_j (show ¬ (4 : Int) = 25 + 8 * h 67 4 + 4 by omega), hup_j (show ¬ (4 : Int) = 25 + 8 * h 67 4 + 5 by omega), hup_j (show ¬ (4 : Int) = 25 + 8 * h 67 4 + 6 by omega), hup_j (show ¬ (4 : Int) = 25 + 8 * h 67 4 + 7 by omega)]; omega)) ?_
    refine wq_aload_n (kk := 0) (q := 83) rfl rfl rfl ?_
    refine wq_iconst (n := 4) (q := 84) rfl rfl rfl ?_
    refine wq_dup2 (q := 85) rfl rfl rfl rfl ?_
    refine wq_iald (q := 86) rfl (Or.inl ⟨rfl, Nat.le_of_ble_eq_true rfl⟩) rfl rfl (by first | omega | (simp only [hup_j (show ¬ (4 : Int) = 25 + 8 * h 67 4 + 0 by omega), hup_j (show ¬ (4 : Int) = 25 + 8 * h 67 4 + 1 by omega), hup_j (show ¬ (4 : Int) = 25 + 8 * h 67 4 + 2 by omega), hup_j (show ¬ (4 : Int) = 25 + 8 * h 67 4 + 3 by omega), hup_j (show ¬ (4 : Int) = 25 + 8 * h 67 4 + 4 by omega), hup_j (show ¬ (4 : Int) = 25 + 8 * h 67 4 + 5 by omega), hup_j (show ¬ (4 : Int) = 25 + 8 * h 67 4 + 6 by omega), hup_j (show ¬ (4 : Int) = 25 + 8 * h 67 4 + 7 by omega)]; omega)) (by first | omega | (simp only [hup_j (show ¬ (4 : Int) = 25 + 8 * h 67 4 + 0 by omega), hup_j (show ¬ (4 : Int) = 25 + 8 * h 67 4 + 1 by omega), hup_j (show ¬ (4 : Int) = 25 + 8 * h 67 4 + 2 by omega), hup_j (show ¬ (4 : Int) = 25 + 8 * h 67 4 + 3 by omega), hup_j (show ¬ (4 : Int) = 25 + 8 * h 67 4 + 4 by omega), hup_j (show ¬ (4 : Int) = 25 + 8 * h 67 4 + 5 by omega), hup_j (show ¬ (4 : Int) = 25 + 8 * h 67 4 + 6 by omega), hup_j (show ¬ (4 : Int) = 25 + 8 * h 67 4 + 7 by omega)]; omega)) ?_
    refine wq_iconst (n := 1) (q := 87) rfl rfl rfl ?_
    refine wq_iadd (q := 88) rfl rfl (by first | omega | (simp only [hup_j (show ¬ (4 : Int) = 25 + 8 * h 67 4 + 0 by omega), hup_j (show ¬ (4 : Int) = 25 + 8 * h 67 4 + 1 by omega), hup_j (show ¬ (4 : Int) = 25 + 8 * h 67 4 + 2 by omega), hup_j (show ¬ (4 : Int) = 25 + 8 * h 67 4 + 3 by omega), hup_j (show ¬ (4 : Int) = 25 + 8 * h 67 4 + 4 by omega), hup_j (show ¬ (4 : Int) = 25 + 8 * h 67 4 + 5 by omega), hup_j (show ¬ (4 : Int) = 25 + 8 * h 67 4 + 6 by omega), hup_j (show ¬ (4 : Int) = 25 + 8 * h 67 4 + 7 by omega)]; omega)) (by first | omega | (simp only [hup_j (show ¬ (4 : Int) = 25 + 8 * h 67 4 + 0 by omega), hup_j (show ¬ (4 : Int) = 25 + 8 * h 67 4 + 1 by omega), hup_j (show ¬ (4 : Int) = 25 + 8 * h 67 4 + 2 by omega), hup_j (show ¬ (4 : Int) = 25 + 8 * h 67 4 + 3 by omega), hup_j (show ¬ (4 : Int) = 25 + 8 * h 67 4 + 4 by omega), hup_j (show ¬ (4 : Int) = 25 + 8 * h 67 4 + 5 by omega), hup_j (show ¬ (4 : Int) = 25 + 8 * h 67 4 + 6 by omega), hup_j (show ¬ (4 : Int) = 25 + 8 * h 67 4 + 7 by omega)]; omega)) ?_
    refine wq_iast (q := 89) rfl (Or.inl ⟨rfl, Nat.le_of_ble_eq_true rfl⟩) rfl rfl (by first | omega | (simp only [hup_j (show ¬ (4 : Int) = 25 + 8 * h 67 4 + 0 by omega), hup_j (show ¬ (4 : Int) = 25 + 8 * h 67 4 + 1 by omega), hup_j (show ¬ (4 : Int) = 25 + 8 * h 67 4 + 2 by omega), hup_j (show ¬ (4 : Int) = 25 + 8 * h 67 4 + 3 by omega), hup_j (show ¬ (4 : Int) = 25 + 8 * h 67 4 + 4 by omega), hup_j (show ¬ (4 : Int) = 25 + 8 * h 67 4 + 5 by omega), hup_j (show ¬ (4 : Int) = 25 + 8 * h 67 4 + 6 by omega), hup_j (show ¬ (4 : Int) = 25 + 8 * h 67 4 + 7 by omega)]; omega)) (by first | omega | (simp only [hup_j (show ¬ (4 : Int) = 25 + 8 * h 67 4 + 0 by omega), hup_j (show ¬ (4 : Int) = 25 + 8 * h 67 4 + 1 by omega), hup_j (show ¬ (4 : Int) = 25 + 8 * h 67 4 + 2 by omega), hup_j (show ¬ (4 : Int) = 25 + 8 * h 67 4 + 3 by omega), hup_j (show ¬ (4 : Int) = 25 + 8 * h 67 4 + 4 by omega), hup_j (show ¬ (4 : Int) = 25 + 8 * h 67 4 + 5 by omega), hup_j (show ¬ (4 : Int) = 25 + 8 * h 67 4 + 6 by omega), hup_j (show ¬ (4 : Int) = 25 + 8 * h 67 4 + 7 by omega)]; omega)) ?_
    refine wq_vret rfl rfl (Nat.le_refl _) (Nat.le_refl _) ⟨rfl, rfl, ((((((((fr.rf.up (by decide)).up (by decide)).up (by decide)).up (by decide)).up (by decide)).up (by decide)).up (by decide)).up (by decide)).up (by decide), ?_⟩
    funext j
    unfold add1 up
    have n0 : ¬ (4 : Int) = 25 + 8 * h 67 4 := by omega
    have n1 : ¬ (4 : Int) = 25 + 8 * h 67 4 + 1 := by omega
    have n2 : ¬ (4 : Int) = 25 + 8 * h 67 4 + 2 := by omega
    have n3 : ¬ (4 : Int) = 25 + 8 * h 67 4 + 3 := by omega
    have n4 : ¬ (4 : Int) = 25 + 8 * h 67 4 + 4 := by omega
    have n5 : ¬ (4 : Int) = 25 + 8 * h 67 4 + 5 := by omega
    have n6 : ¬ (4 : Int) = 25 + 8 * h 67 4 + 6 := by omega
    have n7 : ¬ (4 : Int) = 25 + 8 * h 67 4 + 7 := by omega
    simp only [hup, true_and, Int.add_zero, n0, n1, n2, n3, n4, n5, n6, n7, if_false]

/-! LinkTimesModel: words and names -/
theorem kR_1 {k : Int} : kR k = 2 ↔ k = 1 := by unfold kR; repeat (first | omega | split)
theorem kR_2 {k : Int} : kR k = 3 ↔ k = 2 := by unfold kR; repeat (first | omega | split)
theorem kR_3 {k : Int} : kR k = 59 ↔ k = 3 := by unfold kR; repeat (first | omega | split)
theorem kR_4 {k : Int} : kR k = 0 ↔ k = 4 := by unfold kR; repeat (first | omega | split)
/-- a letter of a word, as the reference has it -/
theorem ltr_R {T : mF} {n p j : Int} {h : mH} (hS : rdR T n p h) (h1 : tK T n p = 1) (j0 : tS T n p ≤ j) (j1 : j < tE T n p) : h 65 j = T j ∧ 97 ≤ T j ∧ T j ≤ 122 := by
  have a := (tk_w hS.2.2.2.2 h1).2.2.2 j j0 j1
  have hs := tS_s (T := T) hS.2.2.2.2
  have he := tE_s (T := T) hS.2.2.2.2
  have hp := hS.2.2.2.1
  have b := (hS.1 j (by omega) (by omega)).2
  unfold bq at b
  omega
set_option maxRecDepth 100000 in
set_option maxHeartbeats 1000000 in
theorem Mo_isWord_lp (j : Nat) (hj : j < 11) (T : mF) (n p : Int) (h : mH) (r : mR) (hS : rdR T n p h) (hk : tkR T n p h) (h1 : tK T n p = 1) (h2 : tE T n p - tS T n p = sLen j) : ∀ (M : Nat) (i : Int), (sLen j - i).toNat = M → 0 ≤ i → i ≤ sLen j → (∀ x, 0 ≤ x → x < i → T (tS T n p + x) = sCh j x) → WP (true, rm 6) m_Mo_isWord (rt m_Mo_isWord (rm 6) (pI (bI (Wd T n p j)) h r)) 28 [some (vR 64), some (vR (sBase + j)), some (vI i)] [] h r (0, 0) := by
  intro M
  induction M using Nat.strongRecOn with
  | ind M ih =>
    intro i hM i0 i1 hx
    have e13 := hk.1
    have hb := hS.2.2.1
    have hp := hS.2.2.2.1
    have hs := tS_s (T := T) hS.2.2.2.2
    have he := tE_s (T := T) hS.2.2.2.2
    have xi : i < sLen j → h 65 (h 64 13 + i) = T (tS T n p + i) := fun z => by rw [e13]; exact (ltr_R hS h1 (by omega) (by omega)).1
    refine wq_iload_n (kk := 2) (q := 29) rfl rfl rfl ?_
    refine wq_aload_n (kk := 1) (q := 30) rfl rfl rfl ?_
    refine wq_callVs (q := 33) (m' := m_Js_length) (R' := rm 2) (As := []) rfl rfl l_Mo_114 vm_Js_length rfl rfl hj (Nat.le_of_ble_eq_true rfl) (Nat.le_of_ble_eq_true rfl) (Nat.le_refl _) (Nat.le_refl _) (Nat.le_of_ble_eq_true rfl) (Js_length_ok hj) rfl ?_
    rintro rv h' r' ⟨rfl, rfl, rfl⟩ -
    refine wq_icmp_ge (tgt := 63) (q := 36) rfl rfl rfl (fun c33 => ?_) (fun c33 => ?_)
    · skip
      refine wq_iconst (n := 1) (q := 64) rfl rfl rfl ?_
      refine wq_zret rfl rfl (Nat.le_refl _) (Nat.le_refl _) (by omega) (pC_t ⟨h1, h2, fun x x0 x1 => hx x x0 (by omega)⟩)
    · skip
      refine wq_aload_n (kk := 0) (q := 37) rfl rfl rfl ?_
      refine wq_getF (q := 40) f_Mo_13 rfl rfl (Nat.le_of_ble_eq_true rfl) rfl rfl rfl ?_
      refine wq_aload_n (kk := 0) (q := 41) rfl rfl rfl ?_
      refine wq_getI (kz := 13) (q := 44) rfl f_Mo_101 rfl rfl (Or.inl ⟨rfl, Nat.le_of_ble_eq_true rfl⟩) rfl rfl ?_
      refine wq_iload_n (kk := 2) (q := 45) rfl rfl rfl ?_
      refine wq_iadd (q := 46) rfl rfl (by first | omega | (simp [hup]; omega)) (by first | omega | (simp [hup]; omega)) ?_
      refine wq_iald (q := 47) rfl (Or.inl ⟨rfl, Nat.le_of_ble_eq_true rfl⟩) rfl rfl (by first | omega | (simp [hup]; omega)) (by first | omega | (simp [hup]; omega)) ?_
      refine wq_aload_n (kk := 1) (q := 48) rfl rfl rfl ?_
      refine wq_iload_n (kk := 2) (q := 49) rfl rfl rfl ?_
      refine wq_callVs (q := 52) (m' := m_Js_charAt) (R' := rm 4) (As := [_]) rfl rfl l_Mo_120 vm_Js_charAt rfl rfl hj (Nat.le_of_ble_eq_true rfl) (Nat.le_of_ble_eq_true rfl) (Nat.le_refl _) (Nat.le_refl _) (Nat.le_of_ble_eq_true rfl) (Js_charAt_ok hj (by first | omega | (simp [hup]; omega)) (by first | omega | (simp [hup]; omega))) rfl ?_
      rintro rv h' r' ⟨rfl, rfl, rfl⟩ -
      refine wq_icmp_eq (tgt := 57) (q := 55) rfl rfl rfl (fun c52 => ?_) (fun c52 => ?_)
      · skip
        refine wq_iinc (i := 2) (n := 1) (q := 60) rfl rfl rfl (Nat.le_of_ble_eq_true rfl) rfl (by first | omega | (simp [hup]; omega)) (by first | omega | (simp [hup]; omega)) ?_
        refine wq_goto (tgt := 28) rfl rfl ?_
        refine ih _ (by omega) (i + 1) rfl (by omega) (by omega) (fun x x0 x1 => ?_)
        by_cases e : x = i
        · subst e
          have := xi (by omega)
          omega
        · exact hx x x0 (by omega)
      · skip
        refine wq_iconst (n := 0) (q := 56) rfl rfl rfl ?_
        refine wq_zret rfl rfl (Nat.le_refl _) (Nat.le_refl _) (by omega) (pC_f (fun z => ?_))
        have := z.2.2 i i0 (by omega)
        have := xi (by omega)
        omega
set_option maxRecDepth 100000 in
set_option maxHeartbeats 1000000 in
theorem Mo_isWord_ok (j : Nat) (hj : j < 11) (T : mF) (n p : Int) (h : mH) (r : mR) (hS : rdR T n p h) (hk : tkR T n p h) : Meets true (rm 6) m_Mo_isWord [vR 64, vR (sBase + j)] h r (pI (bI (Wd T n p j)) h r) := by
  have e13 := hk.1
  have e15 := hk.2.1
  have k1 := kR_1 (k := tK T n p)
  have e14 : tK T n p = 1 → h 64 14 = tE T n p := fun z => hk.2.2.1 (by omega)
  have hb := hS.2.2.1
  have hp := hS.2.2.2.1
  have hs := tS_s (T := T) hS.2.2.2.2
  have he := tE_s (T := T) hS.2.2.2.2
  refine ⟨ok_Mo_isWord, Nat.le_of_ble_eq_true rfl, ?_⟩
  refine wq_aload_n (kk := 0) (q := 1) rfl rfl rfl ?_
  refine wq_getI (kz := 15) (q := 4) rfl f_Mo_104 rfl rfl (Or.inl ⟨rfl, Nat.le_of_ble_eq_true rfl⟩) rfl rfl ?_
  refine wq_iconst (n := 2) (q := 5) rfl rfl rfl ?_
  refine wq_icmp_ne (tgt := 24) (q := 8) rfl rfl rfl (fun c5 => ?_) (fun c5 => ?_)
  · skip
    refine wq_iconst (n := 0) (q := 25) rfl rfl rfl ?_
    refine wq_zret rfl rfl (Nat.le_refl _) (Nat.le_refl _) (by omega) (pC_f (fun z => ?_))
    have z1 := z.1
    have z2 := z.2.1
    have z3 := e14 z1
    have z4 := k1.2 z1
    omega
  · skip
    have h1 : tK T n p = 1 := k1.1 (by omega)
    have e14a := e14 h1
    refine wq_aload_n (kk := 0) (q := 9) rfl rfl rfl ?_
    refine wq_getI (kz := 14) (q := 12) rfl f_Mo_94 rfl rfl (Or.inl ⟨rfl, Nat.le_of_ble_eq_true rfl⟩) rfl rfl ?_
    refine wq_aload_n (kk := 0) (q := 13) rfl rfl rfl ?_
    refine wq_getI (kz := 13) (q := 16) rfl f_Mo_101 rfl rfl (Or.inl ⟨rfl, Nat.le_of_ble_eq_true rfl⟩) rfl rfl ?_
    refine wq_isub (q := 17) rfl rfl (by first | omega | (simp [hup]; omega)) (by first | omega | (simp [hup]; omega)) ?_
    refine wq_aload_n (kk := 1) (q := 18) rfl rfl rfl ?_
    refine wq_callVs (q := 21) (m' := m_Js_length) (R' := rm 2) (As := []) rfl rfl l_Mo_114 vm_Js_length rfl rfl hj (Nat.le_of_ble_eq_true rfl) (Nat.le_of_ble_eq_true rfl) (Nat.le_refl _) (Nat.le_refl _) (Nat.le_of_ble_eq_true rfl) (Js_length_ok hj) rfl ?_
    rintro rv h' r' ⟨rfl, rfl, rfl⟩ -
    refine wq_icmp_eq (tgt := 26) (q := 24) rfl rfl rfl (fun c21 => ?_) (fun c21 => ?_)
    · skip
      refine wq_iconst (n := 0) (q := 27) rfl rfl rfl ?_
      refine wq_istore_n (kk := 2) (q := 28) rfl rfl (Nat.le_of_ble_eq_true rfl) rfl ?_
      exact Mo_isWord_lp j hj T n p _ _ hS hk h1 (by omega) _ 0 rfl (by omega) (by omega) (fun x x0 x1 => by omega)
    · skip
      refine wq_iconst (n := 0) (q := 25) rfl rfl rfl ?_
      refine wq_zret rfl rfl (Nat.le_refl _) (Nat.le_refl _) (by omega) (pC_f (fun z => ?_))
      have z1 := z.1
      have z2 := z.2.1
      have z3 := e14 z1
      have z4 := k1.2 z1
      omega
/-- a fault is set down at the token -/
def erd (h : mH) (k : Int) : mH := hup (hup h 64 17 k) 64 18 (h 64 13)
set_option maxRecDepth 100000 in
theorem Mo_errs_ok (k : Int) (h : mH) (r : mR) : Meets true (rm 1) m_Mo_errs [vR 64, vI k] h r (pI 0 (erd h k) r) := by
  refine ⟨ok_Mo_errs, Nat.le_of_ble_eq_true rfl, ?_⟩
  refine wq_aload_n (kk := 0) (q := 1) rfl rfl rfl ?_
  refine wq_iload_n (kk := 1) (q := 2) rfl rfl rfl ?_
  refine wq_putI (kz := 17) (q := 5) rfl f_Mo_124 rfl rfl rfl (Or.inl ⟨rfl, Nat.le_of_ble_eq_true rfl⟩) rfl rfl ?_
  refine wq_aload_n (kk := 0) (q := 6) rfl rfl rfl ?_
  refine wq_aload_n (kk := 0) (q := 7) rfl rfl rfl ?_
  refine wq_getI (kz := 13) (q := 10) rfl f_Mo_101 rfl rfl (Or.inl ⟨rfl, Nat.le_of_ble_eq_true rfl⟩) rfl rfl ?_
  refine wq_putI (kz := 18) (q := 13) rfl f_Mo_127 rfl rfl rfl (Or.inl ⟨rfl, Nat.le_of_ble_eq_true rfl⟩) rfl rfl ?_
  refine wq_iconst (n := 0) (q := 14) rfl rfl rfl ?_
  refine wq_zret rfl rfl (Nat.le_refl _) (Nat.le_refl _) (by omega) ?_
  refine ⟨rfl, ?_, rfl⟩
  unfold erd
  rw [hup_j (show ¬ (13 : Int) = 17 by decide)]
theorem Mo_errsF_ok (k : Int) (h : mH) (r : mR) : Meets true (rm 1) m_Mo_errs [vR 64, vI k] h r (pI (bI False) (erd h k) r) := by
  rw [bI_f (fun z => z)]
  exact Mo_errs_ok k h r
/-- h1 is h, or h with the fault k -/
def okE (k : Int) (h h1 : mH) : Prop := (k = 0 → h1 = h) ∧ (k ≠ 0 → h1 = erd h k)
set_option maxRecDepth 100000 in
set_option maxHeartbeats 1000000 in
theorem Mo_isName_ok (T : mF) (n p : Int) (h : mH) (r : mR) (hS : rdR T n p h) (hk : tkR T n p h) : Meets true (rm 7) m_Mo_isName [vR 64] h r (fun rv h1 r1 => rv = some (vI (bI (Nm T n p))) ∧ r1 = r ∧ okE (1 - bI (Nm T n p)) h h1) := by
  have e15 := hk.2.1
  have k1 := kR_1 (k := tK T n p)
  have yes : Nm T n p → bI (Nm T n p) = 1 ∧ okE (1 - bI (Nm T n p)) h h := fun z => by
    rw [bI_t z]
    exact ⟨rfl, fun _ => rfl, fun y => absurd rfl y⟩
  have no : ¬ Nm T n p → bI (Nm T n p) = 0 ∧ okE (1 - bI (Nm T n p)) h (erd h 1) := fun z => by
    rw [bI_f z]
    exact ⟨rfl, fun y => absurd y (by decide), fun _ => rfl⟩
  have fin : ∀ v h1 r1, (Nm T n p ∧ v = 1 ∧ h1 = h ∧ r1 = r) ∨ (¬ Nm T n p ∧ v = 0 ∧ h1 = erd h 1 ∧ r1 = r) → (some (vI v) = some (vI (bI (Nm T n p))) ∧ r1 = r ∧ okE (1 - bI (Nm T n p)) h h1) := by
    rintro v h1 r1 (⟨a, rfl, rfl, rfl⟩ | ⟨a, rfl, rfl, rfl⟩)
    · obtain ⟨b, c⟩ := yes a
      exact ⟨by rw [b], rfl, c⟩
    · obtain ⟨b, c⟩ := no a
      exact ⟨by rw [b], rfl, c⟩
  clear yes no
  refine ⟨ok_Mo_isName, Nat.le_of_ble_eq_true rfl, ?_⟩
  refine wq_aload_n (kk := 0) (q := 1) rfl rfl rfl ?_
  refine wq_getI (kz := 15) (q := 4) rfl f_Mo_104 rfl rfl (Or.inl ⟨rfl, Nat.le_of_ble_eq_true rfl⟩) rfl rfl ?_
  refine wq_iconst (n := 2) (q := 5) rfl rfl rfl ?_
  refine wq_icmp_ne (tgt := 44) (q := 8) rfl rfl rfl (fun c5 => ?_) (fun c5 => ?_)
  · skip
    have hN : ¬ Nm T n p := fun z => by
      first
      | (have := k1.2 z.1; omega)
      | exact absurd c14 z.2.1
      | exact absurd c23 z.2.2.1
      | exact absurd c32 z.2.2.2.1
      | exact absurd c41 z.2.2.2.2
    refine wq_aload_n (kk := 0) (q := 45) rfl rfl rfl ?_
    refine wq_iconst (n := 1) (q := 46) rfl rfl rfl ?_
    refine wq_callV (q := 49) (m' := m_Mo_errs) (R' := rm 1) (As := [_]) rfl rfl l_Mo_130 vm_Mo_errs rfl rfl rfl (Or.inl ⟨rfl, Nat.le_of_ble_eq_true rfl⟩) (Nat.le_of_ble_eq_true rfl) (Nat.le_of_ble_eq_true rfl) (Nat.le_refl _) (Nat.le_refl _) (Nat.le_of_ble_eq_true rfl) (Mo_errsF_ok 1 h r) rfl ?_
    rintro rv h2 r ⟨rfl, rfl, rfl⟩ -
    refine wq_cif_eq (tgt := 56) (q := 52) rfl rfl rfl (fun c49 => ?_) (fun c49 => ?_)
    · skip
      refine wq_iconst (n := 0) (q := 57) rfl rfl rfl ?_
      refine wq_zret rfl rfl (Nat.le_refl _) (Nat.le_refl _) (by omega) ?_
      first
      | exact fin _ _ _ (Or.inl ⟨⟨k1.1 (by omega), by assumption, by assumption, by assumption, by assumption⟩, rfl, rfl, rfl⟩)
      | exact fin _ _ _ (Or.inr ⟨hN, rfl, rfl, rfl⟩)
      | exact c49.elim
    · skip
      refine wq_iconst (n := 1) (q := 53) rfl rfl rfl ?_
      refine wq_goto (tgt := 57) rfl rfl ?_
      refine wq_zret rfl rfl (Nat.le_refl _) (Nat.le_refl _) (by omega) ?_
      first
      | exact fin _ _ _ (Or.inl ⟨⟨k1.1 (by omega), by assumption, by assumption, by assumption, by assumption⟩, rfl, rfl, rfl⟩)
      | exact fin _ _ _ (Or.inr ⟨hN, rfl, rfl, rfl⟩)
      | exact c49.elim
  · skip
    refine wq_aload_n (kk := 0) (q := 9) rfl rfl rfl ?_
    refine wq_ldcs (j := 0) (q := 11) (by decide) (Nat.le_of_ble_eq_true rfl) rfl rfl ?_
    refine wq_callV (q := 14) (m' := m_Mo_isWord) (R' := rm 6) (As := [_]) rfl rfl l_Mo_137 vm_Mo_isWord rfl rfl rfl (Or.inl ⟨rfl, Nat.le_of_ble_eq_true rfl⟩) (Nat.le_of_ble_eq_true rfl) (Nat.le_of_ble_eq_true rfl) (Nat.le_refl _) (Nat.le_refl _) (Nat.le_of_ble_eq_true rfl) (Mo_isWord_ok 0 (by decide) T n p h r hS hk) rfl ?_
    rintro rv h r ⟨rfl, rfl, rfl⟩ -
    refine wq_cif_ne (tgt := 44) (q := 17) rfl rfl rfl (fun c14 => ?_) (fun c14 => ?_)
    · skip
      have hN : ¬ Nm T n p := fun z => by
        first
        | (have := k1.2 z.1; omega)
        | exact absurd c14 z.2.1
        | exact absurd c23 z.2.2.1
        | exact absurd c32 z.2.2.2.1
        | exact absurd c41 z.2.2.2.2
      refine wq_aload_n (kk := 0) (q := 45) rfl rfl rfl ?_
      refine wq_iconst (n := 1) (q := 46) rfl rfl rfl ?_
      refine wq_callV (q := 49) (m' := m_Mo_errs) (R' := rm 1) (As := [_]) rfl rfl l_Mo_130 vm_Mo_errs rfl rfl rfl (Or.inl ⟨rfl, Nat.le_of_ble_eq_true rfl⟩) (Nat.le_of_ble_eq_true rfl) (Nat.le_of_ble_eq_true rfl) (Nat.le_refl _) (Nat.le_refl _) (Nat.le_of_ble_eq_true rfl) (Mo_errsF_ok 1 h r) rfl ?_
      rintro rv h2 r ⟨rfl, rfl, rfl⟩ -
      refine wq_cif_eq (tgt := 56) (q := 52) rfl rfl rfl (fun c49 => ?_) (fun c49 => ?_)
      · skip
        refine wq_iconst (n := 0) (q := 57) rfl rfl rfl ?_
        refine wq_zret rfl rfl (Nat.le_refl _) (Nat.le_refl _) (by omega) ?_
        first
        | exact fin _ _ _ (Or.inl ⟨⟨k1.1 (by omega), by assumption, by assumption, by assumption, by assumption⟩, rfl, rfl, rfl⟩)
        | exact fin _ _ _ (Or.inr ⟨hN, rfl, rfl, rfl⟩)
        | exact c49.elim
      · skip
        refine wq_iconst (n := 1) (q := 53) rfl rfl rfl ?_
        refine wq_goto (tgt := 57) rfl rfl ?_
        refine wq_zret rfl rfl (Nat.le_refl _) (Nat.le_refl _) (by omega) ?_
        first
        | exact fin _ _ _ (Or.inl ⟨⟨k1.1 (by omega), by assumption, by assumption, by assumption, by assumption⟩, rfl, rfl, rfl⟩)
        | exact fin _ _ _ (Or.inr ⟨hN, rfl, rfl, rfl⟩)
        | exact c49.elim
    · skip
      refine wq_aload_n (kk := 0) (q := 18) rfl rfl rfl ?_
      refine wq_ldcs (j := 1) (q := 20) (by decide) (Nat.le_of_ble_eq_true rfl) rfl rfl ?_
      refine wq_callV (q := 23) (m' := m_Mo_isWord) (R' := rm 6) (As := [_]) rfl rfl l_Mo_137 vm_Mo_isWord rfl rfl rfl (Or.inl ⟨rfl, Nat.le_of_ble_eq_true rfl⟩) (Nat.le_of_ble_eq_true rfl) (Nat.le_of_ble_eq_true rfl) (Nat.le_refl _) (Nat.le_refl _) (Nat.le_of_ble_eq_true rfl) (Mo_isWord_ok 1 (by decide) T n p h r hS hk) rfl ?_
      rintro rv h r ⟨rfl, rfl, rfl⟩ -
      refine wq_cif_ne (tgt := 44) (q := 26) rfl rfl rfl (fun c23 => ?_) (fun c23 => ?_)
      · skip
        have hN : ¬ Nm T n p := fun z => by
          first
          | (have := k1.2 z.1; omega)
          | exact absurd c14 z.2.1
          | exact absurd c23 z.2.2.1
          | exact absurd c32 z.2.2.2.1
          | exact absurd c41 z.2.2.2.2
        refine wq_aload_n (kk := 0) (q := 45) rfl rfl rfl ?_
        refine wq_iconst (n := 1) (q := 46) rfl rfl rfl ?_
        refine wq_callV (q := 49) (m' := m_Mo_errs) (R' := rm 1) (As := [_]) rfl rfl l_Mo_130 vm_Mo_errs rfl rfl rfl (Or.inl ⟨rfl, Nat.le_of_ble_eq_true rfl⟩) (Nat.le_of_ble_eq_true rfl) (Nat.le_of_ble_eq_true rfl) (Nat.le_refl _) (Nat.le_refl _) (Nat.le_of_ble_eq_true rfl) (Mo_errsF_ok 1 h r) rfl ?_
        rintro rv h2 r ⟨rfl, rfl, rfl⟩ -
        refine wq_cif_eq (tgt := 56) (q := 52) rfl rfl rfl (fun c49 => ?_) (fun c49 => ?_)
        · skip
          refine wq_iconst (n := 0) (q := 57) rfl rfl rfl ?_
          refine wq_zret rfl rfl (Nat.le_refl _) (Nat.le_refl _) (by omega) ?_
          first
          | exact fin _ _ _ (Or.inl ⟨⟨k1.1 (by omega), by assumption, by assumption, by assumption, by assumption⟩, rfl, rfl, rfl⟩)
          | exact fin _ _ _ (Or.inr ⟨hN, rfl, rfl, rfl⟩)
          | exact c49.elim
        · skip
          refine wq_iconst (n := 1) (q := 53) rfl rfl rfl ?_
          refine wq_goto (tgt := 57) rfl rfl ?_
          refine wq_zret rfl rfl (Nat.le_refl _) (Nat.le_refl _) (by omega) ?_
          first
          | exact fin _ _ _ (Or.inl ⟨⟨k1.1 (by omega), by assumption, by assumption, by assumption, by assumption⟩, rfl, rfl, rfl⟩)
          | exact fin _ _ _ (Or.inr ⟨hN, rfl, rfl, rfl⟩)
          | exact c49.elim
      · skip
        refine wq_aload_n (kk := 0) (q := 27) rfl rfl rfl ?_
        refine wq_ldcs (j := 2) (q := 29) (by decide) (Nat.le_of_ble_eq_true rfl) rfl rfl ?_
        refine wq_callV (q := 32) (m' := m_Mo_isWord) (R' := rm 6) (As := [_]) rfl rfl l_Mo_137 vm_Mo_isWord rfl rfl rfl (Or.inl ⟨rfl, Nat.le_of_ble_eq_true rfl⟩) (Nat.le_of_ble_eq_true rfl) (Nat.le_of_ble_eq_true rfl) (Nat.le_refl _) (Nat.le_refl _) (Nat.le_of_ble_eq_true rfl) (Mo_isWord_ok 2 (by decide) T n p h r hS hk) rfl ?_
        rintro rv h r ⟨rfl, rfl, rfl⟩ -
        refine wq_cif_ne (tgt := 44) (q := 35) rfl rfl rfl (fun c32 => ?_) (fun c32 => ?_)
        · skip
          have hN : ¬ Nm T n p := fun z => by
            first
            | (have := k1.2 z.1; omega)
            | exact absurd c14 z.2.1
            | exact absurd c23 z.2.2.1
            | exact absurd c32 z.2.2.2.1
            | exact absurd c41 z.2.2.2.2
          refine wq_aload_n (kk := 0) (q := 45) rfl rfl rfl ?_
          refine wq_iconst (n := 1) (q := 46) rfl rfl rfl ?_
          refine wq_callV (q := 49) (m' := m_Mo_errs) (R' := rm 1) (As := [_]) rfl rfl l_Mo_130 vm_Mo_errs rfl rfl rfl (Or.inl ⟨rfl, Nat.le_of_ble_eq_true rfl⟩) (Nat.le_of_ble_eq_true rfl) (Nat.le_of_ble_eq_true rfl) (Nat.le_refl _) (Nat.le_refl _) (Nat.le_of_ble_eq_true rfl) (Mo_errsF_ok 1 h r) rfl ?_
          rintro rv h2 r ⟨rfl, rfl, rfl⟩ -
          refine wq_cif_eq (tgt := 56) (q := 52) rfl rfl rfl (fun c49 => ?_) (fun c49 => ?_)
          · skip
            refine wq_iconst (n := 0) (q := 57) rfl rfl rfl ?_
            refine wq_zret rfl rfl (Nat.le_refl _) (Nat.le_refl _) (by omega) ?_
            first
            | exact fin _ _ _ (Or.inl ⟨⟨k1.1 (by omega), by assumption, by assumption, by assumption, by assumption⟩, rfl, rfl, rfl⟩)
            | exact fin _ _ _ (Or.inr ⟨hN, rfl, rfl, rfl⟩)
            | exact c49.elim
          · skip
            refine wq_iconst (n := 1) (q := 53) rfl rfl rfl ?_
            refine wq_goto (tgt := 57) rfl rfl ?_
            refine wq_zret rfl rfl (Nat.le_refl _) (Nat.le_refl _) (by omega) ?_
            first
            | exact fin _ _ _ (Or.inl ⟨⟨k1.1 (by omega), by assumption, by assumption, by assumption, by assumption⟩, rfl, rfl, rfl⟩)
            | exact fin _ _ _ (Or.inr ⟨hN, rfl, rfl, rfl⟩)
            | exact c49.elim
        · skip
          refine wq_aload_n (kk := 0) (q := 36) rfl rfl rfl ?_
          refine wq_ldcs (j := 3) (q := 38) (by decide) (Nat.le_of_ble_eq_true rfl) rfl rfl ?_
          refine wq_callV (q := 41) (m' := m_Mo_isWord) (R' := rm 6) (As := [_]) rfl rfl l_Mo_137 vm_Mo_isWord rfl rfl rfl (Or.inl ⟨rfl, Nat.le_of_ble_eq_true rfl⟩) (Nat.le_of_ble_eq_true rfl) (Nat.le_of_ble_eq_true rfl) (Nat.le_refl _) (Nat.le_refl _) (Nat.le_of_ble_eq_true rfl) (Mo_isWord_ok 3 (by decide) T n p h r hS hk) rfl ?_
          rintro rv h r ⟨rfl, rfl, rfl⟩ -
          refine wq_cif_eq (tgt := 52) (q := 44) rfl rfl rfl (fun c41 => ?_) (fun c41 => ?_)
          · skip
            refine wq_iconst (n := 1) (q := 53) rfl rfl rfl ?_
            refine wq_goto (tgt := 57) rfl rfl ?_
            refine wq_zret rfl rfl (Nat.le_refl _) (Nat.le_refl _) (by omega) ?_
            first
            | exact fin _ _ _ (Or.inl ⟨⟨k1.1 (by omega), by assumption, by assumption, by assumption, by assumption⟩, rfl, rfl, rfl⟩)
            | exact fin _ _ _ (Or.inr ⟨hN, rfl, rfl, rfl⟩)
            | exact c49.elim
          · skip
            have hN : ¬ Nm T n p := fun z => by
              first
              | (have := k1.2 z.1; omega)
              | exact absurd c14 z.2.1
              | exact absurd c23 z.2.2.1
              | exact absurd c32 z.2.2.2.1
              | exact absurd c41 z.2.2.2.2
            refine wq_aload_n (kk := 0) (q := 45) rfl rfl rfl ?_
            refine wq_iconst (n := 1) (q := 46) rfl rfl rfl ?_
            refine wq_callV (q := 49) (m' := m_Mo_errs) (R' := rm 1) (As := [_]) rfl rfl l_Mo_130 vm_Mo_errs rfl rfl rfl (Or.inl ⟨rfl, Nat.le_of_ble_eq_true rfl⟩) (Nat.le_of_ble_eq_true rfl) (Nat.le_of_ble_eq_true rfl) (Nat.le_refl _) (Nat.le_refl _) (Nat.le_of_ble_eq_true rfl) (Mo_errsF_ok 1 h r) rfl ?_
            rintro rv h2 r ⟨rfl, rfl, rfl⟩ -
            refine wq_cif_eq (tgt := 56) (q := 52) rfl rfl rfl (fun c49 => ?_) (fun c49 => ?_)
            · skip
              refine wq_iconst (n := 0) (q := 57) rfl rfl rfl ?_
              refine wq_zret rfl rfl (Nat.le_refl _) (Nat.le_refl _) (by omega) ?_
              first
              | exact fin _ _ _ (Or.inl ⟨⟨k1.1 (by omega), by assumption, by assumption, by assumption, by assumption⟩, rfl, rfl, rfl⟩)
              | exact fin _ _ _ (Or.inr ⟨hN, rfl, rfl, rfl⟩)
              | exact c49.elim
            · skip
              refine wq_iconst (n := 1) (q := 53) rfl rfl rfl ?_
              refine wq_goto (tgt := 57) rfl rfl ?_
              refine wq_zret rfl rfl (Nat.le_refl _) (Nat.le_refl _) (by omega) ?_
              first
              | exact fin _ _ _ (Or.inl ⟨⟨k1.1 (by omega), by assumption, by assumption, by assumption, by assumption⟩, rfl, rfl, rfl⟩)
              | exact fin _ _ _ (Or.inr ⟨hN, rfl, rfl, rfl⟩)
              | exact c49.elim
set_option maxRecDepth 100000 in
set_option maxHeartbeats 1000000 in
theorem Mo_spelt_lp (T : mF) (n p : Int) (h : mH) (r : mR) (hS : rdR T n p h) (hk : tkR T n p h) (h1 : tK T n p = 1) : ∀ (M : Nat) (i v : Int), (tE T n p - i).toNat = M → tS T n p ≤ i → i ≤ tE T n p → v = cB 32 96 T (tS T n p) (i - tS T n p).toNat → WP (true, rm 1) m_Mo_spelt (rt m_Mo_spelt (rm 1) (fun rv h1 r1 => rv = some (vJ (c32 T n p)) ∧ h1 = h ∧ r1 = r)) 7 [some (vR 64), some (vJ v), none, some (vI i)] [] h r (0, 0) := by
  intro M
  induction M using Nat.strongRecOn with
  | ind M ih =>
    intro i v hM i0 i1 hv
    have e14 := hk.2.2.1 (by omega)
    have hb := hS.2.2.1
    have hp := hS.2.2.2.1
    have hs := tS_s (T := T) hS.2.2.2.2
    have he := tE_s (T := T) hS.2.2.2.2
    have hl := (tk_w hS.2.2.2.2 h1).2.2.1
    have li : i < tE T n p → h 65 i = T i ∧ 97 ≤ T i ∧ T i ≤ 122 := fun z => ltr_R hS h1 i0 z
    have vb : 0 ≤ v ∧ v ≤ 1073741824 := by
      have hc := cB_lt (B := 32) (o := 96) (by omega) (T := T) (s := tS T n p) (L := (i - tS T n p).toNat) (fun j j0 j1 => by have := (ltr_R hS h1 j0 (by omega : j < tE T n p)).2; omega)
      have hq := (pow_hi (L := (i - tS T n p).toNat) (by omega)).2.1
      rw [hv]
      omega
    refine wq_iload_n (kk := 3) (q := 8) rfl rfl rfl ?_
    refine wq_aload_n (kk := 0) (q := 9) rfl rfl rfl ?_
    refine wq_getI (kz := 14) (q := 12) rfl f_Mo_94 rfl rfl (Or.inl ⟨rfl, Nat.le_of_ble_eq_true rfl⟩) rfl rfl ?_
    refine wq_icmp_ge (tgt := 39) (q := 15) rfl rfl rfl (fun c12 => ?_) (fun c12 => ?_)
    · skip
      refine wq_lload_n (kk := 1) (q := 40) rfl rfl rfl ?_
      refine wq_lret rfl rfl (Nat.le_refl _) (Nat.le_refl _) ⟨?_, rfl, rfl⟩
      unfold c32 tC
      rw [hv, show i = tE T n p by omega]
    · skip
      refine wq_ldc2 (n := 32) (q := 18) k_Mo_144 rfl rfl rfl ?_
      refine wq_lload_n (kk := 1) (q := 19) rfl rfl rfl ?_
      refine wq_lmul (q := 20) rfl rfl (by first | omega | (have := li (by omega); omega)) (by first | omega | (have := li (by omega); omega)) ?_
      refine wq_aload_n (kk := 0) (q := 21) rfl rfl rfl ?_
      refine wq_getF (q := 24) f_Mo_13 rfl rfl (Nat.le_of_ble_eq_true rfl) rfl rfl rfl ?_
      refine wq_iload_n (kk := 3) (q := 25) rfl rfl rfl ?_
      refine wq_iald (q := 26) rfl (Or.inl ⟨rfl, Nat.le_of_ble_eq_true rfl⟩) rfl rfl (by first | omega | (have := li (by omega); omega)) (by first | omega | (have := li (by omega); omega)) ?_
      refine wq_i2l (q := 27) rfl rfl ?_
      refine wq_ladd (q := 28) rfl rfl (by first | omega | (have := li (by omega); omega)) (by first | omega | (have := li (by omega); omega)) ?_
      refine wq_ldc2 (n := 96) (q := 31) k_Mo_146 rfl rfl rfl ?_
      refine wq_lsub (q := 32) rfl rfl (by first | omega | (have := li (by omega); omega)) (by first | omega | (have := li (by omega); omega)) ?_
      refine wq_lstore_n (kk := 1) (q := 33) rfl rfl (Nat.le_of_ble_eq_true rfl) rfl ?_
      refine wq_iinc (i := 3) (n := 1) (q := 36) rfl rfl rfl (Nat.le_of_ble_eq_true rfl) rfl (by first | omega | (have := li (by omega); omega)) (by first | omega | (have := li (by omega); omega)) ?_
      refine wq_goto (tgt := 7) rfl rfl ?_
      refine ih _ (by omega) (i + 1) _ rfl (by omega) (by omega) ?_
      rw [cB_s i0, ← hv]
      have := li (by omega)
      omega
set_option maxRecDepth 100000 in
theorem Mo_spelt_ok (T : mF) (n p : Int) (h : mH) (r : mR) (hS : rdR T n p h) (hk : tkR T n p h) (h1 : tK T n p = 1) : Meets true (rm 1) m_Mo_spelt [vR 64] h r (fun rv h1 r1 => rv = some (vJ (c32 T n p)) ∧ h1 = h ∧ r1 = r) := by
  have he := tE_s (T := T) hS.2.2.2.2
  refine ⟨ok_Mo_spelt, Nat.le_of_ble_eq_true rfl, ?_⟩
  refine wq_lconst0 (q := 1) rfl rfl ?_
  refine wq_lstore_n (kk := 1) (q := 2) rfl rfl (Nat.le_of_ble_eq_true rfl) rfl ?_
  refine wq_aload_n (kk := 0) (q := 3) rfl rfl rfl ?_
  refine wq_getI (kz := 13) (q := 6) rfl f_Mo_101 rfl rfl (Or.inl ⟨rfl, Nat.le_of_ble_eq_true rfl⟩) rfl rfl ?_
  refine wq_istore_n (kk := 3) (q := 7) rfl rfl (Nat.le_of_ble_eq_true rfl) rfl ?_
  rw [hk.1]
  exact Mo_spelt_lp T n p h r hS hk h1 _ (tS T n p) 0 rfl (Int.le_refl _) he.1 (by rw [show (tS T n p - tS T n p).toNat = 0 by omega]; rfl)
set_option maxRecDepth 100000 in
set_option maxHeartbeats 1000000 in
theorem Mo_placeOf_lp (c : Nat) (m k v : Int) (hc : c = 70 ∧ m = 10 ∨ c = 71 ∧ m = 8) (h : mH) (r : mR) (k0 : 0 ≤ k) (k1 : k ≤ m) : ∀ (M : Nat) (i : Int), (k - i).toNat = M → 0 ≤ i → i ≤ k → rE (fun i => decide (h c i ≠ v)) k i = rE (fun i => decide (h c i ≠ v)) k 0 → WP (true, rm 1) m_Mo_placeOf (rt m_Mo_placeOf (rm 1) (pI (fdx (h c) k v) h r)) 3 [some (vR c), some (vI k), some (vJ v), none, some (vI i)] [] h r (0, 0) := by
  intro M
  induction M using Nat.strongRecOn with
  | ind M ih =>
    intro i hM i0 i1 hr
    have hend : ∀ {w : Int}, (k ≤ i → w = -1) → (i < k → h c i = v → w = i) → (k ≤ i ∨ h c i = v) → pI (fdx (h c) k v) h r (some (vI w)) h r := fun {w} e1 e2 e3 => by
      refine ⟨?_, rfl, rfl⟩
      have en : rE (fun i => decide (h c i ≠ v)) k i = i := rE_n (by rcases e3 with e3 | e3; exact Or.inl e3; exact Or.inr (by simp [e3]))
      unfold fdx
      rw [← hr, en]
      by_cases z : i < k
      · rw [if_pos z, e2 z (by omega)]
      · rw [if_neg z, e1 (by omega)]
    rcases hc with ⟨rfl, rfl⟩ | ⟨rfl, rfl⟩
    · skip
      refine wq_iload (i := 4) (q := 5) rfl rfl rfl ?_
      refine wq_iload_n (kk := 1) (q := 6) rfl rfl rfl ?_
      refine wq_icmp_ge (tgt := 27) (q := 9) rfl rfl rfl (fun c6 => ?_) (fun c6 => ?_)
      · skip
        refine wq_iconst (n := -1) (q := 28) rfl rfl rfl ?_
        exact wq_iret rfl rfl (Nat.le_refl _) (Nat.le_refl _) (hend (fun _ => rfl) (fun _ => by omega) (Or.inl (by omega)))
      · skip
        refine wq_aload_n (kk := 0) (q := 10) rfl rfl rfl ?_
        refine wq_iload (i := 4) (q := 12) rfl rfl rfl ?_
        refine wq_lald (q := 13) rfl (Or.inl ⟨rfl, Nat.le_of_ble_eq_true rfl⟩) rfl rfl (by first | omega | (simp [hup]; omega)) (by first | omega | (simp [hup]; omega)) ?_
        refine wq_lload_n (kk := 2) (q := 14) rfl rfl rfl ?_
        refine wq_lcmp (q := 15) rfl rfl ?_
        refine wq_if_ne (tgt := 21) (q := 18) rfl rfl rfl (fun c15 => ?_) (fun c15 => ?_)
        · skip
          refine wq_iinc (i := 4) (n := 1) (q := 24) rfl rfl rfl (Nat.le_of_ble_eq_true rfl) rfl (by first | omega | (simp [hup]; omega)) (by first | omega | (simp [hup]; omega)) ?_
          refine wq_goto (tgt := 3) rfl rfl ?_
          have e : h 70 i ≠ v := fun z => by
            rw [z] at c15
            simp at c15
          exact ih _ (by omega) (i + 1) rfl (by omega) (by omega) (by rw [rE_y (by omega) (by simpa using e)]; exact hr)
        · skip
          refine wq_iload (i := 4) (q := 20) rfl rfl rfl ?_
          have e : h 70 i = v := by
            by_cases a : v < h 70 i
            · simp [a] at c15
            · by_cases b : h 70 i = v
              · exact b
              · simp [a, b] at c15
          exact wq_iret rfl rfl (Nat.le_refl _) (Nat.le_refl _) (hend (fun _ => by omega) (fun _ _ => rfl) (Or.inr e))
    · skip
      refine wq_iload (i := 4) (q := 5) rfl rfl rfl ?_
      refine wq_iload_n (kk := 1) (q := 6) rfl rfl rfl ?_
      refine wq_icmp_ge (tgt := 27) (q := 9) rfl rfl rfl (fun c6 => ?_) (fun c6 => ?_)
      · skip
        refine wq_iconst (n := -1) (q := 28) rfl rfl rfl ?_
        exact wq_iret rfl rfl (Nat.le_refl _) (Nat.le_refl _) (hend (fun _ => rfl) (fun _ => by omega) (Or.inl (by omega)))
      · skip
        refine wq_aload_n (kk := 0) (q := 10) rfl rfl rfl ?_
        refine wq_iload (i := 4) (q := 12) rfl rfl rfl ?_
        refine wq_lald (q := 13) rfl (Or.inl ⟨rfl, Nat.le_of_ble_eq_true rfl⟩) rfl rfl (by first | omega | (simp [hup]; omega)) (by first | omega | (simp [hup]; omega)) ?_
        refine wq_lload_n (kk := 2) (q := 14) rfl rfl rfl ?_
        refine wq_lcmp (q := 15) rfl rfl ?_
        refine wq_if_ne (tgt := 21) (q := 18) rfl rfl rfl (fun c15 => ?_) (fun c15 => ?_)
        · skip
          refine wq_iinc (i := 4) (n := 1) (q := 24) rfl rfl rfl (Nat.le_of_ble_eq_true rfl) rfl (by first | omega | (simp [hup]; omega)) (by first | omega | (simp [hup]; omega)) ?_
          refine wq_goto (tgt := 3) rfl rfl ?_
          have e : h 71 i ≠ v := fun z => by
            rw [z] at c15
            simp at c15
          exact ih _ (by omega) (i + 1) rfl (by omega) (by omega) (by rw [rE_y (by omega) (by simpa using e)]; exact hr)
        · skip
          refine wq_iload (i := 4) (q := 20) rfl rfl rfl ?_
          have e : h 71 i = v := by
            by_cases a : v < h 71 i
            · simp [a] at c15
            · by_cases b : h 71 i = v
              · exact b
              · simp [a, b] at c15
          exact wq_iret rfl rfl (Nat.le_refl _) (Nat.le_refl _) (hend (fun _ => by omega) (fun _ _ => rfl) (Or.inr e))
set_option maxRecDepth 100000 in
theorem Mo_placeOf_ok (c : Nat) (m k v : Int) (hc : c = 70 ∧ m = 10 ∨ c = 71 ∧ m = 8) (h : mH) (r : mR) (k0 : 0 ≤ k) (k1 : k ≤ m) : Meets true (rm 1) m_Mo_placeOf [vR c, vI k, vJ v] h r (pI (fdx (h c) k v) h r) := by
  refine ⟨ok_Mo_placeOf, Nat.le_of_ble_eq_true rfl, ?_⟩
  refine wq_iconst (n := 0) (q := 1) rfl rfl rfl ?_
  refine wq_istore (i := 4) (q := 3) rfl rfl (Nat.le_of_ble_eq_true rfl) rfl ?_
  exact Mo_placeOf_lp c m k v hc h r k0 k1 _ 0 rfl (by omega) (by omega) rfl

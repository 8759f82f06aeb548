/-! LinkTimesModel: feed -/
def layQ (v : Int) (h h1 : mH) : Prop := fr [64, 65] h h1 ∧ h1 64 5 = h 64 5 + 4 ∧ (∀ k, k ≠ 5 → h1 64 k = h 64 k) ∧ (∀ j, j < h 64 5 ∨ h 64 5 + 4 ≤ j → h1 65 j = h 65 j) ∧ ∀ k, 0 ≤ k → k < 4 → h1 65 (h 64 5 + k) = ubv v (24 - 8 * k)
set_option maxRecDepth 100000 in
set_option maxHeartbeats 1000000 in
theorem Mo_laysWord_lp (v : Int) (h : mH) (r : mR) (u0 : 0 ≤ h 64 5 ∧ h 64 5 ≤ 896) : ∀ (M : Nat) (k : Int) (h1 : mH), (4 - k).toNat = M → 0 ≤ k → k ≤ 4 → fr [65] h h1 → (∀ j, j < h 64 5 ∨ h 64 5 + k ≤ j → h1 65 j = h 65 j) → (∀ j, 0 ≤ j → j < k → h1 65 (h 64 5 + j) = ubv v (24 - 8 * j)) → WP (true, rm 1) m_Mo_laysWord (rt m_Mo_laysWord (rm 1) (fun rv h2 r2 => rv = none ∧ r2 = r ∧ layQ v h h2)) 2 [some (vR 64), some (vI v), some (vI k)] [] h1 r (0, 0) := by
  intro M
  induction M using Nat.strongRecOn with
  | ind M ih =>
    intro k h1 hM k0 k1 hf hl hx
    have e5 : h1 64 5 = h 64 5 := hf.at 64 5 (by decide)
    refine wq_iload_n (kk := 2) (q := 3) rfl rfl rfl ?_
    refine wq_iconst (n := 4) (q := 4) rfl rfl rfl ?_
    refine wq_icmp_ge (tgt := 37) (q := 7) rfl rfl rfl (fun c4 => ?_) (fun c4 => ?_)
    · skip
      refine wq_aload_n (kk := 0) (q := 38) rfl rfl rfl ?_
      refine wq_dup (q := 39) rfl rfl rfl ?_
      refine wq_getI (kz := 5) (q := 42) rfl f_Mo_84 rfl rfl (Or.inl ⟨rfl, Nat.le_of_ble_eq_true rfl⟩) rfl rfl ?_
      refine wq_iconst (n := 4) (q := 43) rfl rfl rfl ?_
      refine wq_iadd (q := 44) rfl rfl (by first | omega | (simp [hup]; omega)) (by first | omega | (simp [hup]; omega)) ?_
      refine wq_putI (kz := 5) (q := 47) rfl f_Mo_84 rfl rfl rfl (Or.inl ⟨rfl, Nat.le_of_ble_eq_true rfl⟩) rfl rfl ?_
      have ek : k = 4 := by omega
      subst ek
      refine wq_vret rfl rfl (Nat.le_refl _) (Nat.le_refl _) ⟨rfl, rfl, (hf.mono (by decide)).up (by decide), ?_, fun j hj => ?_, fun j hj => ?_, fun j j0 j1 => ?_⟩
      · rw [hup_s, e5]
      · rw [hup_j hj]; exact hf.at 64 j (by decide)
      · rw [hup_i (by decide)]; exact hl j hj
      · rw [hup_i (by decide)]; exact hx j j0 j1
    · skip
      refine wq_aload_n (kk := 0) (q := 8) rfl rfl rfl ?_
      refine wq_getF (q := 11) f_Mo_13 rfl rfl (Nat.le_of_ble_eq_true rfl) rfl rfl rfl ?_
      refine wq_aload_n (kk := 0) (q := 12) rfl rfl rfl ?_
      refine wq_getI (kz := 5) (q := 15) rfl f_Mo_84 rfl rfl (Or.inl ⟨rfl, Nat.le_of_ble_eq_true rfl⟩) rfl rfl ?_
      refine wq_iload_n (kk := 2) (q := 16) rfl rfl rfl ?_
      refine wq_iadd (q := 17) rfl rfl (by first | omega | (simp [hup]; omega)) (by first | omega | (simp [hup]; omega)) ?_
      refine wq_iload_n (kk := 1) (q := 18) rfl rfl rfl ?_
      refine wq_bipush (n := 24) (q := 20) rfl rfl rfl ?_
      refine wq_bipush (n := 8) (q := 22) rfl rfl rfl ?_
      refine wq_iload_n (kk := 2) (q := 23) rfl rfl rfl ?_
      refine wq_imul (q := 24) rfl rfl (by first | omega | (simp [hup]; omega)) (by first | omega | (simp [hup]; omega)) ?_
      refine wq_isub (q := 25) rfl rfl (by first | omega | (simp [hup]; omega)) (by first | omega | (simp [hup]; omega)) ?_
      refine wq_ishr (q := 26) rfl rfl ?_
      refine wq_sipush (n := 255) (q := 29) rfl rfl rfl ?_
      refine wq_iand (q := 30) rfl rfl ?_
      refine wq_iast (q := 31) rfl (Or.inl ⟨rfl, Nat.le_of_ble_eq_true rfl⟩) rfl rfl (by first | omega | (simp [hup]; omega)) (by first | omega | (simp [hup]; omega)) ?_
      refine wq_iinc (i := 2) (n := 1) (q := 34) rfl rfl rfl (Nat.le_of_ble_eq_true rfl) rfl (by first | omega | (simp [hup]; omega)) (by first | omega | (simp [hup]; omega)) ?_
      refine wq_goto (tgt := 2) rfl rfl ?_
      refine ih _ (by omega) (k + 1) _ rfl (by omega) (by omega) (hf.up (by decide)) (fun j hj => ?_) (fun j j0 j1 => ?_)
      · rw [hup_j (by omega)]; exact hl j (by omega)
      · rw [e5]
        by_cases e : j = k
        · subst e; rw [hup_s]; rfl
        · rw [hup_j (by omega)]; exact hx j j0 (by omega)
set_option maxRecDepth 100000 in
theorem Mo_laysWord_ok (v : Int) (h : mH) (r : mR) (u0 : 0 ≤ h 64 5 ∧ h 64 5 ≤ 896) : Meets true (rm 1) m_Mo_laysWord [vR 64, vI v] h r (fun rv h2 r2 => rv = none ∧ r2 = r ∧ layQ v h h2) := by
  refine ⟨ok_Mo_laysWord, Nat.le_of_ble_eq_true rfl, ?_⟩
  refine wq_iconst (n := 0) (q := 1) rfl rfl rfl ?_
  refine wq_istore_n (kk := 2) (q := 2) rfl rfl (Nat.le_of_ble_eq_true rfl) rfl ?_
  exact Mo_laysWord_lp v h r u0 _ 0 h rfl (by omega) (by omega) fr.rf (fun _ _ => rfl) (fun j j0 j1 => by omega)
def fedR (A : mF) (m : Int) (h h1 : mH) : Prop := fr [64, 65] h h1 ∧ h1 64 5 = h 64 5 + 4 * m ∧ (∀ k, k ≠ 5 → h1 64 k = h 64 k) ∧ (∀ j, j < h 64 5 → h1 65 j = h 65 j) ∧ ∀ w k, 0 ≤ w → w < m → 0 ≤ k → k < 4 → h1 65 (h 64 5 + 4 * w + k) = ubv (A w) (24 - 8 * k)
theorem fedR.nx {A : mF} {m : Int} {h h1 h2 : mH} (hf : fedR A m h h1) (m0 : 0 ≤ m) (hp : layQ (A m) h1 h2) : fedR A (m + 1) h h2 := by
  obtain ⟨a1, a2, a3, a4, a5⟩ := hf
  obtain ⟨b1, b2, b3, b4, b5⟩ := hp
  refine ⟨a1.trans b1 (fun _ z => z), by omega, fun k hk => (b3 k hk).trans (a3 k hk), fun j hj => (b4 j (by omega)).trans (a4 j hj), fun w k w0 w1 k0 k1 => ?_⟩
  by_cases e : w = m
  · subst e
    have := b5 k k0 k1
    rw [a2] at this
    exact this
  · rw [b4 _ (by omega)]
    exact a5 w k w0 (by omega) k0 k1
set_option maxRecDepth 100000 in
set_option maxHeartbeats 1000000 in
theorem Mo_feed_ok (a b c d e : Int) (h : mH) (r : mR) (u0 : 0 ≤ h 64 5 ∧ h 64 5 ≤ 900) : Meets true (rm 2) m_Mo_feed [vR 64, vI a, vI b, vI c, vI d, vI e] h r (fun rv h1 r1 => r1 = r ∧ (880 < h 64 5 ∧ rv = some (vI (-1)) ∧ h1 = hup h 64 0 0 ∨ h 64 5 ≤ 880 ∧ rv = some (vI (h1 64 5)) ∧ fedR (five a b c d e) 5 (hup h 64 0 0) h1)) := by
  have q0 : fedR (five a b c d e) 0 (hup h 64 0 0) (hup h 64 0 0) := ⟨fr.rf, by omega, fun _ _ => rfl, fun _ _ => rfl, fun w k w0 w1 => by omega⟩
  have e5 : hup h 64 0 0 64 5 = h 64 5 := hup_j (by decide)
  refine ⟨ok_Mo_feed, Nat.le_of_ble_eq_true rfl, ?_⟩
  refine wq_aload_n (kk := 0) (q := 1) rfl rfl rfl ?_
  refine wq_iconst (n := 0) (q := 2) rfl rfl rfl ?_
  refine wq_putI (kz := 0) (q := 5) rfl f_Mo_78 rfl rfl rfl (Or.inl ⟨rfl, Nat.le_of_ble_eq_true rfl⟩) rfl rfl ?_
  refine wq_aload_n (kk := 0) (q := 6) rfl rfl rfl ?_
  refine wq_getI (kz := 5) (q := 9) rfl f_Mo_84 rfl rfl (Or.inl ⟨rfl, Nat.le_of_ble_eq_true rfl⟩) rfl rfl ?_
  refine wq_sipush (n := 880) (q := 12) rfl rfl rfl ?_
  refine wq_icmp_le (tgt := 17) (q := 15) rfl rfl rfl (fun c12 => ?_) (fun c12 => ?_)
  · skip
    refine wq_aload_n (kk := 0) (q := 18) rfl rfl rfl ?_
    refine wq_iload_n (kk := 1) (q := 19) rfl rfl rfl ?_
    refine wq_callV (q := 22) (m' := m_Mo_laysWord) (R' := rm 1) (As := [_]) rfl rfl l_Mo_87 vm_Mo_laysWord rfl rfl rfl (Or.inl ⟨rfl, Nat.le_of_ble_eq_true rfl⟩) (Nat.le_of_ble_eq_true rfl) (Nat.le_of_ble_eq_true rfl) (Nat.le_refl _) (Nat.le_refl _) (Nat.le_of_ble_eq_true rfl) (Mo_laysWord_ok a _ r (by omega)) rfl ?_
    rintro rv h1 r ⟨rfl, rfl, p1⟩ -
    have q1 := q0.nx (by decide) p1
    have x1 := q1.2.1
    refine wq_aload_n (kk := 0) (q := 23) rfl rfl rfl ?_
    refine wq_iload_n (kk := 2) (q := 24) rfl rfl rfl ?_
    refine wq_callV (q := 27) (m' := m_Mo_laysWord) (R' := rm 1) (As := [_]) rfl rfl l_Mo_87 vm_Mo_laysWord rfl rfl rfl (Or.inl ⟨rfl, Nat.le_of_ble_eq_true rfl⟩) (Nat.le_of_ble_eq_true rfl) (Nat.le_of_ble_eq_true rfl) (Nat.le_refl _) (Nat.le_refl _) (Nat.le_of_ble_eq_true rfl) (Mo_laysWord_ok b h1 r (by omega)) rfl ?_
    rintro rv h2 r ⟨rfl, rfl, p2⟩ -
    have q2 := q1.nx (by decide) p2
    have x2 := q2.2.1
    refine wq_aload_n (kk := 0) (q := 28) rfl rfl rfl ?_
    refine wq_iload_n (kk := 3) (q := 29) rfl rfl rfl ?_
    refine wq_callV (q := 32) (m' := m_Mo_laysWord) (R' := rm 1) (As := [_]) rfl rfl l_Mo_87 vm_Mo_laysWord rfl rfl rfl (Or.inl ⟨rfl, Nat.le_of_ble_eq_true rfl⟩) (Nat.le_of_ble_eq_true rfl) (Nat.le_of_ble_eq_true rfl) (Nat.le_refl _) (Nat.le_refl _) (Nat.le_of_ble_eq_true rfl) (Mo_laysWord_ok c h2 r (by omega)) rfl ?_
    rintro rv h3 r ⟨rfl, rfl, p3⟩ -
    have q3 := q2.nx (by decide) p3
    have x3 := q3.2.1
    refine wq_aload_n (kk := 0) (q := 33) rfl rfl rfl ?_
    refine wq_iload (i := 4) (q := 35) rfl rfl rfl ?_
    refine wq_callV (q := 38) (m' := m_Mo_laysWord) (R' := rm 1) (As := [_]) rfl rfl l_Mo_87 vm_Mo_laysWord rfl rfl rfl (Or.inl ⟨rfl, Nat.le_of_ble_eq_true rfl⟩) (Nat.le_of_ble_eq_true rfl) (Nat.le_of_ble_eq_true rfl) (Nat.le_refl _) (Nat.le_refl _) (Nat.le_of_ble_eq_true rfl) (Mo_laysWord_ok d h3 r (by omega)) rfl ?_
    rintro rv h4 r ⟨rfl, rfl, p4⟩ -
    have q4 := q3.nx (by decide) p4
    have x4 := q4.2.1
    refine wq_aload_n (kk := 0) (q := 39) rfl rfl rfl ?_
    refine wq_iload (i := 5) (q := 41) rfl rfl rfl ?_
    refine wq_callV (q := 44) (m' := m_Mo_laysWord) (R' := rm 1) (As := [_]) rfl rfl l_Mo_87 vm_Mo_laysWord rfl rfl rfl (Or.inl ⟨rfl, Nat.le_of_ble_eq_true rfl⟩) (Nat.le_of_ble_eq_true rfl) (Nat.le_of_ble_eq_true rfl) (Nat.le_refl _) (Nat.le_refl _) (Nat.le_of_ble_eq_true rfl) (Mo_laysWord_ok e h4 r (by omega)) rfl ?_
    rintro rv h5 r ⟨rfl, rfl, p5⟩ -
    have q5 := q4.nx (by decide) p5
    refine wq_aload_n (kk := 0) (q := 45) rfl rfl rfl ?_
    refine wq_getI (kz := 5) (q := 48) rfl f_Mo_84 rfl rfl (Or.inl ⟨rfl, Nat.le_of_ble_eq_true rfl⟩) rfl rfl ?_
    exact wq_iret rfl rfl (Nat.le_refl _) (Nat.le_refl _) ⟨rfl, Or.inr ⟨by omega, rfl, q5⟩⟩
  · skip
    refine wq_iconst (n := -1) (q := 16) rfl rfl rfl ?_
    exact wq_iret rfl rfl (Nat.le_refl _) (Nat.le_refl _) ⟨rfl, Or.inl ⟨by omega, rfl, rfl⟩⟩

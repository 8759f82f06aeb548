/-! LinkTimes: feed, desk -/
def putQ (v : Int) (h h1 : mH) : Prop := fr [0, 1] h h1 ∧ h1 0 1 = h 0 1 + 4 ∧ (∀ k, k ≠ 1 → h1 0 k = h 0 k) ∧ (∀ j, j < h 0 1 ∨ h 0 1 + 4 ≤ j → h1 1 j = h 1 j) ∧ ∀ k, 0 ≤ k → k < 4 → h1 1 (h 0 1 + k) = sbv v (24 - 8 * k)
set_option maxRecDepth 100000 in
set_option maxHeartbeats 1000000 in
theorem Lt_putBytes_lp (v u : Int) (h : mH) (r : mR) (hu : h 0 1 = u) (u0 : 0 ≤ u ∧ u ≤ 896) : ∀ (M : Nat) (k : Int) (h1 : mH), (4 - k).toNat = M → 0 ≤ k → k ≤ 4 → fr [0, 1] h h1 → h1 0 1 = u + k → (∀ j, j ≠ 1 → h1 0 j = h 0 j) → (∀ j, j < u ∨ u + k ≤ j → h1 1 j = h 1 j) → (∀ j, 0 ≤ j → j < k → h1 1 (u + j) = sbv v (24 - 8 * j)) → WP (true, rm 1) m_Lt_putBytes (rt m_Lt_putBytes (rm 1) (fun rv h2 r2 => rv = none ∧ r2 = r ∧ putQ v h h2)) 3 [some (vR 0), some (vI v), some (vI (24 - 8 * k))] [] h1 r (0, 0) := by
  intro M
  induction M using Nat.strongRecOn with
  | ind M ih =>
    intro k h1 hM k0 k1 hf hc ho hl hx
    refine wq_iload_n (kk := 2) (q := 4) rfl rfl rfl ?_
    refine wq_if_lt (tgt := 46) (q := 7) rfl rfl rfl (fun c4 => ?_) (fun c4 => ?_)
    · skip
      have ek : k = 4 := by omega
      subst ek
      subst hu
      exact wq_vret rfl rfl (Nat.le_refl _) (Nat.le_refl _) ⟨rfl, rfl, hf, by omega, ho, hl, hx⟩
    · skip
      refine wq_aload_n (kk := 0) (q := 8) rfl rfl rfl ?_
      refine wq_getI (kz := 1) (q := 11) rfl f_Lt_79 rfl rfl (Or.inl ⟨rfl, Nat.le_of_ble_eq_true rfl⟩) rfl rfl ?_
      refine wq_sipush (n := 900) (q := 14) rfl rfl rfl ?_
      refine wq_icmp_ge (tgt := 46) (q := 17) rfl rfl rfl (fun c14 => ?_) (fun c14 => ?_)
      · skip
        have ek : k = 4 := by omega
        subst ek
        subst hu
        exact wq_vret rfl rfl (Nat.le_refl _) (Nat.le_refl _) ⟨rfl, rfl, hf, by omega, ho, hl, hx⟩
      · skip
        refine wq_aload_n (kk := 0) (q := 18) rfl rfl rfl ?_
        refine wq_getF (q := 21) f_Lt_9 rfl rfl (Nat.le_of_ble_eq_true rfl) rfl rfl rfl ?_
        refine wq_aload_n (kk := 0) (q := 22) rfl rfl rfl ?_
        refine wq_getI (kz := 1) (q := 25) rfl f_Lt_79 rfl rfl (Or.inl ⟨rfl, Nat.le_of_ble_eq_true rfl⟩) rfl rfl ?_
        refine wq_iload_n (kk := 1) (q := 26) rfl rfl rfl ?_
        refine wq_iload_n (kk := 2) (q := 27) rfl rfl rfl ?_
        refine wq_ishr (q := 28) rfl rfl ?_
        refine wq_i2b (q := 29) rfl rfl ?_
        refine wq_bast (q := 30) rfl (Or.inl ⟨rfl, Nat.le_of_ble_eq_true rfl⟩) rfl rfl (by first | omega | (simp [hup]; omega)) (by first | omega | (simp [hup]; omega)) (by exact sbv_b v (24 - 8 * k)) ?_
        refine wq_aload_n (kk := 0) (q := 31) rfl rfl rfl ?_
        refine wq_dup (q := 32) rfl rfl rfl ?_
        refine wq_getI (kz := 1) (q := 35) rfl f_Lt_79 rfl rfl (Or.inl ⟨rfl, Nat.le_of_ble_eq_true rfl⟩) rfl rfl ?_
        refine wq_iconst (n := 1) (q := 36) rfl rfl rfl ?_
        refine wq_iadd (q := 37) rfl rfl (by first | omega | (simp [hup]; omega)) (by first | omega | (simp [hup]; omega)) ?_
        refine wq_putI (kz := 1) (q := 40) rfl f_Lt_79 rfl rfl rfl (Or.inl ⟨rfl, Nat.le_of_ble_eq_true rfl⟩) rfl rfl ?_
        refine wq_iinc (i := 2) (n := -8) (q := 43) rfl rfl rfl (Nat.le_of_ble_eq_true rfl) rfl (by first | omega | (simp [hup]; omega)) (by first | omega | (simp [hup]; omega)) ?_
        refine wq_goto (tgt := 3) rfl rfl ?_
        rw [show 24 - 8 * k + -8 = 24 - 8 * (k + 1) by omega]
        refine ih _ (by omega) (k + 1) _ rfl (by omega) (by omega) ((hf.up (by decide)).up (by decide)) ?_ (fun j hj => ?_) (fun j hj => ?_) (fun j j0 j1 => ?_)
        · rw [hup_s, hup_i (by decide), hc]; omega
        · rw [hup_j hj, hup_i (by decide)]; exact ho j hj
        · rw [hup_i (by decide), hup_j (by omega)]; exact hl j (by omega)
        · rw [hup_i (by decide), hc]
          by_cases e : j = k
          · subst e; rw [hup_s]; rfl
          · rw [hup_j (by omega)]; exact hx j j0 (by omega)
set_option maxRecDepth 100000 in
theorem Lt_putBytes_ok (v : Int) (h : mH) (r : mR) (u0 : 0 ≤ h 0 1 ∧ h 0 1 ≤ 896) : Meets true (rm 1) m_Lt_putBytes [vR 0, vI v] h r (fun rv h2 r2 => rv = none ∧ r2 = r ∧ putQ v h h2) := by
  refine ⟨ok_Lt_putBytes, Nat.le_of_ble_eq_true rfl, ?_⟩
  refine wq_bipush (n := 24) (q := 2) rfl rfl rfl ?_
  refine wq_istore_n (kk := 2) (q := 3) rfl rfl (Nat.le_of_ble_eq_true rfl) rfl ?_
  exact Lt_putBytes_lp v (h 0 1) h r rfl u0 _ 0 h rfl (by omega) (by omega) fr.rf (by omega) (fun _ _ => rfl) (fun _ _ => rfl) (fun j j0 j1 => by omega)
/-- five numbers -/
def five (a b c d e : Int) (w : Int) : Int := if w = 0 then a else if w = 1 then b else if w = 2 then c else if w = 3 then d else e
/-- m numbers of A are on the tape -/
def fedQ (A : mF) (m : Int) (h h1 : mH) : Prop := fr [0, 1] h h1 ∧ h1 0 1 = h 0 1 + 4 * m ∧ (∀ k, k ≠ 1 → h1 0 k = h 0 k) ∧ (∀ j, j < h 0 1 → h1 1 j = h 1 j) ∧ ∀ w k, 0 ≤ w → w < m → 0 ≤ k → k < 4 → h1 1 (h 0 1 + 4 * w + k) = sbv (A w) (24 - 8 * k)
theorem fedQ.nx {A : mF} {m : Int} {h h1 h2 : mH} (hf : fedQ A m h h1) (m0 : 0 ≤ m) (hp : putQ (A m) h1 h2) : fedQ A (m + 1) h h2 := by
  obtain ⟨a1, a2, a3, a4, a5⟩ := hf
  obtain ⟨b1, b2, b3, b4, b5⟩ := hp
  refine ⟨a1.trans b1 (fun _ z => z), by omega, fun k hk => (b3 k hk).trans (a3 k hk), fun j hj => (b4 j (by omega)).trans (a4 j hj), fun w k w0 w1 k0 k1 => ?_⟩
  by_cases e : w = m
  · subst e
    have := b5 k k0 k1
    rw [a2] at this
    exact this
  · rw [b4 _ (by omega)]
    exact a5 w k w0 (by omega) k0 k1
set_option maxRecDepth 100000 in
set_option maxHeartbeats 1000000 in
theorem Lt_feed_ok (a b c d e : Int) (h : mH) (r : mR) (u0 : 0 ≤ h 0 1 ∧ h 0 1 ≤ 900) : Meets true (rm 2) m_Lt_feed [vR 0, vI a, vI b, vI c, vI d, vI e] h r (fun rv h1 r1 => r1 = r ∧ (880 < h 0 1 ∧ rv = some (vI (-1)) ∧ h1 = h ∨ h 0 1 ≤ 880 ∧ rv = some (vI (h1 0 1)) ∧ fedQ (five a b c d e) 5 h h1)) := by
  have q0 : fedQ (five a b c d e) 0 h h := ⟨fr.rf, by omega, fun _ _ => rfl, fun _ _ => rfl, fun w k w0 w1 => by omega⟩
  refine ⟨ok_Lt_feed, Nat.le_of_ble_eq_true rfl, ?_⟩
  refine wq_aload_n (kk := 0) (q := 1) rfl rfl rfl ?_
  refine wq_getI (kz := 1) (q := 4) rfl f_Lt_79 rfl rfl (Or.inl ⟨rfl, Nat.le_of_ble_eq_true rfl⟩) rfl rfl ?_
  refine wq_bipush (n := 20) (q := 6) rfl rfl rfl ?_
  refine wq_iadd (q := 7) rfl rfl (by first | omega | (simp [hup]; omega)) (by first | omega | (simp [hup]; omega)) ?_
  refine wq_sipush (n := 900) (q := 10) rfl rfl rfl ?_
  refine wq_icmp_le (tgt := 15) (q := 13) rfl rfl rfl (fun c10 => ?_) (fun c10 => ?_)
  · skip
    refine wq_aload_n (kk := 0) (q := 16) rfl rfl rfl ?_
    refine wq_iload_n (kk := 1) (q := 17) rfl rfl rfl ?_
    refine wq_callV (q := 20) (m' := m_Lt_putBytes) (R' := rm 1) (As := [_]) rfl rfl l_Lt_83 vm_Lt_putBytes rfl rfl rfl (Or.inl ⟨rfl, Nat.le_of_ble_eq_true rfl⟩) (Nat.le_of_ble_eq_true rfl) (Nat.le_of_ble_eq_true rfl) (Nat.le_refl _) (Nat.le_refl _) (Nat.le_of_ble_eq_true rfl) (Lt_putBytes_ok a h r (by omega)) rfl ?_
    rintro rv h1 r ⟨rfl, rfl, p1⟩ -
    have q1 := q0.nx (by decide) p1
    have x1 := q1.2.1
    refine wq_aload_n (kk := 0) (q := 21) rfl rfl rfl ?_
    refine wq_iload_n (kk := 2) (q := 22) rfl rfl rfl ?_
    refine wq_callV (q := 25) (m' := m_Lt_putBytes) (R' := rm 1) (As := [_]) rfl rfl l_Lt_83 vm_Lt_putBytes rfl rfl rfl (Or.inl ⟨rfl, Nat.le_of_ble_eq_true rfl⟩) (Nat.le_of_ble_eq_true rfl) (Nat.le_of_ble_eq_true rfl) (Nat.le_refl _) (Nat.le_refl _) (Nat.le_of_ble_eq_true rfl) (Lt_putBytes_ok b h1 r (by omega)) rfl ?_
    rintro rv h2 r ⟨rfl, rfl, p2⟩ -
    have q2 := q1.nx (by decide) p2
    have x2 := q2.2.1
    refine wq_aload_n (kk := 0) (q := 26) rfl rfl rfl ?_
    refine wq_iload_n (kk := 3) (q := 27) rfl rfl rfl ?_
    refine wq_callV (q := 30) (m' := m_Lt_putBytes) (R' := rm 1) (As := [_]) rfl rfl l_Lt_83 vm_Lt_putBytes rfl rfl rfl (Or.inl ⟨rfl, Nat.le_of_ble_eq_true rfl⟩) (Nat.le_of_ble_eq_true rfl) (Nat.le_of_ble_eq_true rfl) (Nat.le_refl _) (Nat.le_refl _) (Nat.le_of_ble_eq_true rfl) (Lt_putBytes_ok c h2 r (by omega)) rfl ?_
    rintro rv h3 r ⟨rfl, rfl, p3⟩ -
    have q3 := q2.nx (by decide) p3
    have x3 := q3.2.1
    refine wq_aload_n (kk := 0) (q := 31) rfl rfl rfl ?_
    refine wq_iload (i := 4) (q := 33) rfl rfl rfl ?_
    refine wq_callV (q := 36) (m' := m_Lt_putBytes) (R' := rm 1) (As := [_]) rfl rfl l_Lt_83 vm_Lt_putBytes rfl rfl rfl (Or.inl ⟨rfl, Nat.le_of_ble_eq_true rfl⟩) (Nat.le_of_ble_eq_true rfl) (Nat.le_of_ble_eq_true rfl) (Nat.le_refl _) (Nat.le_refl _) (Nat.le_of_ble_eq_true rfl) (Lt_putBytes_ok d h3 r (by omega)) rfl ?_
    rintro rv h4 r ⟨rfl, rfl, p4⟩ -
    have q4 := q3.nx (by decide) p4
    have x4 := q4.2.1
    refine wq_aload_n (kk := 0) (q := 37) rfl rfl rfl ?_
    refine wq_iload (i := 5) (q := 39) rfl rfl rfl ?_
    refine wq_callV (q := 42) (m' := m_Lt_putBytes) (R' := rm 1) (As := [_]) rfl rfl l_Lt_83 vm_Lt_putBytes rfl rfl rfl (Or.inl ⟨rfl, Nat.le_of_ble_eq_true rfl⟩) (Nat.le_of_ble_eq_true rfl) (Nat.le_of_ble_eq_true rfl) (Nat.le_refl _) (Nat.le_refl _) (Nat.le_of_ble_eq_true rfl) (Lt_putBytes_ok e h4 r (by omega)) rfl ?_
    rintro rv h5 r ⟨rfl, rfl, p5⟩ -
    have q5 := q4.nx (by decide) p5
    refine wq_aload_n (kk := 0) (q := 43) rfl rfl rfl ?_
    refine wq_getI (kz := 1) (q := 46) rfl f_Lt_79 rfl rfl (Or.inl ⟨rfl, Nat.le_of_ble_eq_true rfl⟩) rfl rfl ?_
    exact wq_iret rfl rfl (Nat.le_refl _) (Nat.le_refl _) ⟨rfl, Or.inr ⟨by omega, rfl, q5⟩⟩
  · skip
    refine wq_iconst (n := -1) (q := 14) rfl rfl rfl ?_
    exact wq_iret rfl rfl (Nat.le_refl _) (Nat.le_refl _) ⟨rfl, Or.inl ⟨by omega, rfl, rfl⟩⟩
abbrev dkC : List Nat := [0, 13, 14, 15, 16, 17, 18, 19, 20, 21, 22, 23, 24, 25, 26, 27]
abbrev rD (r : mR) : mR := rup (rup (rup r 24 4 (some 13)) 0 2 (some 13)) 0 3 (some 2)
/-- what desk() does: z is what the text tells -/
def dkQ (n : Int) (h : mH) (r : mR) (z : Int × Int × pS) : mP := fun rv h1 r1 => (¬ (0 ≤ n ∧ n ≤ h 0 1) ∧ rv = some (vI (-1)) ∧ h1 = hup h 0 12 2 ∧ r1 = r) ∨
  ((0 ≤ n ∧ n ≤ h 0 1) ∧ fr dkC h h1 ∧ (h1 0 1 = 0 ∧ h1 0 13 = z.1 ∧ h1 0 14 = z.2.1) ∧
    ((z.1 ≠ 0 ∧ rv = some (vI (-1)) ∧ h1 0 12 = 4 ∧ h1 27 0 = h 27 0 ∧ r1 = rup r 24 4 (some 13)) ∨
     (z.1 = 0 ∧ rv = some (vI (z.2.2.1 4)) ∧ h1 0 12 = 0 ∧ h1 27 0 = 0 ∧ r1 = rD r ∧ dM 13 h1 z.2.2.1 ∧ RV z.2.2.1 ∧ 0 < z.2.2.1 1)))
set_option maxRecDepth 100000 in
set_option maxHeartbeats 1000000 in
theorem Lt_desk_ok (n : Int) (h : mH) (r : mR) (u0 : 0 ≤ h 0 1 ∧ h 0 1 ≤ 900) (hcur : r.1 0 2 = some 2) (hdra : r.1 0 3 = some 13) : Meets true (rm 12) m_Lt_desk [vR 0, vI n] h r (dkQ n h r (pRd (h 1) n)) := by
  refine ⟨ok_Lt_desk, Nat.le_of_ble_eq_true rfl, ?_⟩
  refine wq_iload_n (kk := 1) (q := 1) rfl rfl rfl ?_
  refine wq_if_lt (tgt := 12) (q := 4) rfl rfl rfl (fun c1 => ?_) (fun c1 => ?_)
  · skip
    refine wq_aload_n (kk := 0) (q := 13) rfl rfl rfl ?_
    refine wq_iconst (n := 2) (q := 14) rfl rfl rfl ?_
    refine wq_callV (q := 17) (m' := m_Lt_refuse) (R' := rm 1) (As := [_]) rfl rfl l_Lt_87 vm_Lt_refuse rfl rfl rfl (Or.inl ⟨rfl, Nat.le_of_ble_eq_true rfl⟩) (Nat.le_of_ble_eq_true rfl) (Nat.le_of_ble_eq_true rfl) (Nat.le_refl _) (Nat.le_refl _) (Nat.le_of_ble_eq_true rfl) (Lt_refuse_ok _ _ _) rfl ?_
    rintro rv h1 r ⟨rfl, rfl, rfl⟩ -
    exact wq_iret rfl rfl (Nat.le_refl _) (Nat.le_refl _) (Or.inl ⟨by omega, rfl, rfl, rfl⟩)
  · skip
    refine wq_iload_n (kk := 1) (q := 5) rfl rfl rfl ?_
    refine wq_aload_n (kk := 0) (q := 6) rfl rfl rfl ?_
    refine wq_getI (kz := 1) (q := 9) rfl f_Lt_79 rfl rfl (Or.inl ⟨rfl, Nat.le_of_ble_eq_true rfl⟩) rfl rfl ?_
    refine wq_icmp_le (tgt := 18) (q := 12) rfl rfl rfl (fun c9 => ?_) (fun c9 => ?_)
    · skip
      refine wq_aload_n (kk := 0) (q := 19) rfl rfl rfl ?_
      refine wq_iconst (n := 0) (q := 20) rfl rfl rfl ?_
      refine wq_putI (kz := 1) (q := 23) rfl f_Lt_79 rfl rfl rfl (Or.inl ⟨rfl, Nat.le_of_ble_eq_true rfl⟩) rfl rfl ?_
      refine wq_aload_n (kk := 0) (q := 24) rfl rfl rfl ?_
      refine wq_getF (q := 27) f_Lt_28 rfl rfl (Nat.le_of_ble_eq_true rfl) rfl rfl rfl ?_
      refine wq_iload_n (kk := 1) (q := 28) rfl rfl rfl ?_
      refine wq_aload_n (kk := 0) (q := 29) rfl rfl rfl ?_
      refine wq_getR (q := 32) f_Lt_20 rfl rfl (Or.inl ⟨rfl, Nat.le_of_ble_eq_true rfl⟩) hdra rfl rfl ?_
      refine wq_callV (q := 35) (m' := m_Re_read) (R' := rm 11) (As := [_, _]) rfl rfl l_Lt_91 vm_Re_read rfl rfl rfl (Or.inl ⟨rfl, Nat.le_of_ble_eq_true rfl⟩) (Nat.le_of_ble_eq_true rfl) (Nat.le_of_ble_eq_true rfl) (Nat.le_refl _) (Nat.le_refl _) (Nat.le_of_ble_eq_true rfl) (Re_read_ok n _ r (by omega)) rfl ?_
      rintro rv h1 r1 ⟨rfl, rfl, f1, g1, z1⟩ -
      have e1 : hup h 0 1 0 1 = h 1 := funext (fun j => hup_i (by decide))
      rw [e1] at g1 z1 ⊢
      generalize hz : pRd (h 1) n = z at *
      have hcur : (rup r 24 4 (some 13)).1 0 2 = some 2 := by rw [rup_o (by decide)]; exact hcur
      have hdra : (rup r 24 4 (some 13)).1 0 3 = some 13 := by rw [rup_o (by decide)]; exact hdra
      have y1 : h1 0 1 = 0 := by rw [f1.at 0 1 (by decide), hup_s]
      have y27 : h1 27 0 = h 27 0 := by rw [f1.at 27 0 (by decide), hup_i (by decide)]
      have f2 : fr dkC h h1 := ((fr.rf (S := dkC) (h := h)).up (by decide)).trans f1 (by decide)
      refine wq_istore_n (kk := 2) (q := 36) rfl rfl (Nat.le_of_ble_eq_true rfl) rfl ?_
      refine wq_aload_n (kk := 0) (q := 37) rfl rfl rfl ?_
      refine wq_aload_n (kk := 0) (q := 38) rfl rfl rfl ?_
      refine wq_getF (q := 41) f_Lt_28 rfl rfl (Nat.le_of_ble_eq_true rfl) rfl rfl rfl ?_
      refine wq_getI (kz := 0) (q := 44) rfl f_Lt_95 rfl rfl (Or.inl ⟨rfl, Nat.le_of_ble_eq_true rfl⟩) rfl rfl ?_
      refine wq_putI (kz := 13) (q := 47) rfl f_Lt_98 rfl rfl rfl (Or.inl ⟨rfl, Nat.le_of_ble_eq_true rfl⟩) rfl rfl ?_
      refine wq_aload_n (kk := 0) (q := 48) rfl rfl rfl ?_
      refine wq_aload_n (kk := 0) (q := 49) rfl rfl rfl ?_
      refine wq_getF (q := 52) f_Lt_28 rfl rfl (Nat.le_of_ble_eq_true rfl) rfl rfl rfl ?_
      refine wq_getI (kz := 1) (q := 55) rfl f_Lt_101 rfl rfl (Or.inl ⟨rfl, Nat.le_of_ble_eq_true rfl⟩) rfl rfl ?_
      refine wq_putI (kz := 14) (q := 58) rfl f_Lt_104 rfl rfl rfl (Or.inl ⟨rfl, Nat.le_of_ble_eq_true rfl⟩) rfl rfl ?_
      rw [show hup h1 0 13 (h1 24 0) 24 1 = h1 24 1 from hup_i (by decide)]
      refine wq_iload_n (kk := 2) (q := 59) rfl rfl rfl ?_
      refine wq_if_ne (tgt := 68) (q := 62) rfl rfl rfl (fun c59 => ?_) (fun c59 => ?_)
      · skip
        refine wq_aload_n (kk := 0) (q := 69) rfl rfl rfl ?_
        refine wq_getR (q := 72) f_Lt_16 rfl rfl (Or.inl ⟨rfl, Nat.le_of_ble_eq_true rfl⟩) hcur rfl rfl ?_
        refine wq_astore_n (kk := 3) (q := 73) rfl rfl (Nat.le_of_ble_eq_true rfl) rfl ?_
        refine wq_aload_n (kk := 0) (q := 74) rfl rfl rfl ?_
        refine wq_aload_n (kk := 0) (q := 75) rfl rfl rfl ?_
        refine wq_getR (q := 78) f_Lt_20 rfl rfl (Or.inl ⟨rfl, Nat.le_of_ble_eq_true rfl⟩) hdra rfl rfl ?_
        refine wq_putR (q := 81) f_Lt_16 rfl rfl rfl (Or.inl ⟨rfl, Nat.le_of_ble_eq_true rfl⟩) (Or.inl ⟨rfl, Nat.le_of_ble_eq_true rfl⟩) (fun _ => rfl) rfl rfl ?_
        have hcur2 := hcur
        have hcur : (rup (rup r 24 4 (some 13)) 0 2 (some 13)).1 0 2 = some 13 := by simp [rup]
        refine wq_aload_n (kk := 0) (q := 82) rfl rfl rfl ?_
        refine wq_aload_n (kk := 3) (q := 83) rfl rfl rfl ?_
        refine wq_putR (q := 86) f_Lt_20 rfl rfl rfl (Or.inl ⟨rfl, Nat.le_of_ble_eq_true rfl⟩) (Or.inl ⟨rfl, Nat.le_of_ble_eq_true rfl⟩) (fun _ => rfl) rfl rfl ?_
        have hcur : (rD r).1 0 2 = some 13 := by simp [rup]
        have zz := z1 (bI_ne c59)
        have m1 : dM 13 (hup (hup h1 0 13 (h1 24 0)) 0 14 (h1 24 1)) z.2.2.1 := zz.1.fr (S := [0]) ((fr.rf.up (by decide)).up (by decide)) (by decide)
        refine wq_aload_n (kk := 0) (q := 87) rfl rfl rfl ?_
        refine wq_getF (q := 90) f_Lt_35 rfl rfl (Nat.le_of_ble_eq_true rfl) rfl rfl rfl ?_
        refine wq_callV (q := 93) (m' := m_Lo_clear) (R' := rm 1) (As := []) rfl rfl l_Lt_107 vm_Lo_clear rfl rfl rfl (Or.inl ⟨rfl, Nat.le_of_ble_eq_true rfl⟩) (Nat.le_of_ble_eq_true rfl) (Nat.le_of_ble_eq_true rfl) (Nat.le_refl _) (Nat.le_refl _) (Nat.le_of_ble_eq_true rfl) (Lo_clear_ok _ _) rfl ?_
        rintro rv h2 r2 ⟨rfl, rfl, rfl⟩ -
        refine wq_aload_n (kk := 0) (q := 94) rfl rfl rfl ?_
        refine wq_aload_n (kk := 0) (q := 95) rfl rfl rfl ?_
        refine wq_getR (q := 98) f_Lt_16 rfl rfl (Or.inl ⟨rfl, Nat.le_of_ble_eq_true rfl⟩) hcur rfl rfl ?_
        refine wq_getI (kz := 4) (q := 101) rfl f_Lt_110 rfl rfl (Or.inl ⟨rfl, Nat.le_of_ble_eq_true rfl⟩) rfl rfl ?_
        refine wq_callV (q := 104) (m' := m_Lt_answer) (R' := rm 1) (As := [_]) rfl rfl l_Lt_113 vm_Lt_answer rfl rfl rfl (Or.inl ⟨rfl, Nat.le_of_ble_eq_true rfl⟩) (Nat.le_of_ble_eq_true rfl) (Nat.le_of_ble_eq_true rfl) (Nat.le_refl _) (Nat.le_refl _) (Nat.le_of_ble_eq_true rfl) (Lt_answer_ok _ _ _) rfl ?_
        rintro rv h2 r2 ⟨rfl, rfl, rfl⟩ -
        refine wq_iret rfl rfl (Nat.le_refl _) (Nat.le_refl _) (Or.inr ⟨by omega, (((f2.up (by decide)).up (by decide)).up (by decide)).up (by decide), ⟨?_, ?_, ?_⟩, Or.inr ⟨bI_ne c59, ?_, hup_s, ?_, rfl, m1.fr (S := [0, 27]) ((fr.rf.up (by decide)).up (by decide)) (by decide), zz.2.1.1, zz.2.2⟩⟩)
        · rw [hup_j (by decide), hup_i (by decide), hup_j (by decide), hup_j (by decide)]; exact y1
        · rw [hup_j (by decide), hup_i (by decide), hup_j (by decide), hup_s]; exact g1.1
        · rw [hup_j (by decide), hup_i (by decide), hup_s]; exact g1.2
        · rw [hup_i (by decide)]
          rw [m1.2.2.2.2.1]
        · rw [hup_i (by decide), hup_s]
      · skip
        refine wq_aload_n (kk := 0) (q := 63) rfl rfl rfl ?_
        refine wq_iconst (n := 4) (q := 64) rfl rfl rfl ?_
        refine wq_callV (q := 67) (m' := m_Lt_refuse) (R' := rm 1) (As := [_]) rfl rfl l_Lt_87 vm_Lt_refuse rfl rfl rfl (Or.inl ⟨rfl, Nat.le_of_ble_eq_true rfl⟩) (Nat.le_of_ble_eq_true rfl) (Nat.le_of_ble_eq_true rfl) (Nat.le_refl _) (Nat.le_refl _) (Nat.le_of_ble_eq_true rfl) (Lt_refuse_ok _ _ _) rfl ?_
        rintro rv h2 r2 ⟨rfl, rfl, rfl⟩ -
        refine wq_iret rfl rfl (Nat.le_refl _) (Nat.le_refl _) (Or.inr ⟨by omega, ((f2.up (by decide)).up (by decide)).up (by decide), ⟨?_, ?_, ?_⟩, Or.inl ⟨fun y => (by rw [bI_t y] at c59; omega), rfl, hup_s, ?_, rfl⟩⟩)
        · rw [hup_j (by decide), hup_j (by decide), hup_j (by decide)]; exact y1
        · rw [hup_j (by decide), hup_j (by decide), hup_s]; exact g1.1
        · rw [hup_j (by decide), hup_s]; exact g1.2
        · rw [hup_i (by decide), hup_i (by decide), hup_i (by decide)]; exact y27
    · skip
      refine wq_aload_n (kk := 0) (q := 13) rfl rfl rfl ?_
      refine wq_iconst (n := 2) (q := 14) rfl rfl rfl ?_
      refine wq_callV (q := 17) (m' := m_Lt_refuse) (R' := rm 1) (As := [_]) rfl rfl l_Lt_87 vm_Lt_refuse rfl rfl rfl (Or.inl ⟨rfl, Nat.le_of_ble_eq_true rfl⟩) (Nat.le_of_ble_eq_true rfl) (Nat.le_of_ble_eq_true rfl) (Nat.le_refl _) (Nat.le_refl _) (Nat.le_of_ble_eq_true rfl) (Lt_refuse_ok _ _ _) rfl ?_
      rintro rv h1 r ⟨rfl, rfl, rfl⟩ -
      exact wq_iret rfl rfl (Nat.le_refl _) (Nat.le_refl _) (Or.inl ⟨by omega, rfl, rfl, rfl⟩)

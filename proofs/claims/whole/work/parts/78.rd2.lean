/-! LinkTimes$Reader: words, names, what is expected -/
set_option maxRecDepth 100000 in
theorem Re_fail_ok (k : Int) (h : mH) (r : mR) : Meets true (rm 1) m_Re_fail [vR 24, vI k] h r (pI 0 (hup (hup h 24 0 k) 24 1 (h 24 11)) r) := by
  refine ⟨ok_Re_fail, Nat.le_of_ble_eq_true rfl, ?_⟩
  refine wq_aload_n (kk := 0) (q := 1) rfl rfl rfl ?_
  refine wq_iload_n (kk := 1) (q := 2) rfl rfl rfl ?_
  refine wq_putI (kz := 0) (q := 5) rfl f_Re_41 rfl rfl rfl (Or.inl ⟨rfl, Nat.le_of_ble_eq_true rfl⟩) rfl rfl ?_
  refine wq_aload_n (kk := 0) (q := 6) rfl rfl rfl ?_
  refine wq_aload_n (kk := 0) (q := 7) rfl rfl rfl ?_
  refine wq_getI (kz := 11) (q := 10) rfl f_Re_64 rfl rfl (Or.inl ⟨rfl, Nat.le_of_ble_eq_true rfl⟩) rfl rfl ?_
  refine wq_putI (kz := 1) (q := 13) rfl f_Re_44 rfl rfl rfl (Or.inl ⟨rfl, Nat.le_of_ble_eq_true rfl⟩) rfl rfl ?_
  refine wq_iconst (n := 0) (q := 14) rfl rfl rfl ?_
  refine wq_zret rfl rfl (Nat.le_refl _) (Nat.le_refl _) (by omega) ?_
  refine ⟨rfl, ?_, rfl⟩
  rw [hup_j (show ¬ (11 : Int) = 0 by decide)]
set_option maxRecDepth 100000 in
set_option maxHeartbeats 1000000 in
theorem Re_isWord_lp (j : Nat) (hj : j < 11) (T : mF) (n p : Int) (h : mH) (r : mR) (hT : h 1 = T) (hb : n ≤ 900) (p0 : 0 ≤ p) (p1 : p ≤ n) (hk : tkd T n p h) (h1 : tK T n p = 1) (h2 : tE T n p - tS T n p = sLen j) : ∀ (M : Nat) (i : Int), (sLen j - i).toNat = M → 0 ≤ i → i ≤ sLen j → (∀ x, 0 ≤ x → x < i → T (tS T n p + x) = sCh j x) → WP (true, rm 6) m_Re_isWord (rt m_Re_isWord (rm 6) (pI (bI (Wd T n p j)) h r)) 28 [some (vR 24), some (vR (sBase + j)), some (vI i)] [] h r (0, 0) := by
  intro M
  induction M using Nat.strongRecOn with
  | ind M ih =>
    intro i hM i0 i1 hx
    have e11 := hk.2.1
    have hs := tS_s (T := T) p1
    have he := tE_s (T := T) p1
    have xi : h 1 (h 24 11 + i) = T (tS T n p + i) := by rw [hT, e11]
    refine wq_iload_n (kk := 2) (q := 29) rfl rfl rfl ?_
    refine wq_aload_n (kk := 1) (q := 30) rfl rfl rfl ?_
    refine wq_callVs (q := 33) (m' := m_Js_length) (R' := rm 2) (As := []) rfl rfl l_Re_170 vm_Js_length rfl rfl hj (Nat.le_of_ble_eq_true rfl) (Nat.le_of_ble_eq_true rfl) (Nat.le_refl _) (Nat.le_refl _) (Nat.le_of_ble_eq_true rfl) (Js_length_ok hj) rfl ?_
    rintro rv h' r' ⟨rfl, rfl, rfl⟩ -
    refine wq_icmp_ge (tgt := 63) (q := 36) rfl rfl rfl (fun c33 => ?_) (fun c33 => ?_)
    · skip
      refine wq_iconst (n := 1) (q := 64) rfl rfl rfl ?_
      refine wq_zret rfl rfl (Nat.le_refl _) (Nat.le_refl _) (by omega) (pC_t ⟨h1, h2, fun x x0 x1 => hx x x0 (by omega)⟩)
    · skip
      refine wq_aload_n (kk := 0) (q := 37) rfl rfl rfl ?_
      refine wq_getF (q := 40) f_Re_18 rfl rfl (Nat.le_of_ble_eq_true rfl) rfl rfl rfl ?_
      refine wq_aload_n (kk := 0) (q := 41) rfl rfl rfl ?_
      refine wq_getI (kz := 11) (q := 44) rfl f_Re_64 rfl rfl (Or.inl ⟨rfl, Nat.le_of_ble_eq_true rfl⟩) rfl rfl ?_
      refine wq_iload_n (kk := 2) (q := 45) rfl rfl rfl ?_
      refine wq_iadd (q := 46) rfl rfl (by first | omega | (simp [hup]; omega)) (by first | omega | (simp [hup]; omega)) ?_
      refine wq_bald (q := 47) rfl (Or.inl ⟨rfl, Nat.le_of_ble_eq_true rfl⟩) rfl rfl (by first | omega | (simp [hup]; omega)) (by first | omega | (simp [hup]; omega)) ?_
      refine wq_aload_n (kk := 1) (q := 48) rfl rfl rfl ?_
      refine wq_iload_n (kk := 2) (q := 49) rfl rfl rfl ?_
      refine wq_callVs (q := 52) (m' := m_Js_charAt) (R' := rm 4) (As := [_]) rfl rfl l_Re_175 vm_Js_charAt rfl rfl hj (Nat.le_of_ble_eq_true rfl) (Nat.le_of_ble_eq_true rfl) (Nat.le_refl _) (Nat.le_refl _) (Nat.le_of_ble_eq_true rfl) (Js_charAt_ok hj (by first | omega | (simp [hup]; omega)) (by first | omega | (simp [hup]; omega))) rfl ?_
      rintro rv h' r' ⟨rfl, rfl, rfl⟩ -
      refine wq_icmp_eq (tgt := 57) (q := 55) rfl rfl rfl (fun c52 => ?_) (fun c52 => ?_)
      · skip
        refine wq_iinc (i := 2) (n := 1) (q := 60) rfl rfl rfl (Nat.le_of_ble_eq_true rfl) rfl (by first | omega | (simp [hup]; omega)) (by first | omega | (simp [hup]; omega)) ?_
        refine wq_goto (tgt := 28) rfl rfl ?_
        refine ih _ (by omega) (i + 1) rfl (by omega) (by omega) (fun x x0 x1 => ?_)
        by_cases e : x = i
        · subst e; omega
        · exact hx x x0 (by omega)
      · skip
        refine wq_iconst (n := 0) (q := 56) rfl rfl rfl ?_
        refine wq_zret rfl rfl (Nat.le_refl _) (Nat.le_refl _) (by omega) (pC_f (fun z => ?_))
        have := z.2.2 i i0 (by omega)
        omega
set_option maxRecDepth 100000 in
set_option maxHeartbeats 1000000 in
theorem Re_isWord_ok (j : Nat) (hj : j < 11) (T : mF) (n p : Int) (h : mH) (r : mR) (hT : h 1 = T) (hb : n ≤ 900) (p0 : 0 ≤ p) (p1 : p ≤ n) (hk : tkd T n p h) : Meets true (rm 6) m_Re_isWord [vR 24, vR (sBase + j)] h r (pI (bI (Wd T n p j)) h r) := by
  have e10 := hk.1
  have e11 := hk.2.1
  have e12 := hk.2.2.1
  have hs := tS_s (T := T) p1
  have he := tE_s (T := T) p1
  refine ⟨ok_Re_isWord, Nat.le_of_ble_eq_true rfl, ?_⟩
  refine wq_aload_n (kk := 0) (q := 1) rfl rfl rfl ?_
  refine wq_getI (kz := 10) (q := 4) rfl f_Re_54 rfl rfl (Or.inl ⟨rfl, Nat.le_of_ble_eq_true rfl⟩) rfl rfl ?_
  refine wq_iconst (n := 1) (q := 5) rfl rfl rfl ?_
  refine wq_icmp_ne (tgt := 24) (q := 8) rfl rfl rfl (fun c5 => ?_) (fun c5 => ?_)
  · skip
    refine wq_iconst (n := 0) (q := 25) rfl rfl rfl ?_
    refine wq_zret rfl rfl (Nat.le_refl _) (Nat.le_refl _) (by omega) (pC_f (fun z => ?_))
    have z1 := z.1
    have z2 := z.2.1
    omega
  · skip
    refine wq_aload_n (kk := 0) (q := 9) rfl rfl rfl ?_
    refine wq_getI (kz := 12) (q := 12) rfl f_Re_47 rfl rfl (Or.inl ⟨rfl, Nat.le_of_ble_eq_true rfl⟩) rfl rfl ?_
    refine wq_aload_n (kk := 0) (q := 13) rfl rfl rfl ?_
    refine wq_getI (kz := 11) (q := 16) rfl f_Re_64 rfl rfl (Or.inl ⟨rfl, Nat.le_of_ble_eq_true rfl⟩) rfl rfl ?_
    refine wq_isub (q := 17) rfl rfl (by first | omega | (simp [hup]; omega)) (by first | omega | (simp [hup]; omega)) ?_
    refine wq_aload_n (kk := 1) (q := 18) rfl rfl rfl ?_
    refine wq_callVs (q := 21) (m' := m_Js_length) (R' := rm 2) (As := []) rfl rfl l_Re_170 vm_Js_length rfl rfl hj (Nat.le_of_ble_eq_true rfl) (Nat.le_of_ble_eq_true rfl) (Nat.le_refl _) (Nat.le_refl _) (Nat.le_of_ble_eq_true rfl) (Js_length_ok hj) rfl ?_
    rintro rv h' r' ⟨rfl, rfl, rfl⟩ -
    refine wq_icmp_eq (tgt := 26) (q := 24) rfl rfl rfl (fun c21 => ?_) (fun c21 => ?_)
    · skip
      refine wq_iconst (n := 0) (q := 27) rfl rfl rfl ?_
      refine wq_istore_n (kk := 2) (q := 28) rfl rfl (Nat.le_of_ble_eq_true rfl) rfl ?_
      exact Re_isWord_lp j hj T n p _ _ hT hb p0 p1 hk (by omega) (by omega) _ 0 rfl (by omega) (by omega) (fun x x0 x1 => by omega)
    · skip
      refine wq_iconst (n := 0) (q := 25) rfl rfl rfl ?_
      refine wq_zret rfl rfl (Nat.le_refl _) (Nat.le_refl _) (by omega) (pC_f (fun z => ?_))
      have z1 := z.1
      have z2 := z.2.1
      omega
set_option maxRecDepth 100000 in
set_option maxHeartbeats 1000000 in
theorem Re_isName_ok (T : mF) (n p : Int) (h : mH) (r : mR) (hT : h 1 = T) (hb : n ≤ 900) (p0 : 0 ≤ p) (p1 : p ≤ n) (hk : tkd T n p h) : Meets true (rm 7) m_Re_isName [vR 24] h r (pI (bI (Nm T n p)) h r) := by
  have e10 := hk.1
  refine ⟨ok_Re_isName, Nat.le_of_ble_eq_true rfl, ?_⟩
  refine wq_aload_n (kk := 0) (q := 1) rfl rfl rfl ?_
  refine wq_getI (kz := 10) (q := 4) rfl f_Re_54 rfl rfl (Or.inl ⟨rfl, Nat.le_of_ble_eq_true rfl⟩) rfl rfl ?_
  refine wq_iconst (n := 1) (q := 5) rfl rfl rfl ?_
  refine wq_icmp_ne (tgt := 48) (q := 8) rfl rfl rfl (fun c5 => ?_) (fun c5 => ?_)
  · skip
    refine wq_iconst (n := 0) (q := 49) rfl rfl rfl ?_
    refine wq_zret rfl rfl (Nat.le_refl _) (Nat.le_refl _) (by omega) ?_
    first
    | exact pC_t ⟨by omega, by assumption, by assumption, by assumption, by assumption⟩
    | exact pC_f (fun z => by have := z.1; omega)
    | exact pC_f (fun z => absurd c14 z.2.1)
    | exact pC_f (fun z => absurd c23 z.2.2.1)
    | exact pC_f (fun z => absurd c32 z.2.2.2.1)
    | exact pC_f (fun z => absurd c41 z.2.2.2.2)
  · skip
    refine wq_aload_n (kk := 0) (q := 9) rfl rfl rfl ?_
    refine wq_ldcs (j := 0) (q := 11) (by decide) (Nat.le_of_ble_eq_true rfl) rfl rfl ?_
    refine wq_callV (q := 14) (m' := m_Re_isWord) (R' := rm 6) (As := [_]) rfl rfl l_Re_71 vm_Re_isWord rfl rfl rfl (Or.inl ⟨rfl, Nat.le_of_ble_eq_true rfl⟩) (Nat.le_of_ble_eq_true rfl) (Nat.le_of_ble_eq_true rfl) (Nat.le_refl _) (Nat.le_refl _) (Nat.le_of_ble_eq_true rfl) (Re_isWord_ok 0 (by decide) T n p h r hT hb p0 p1 hk) rfl ?_
    rintro rv h r ⟨rfl, rfl, rfl⟩ -
    refine wq_cif_ne (tgt := 48) (q := 17) rfl rfl rfl (fun c14 => ?_) (fun c14 => ?_)
    · skip
      refine wq_iconst (n := 0) (q := 49) rfl rfl rfl ?_
      refine wq_zret rfl rfl (Nat.le_refl _) (Nat.le_refl _) (by omega) ?_
      first
      | exact pC_t ⟨by omega, by assumption, by assumption, by assumption, by assumption⟩
      | exact pC_f (fun z => by have := z.1; omega)
      | exact pC_f (fun z => absurd c14 z.2.1)
      | exact pC_f (fun z => absurd c23 z.2.2.1)
      | exact pC_f (fun z => absurd c32 z.2.2.2.1)
      | exact pC_f (fun z => absurd c41 z.2.2.2.2)
    · skip
      refine wq_aload_n (kk := 0) (q := 18) rfl rfl rfl ?_
      refine wq_ldcs (j := 1) (q := 20) (by decide) (Nat.le_of_ble_eq_true rfl) rfl rfl ?_
      refine wq_callV (q := 23) (m' := m_Re_isWord) (R' := rm 6) (As := [_]) rfl rfl l_Re_71 vm_Re_isWord rfl rfl rfl (Or.inl ⟨rfl, Nat.le_of_ble_eq_true rfl⟩) (Nat.le_of_ble_eq_true rfl) (Nat.le_of_ble_eq_true rfl) (Nat.le_refl _) (Nat.le_refl _) (Nat.le_of_ble_eq_true rfl) (Re_isWord_ok 1 (by decide) T n p h r hT hb p0 p1 hk) rfl ?_
      rintro rv h r ⟨rfl, rfl, rfl⟩ -
      refine wq_cif_ne (tgt := 48) (q := 26) rfl rfl rfl (fun c23 => ?_) (fun c23 => ?_)
      · skip
        refine wq_iconst (n := 0) (q := 49) rfl rfl rfl ?_
        refine wq_zret rfl rfl (Nat.le_refl _) (Nat.le_refl _) (by omega) ?_
        first
        | exact pC_t ⟨by omega, by assumption, by assumption, by assumption, by assumption⟩
        | exact pC_f (fun z => by have := z.1; omega)
        | exact pC_f (fun z => absurd c14 z.2.1)
        | exact pC_f (fun z => absurd c23 z.2.2.1)
        | exact pC_f (fun z => absurd c32 z.2.2.2.1)
        | exact pC_f (fun z => absurd c41 z.2.2.2.2)
      · skip
        refine wq_aload_n (kk := 0) (q := 27) rfl rfl rfl ?_
        refine wq_ldcs (j := 2) (q := 29) (by decide) (Nat.le_of_ble_eq_true rfl) rfl rfl ?_
        refine wq_callV (q := 32) (m' := m_Re_isWord) (R' := rm 6) (As := [_]) rfl rfl l_Re_71 vm_Re_isWord rfl rfl rfl (Or.inl ⟨rfl, Nat.le_of_ble_eq_true rfl⟩) (Nat.le_of_ble_eq_true rfl) (Nat.le_of_ble_eq_true rfl) (Nat.le_refl _) (Nat.le_refl _) (Nat.le_of_ble_eq_true rfl) (Re_isWord_ok 2 (by decide) T n p h r hT hb p0 p1 hk) rfl ?_
        rintro rv h r ⟨rfl, rfl, rfl⟩ -
        refine wq_cif_ne (tgt := 48) (q := 35) rfl rfl rfl (fun c32 => ?_) (fun c32 => ?_)
        · skip
          refine wq_iconst (n := 0) (q := 49) rfl rfl rfl ?_
          refine wq_zret rfl rfl (Nat.le_refl _) (Nat.le_refl _) (by omega) ?_
          first
          | exact pC_t ⟨by omega, by assumption, by assumption, by assumption, by assumption⟩
          | exact pC_f (fun z => by have := z.1; omega)
          | exact pC_f (fun z => absurd c14 z.2.1)
          | exact pC_f (fun z => absurd c23 z.2.2.1)
          | exact pC_f (fun z => absurd c32 z.2.2.2.1)
          | exact pC_f (fun z => absurd c41 z.2.2.2.2)
        · skip
          refine wq_aload_n (kk := 0) (q := 36) rfl rfl rfl ?_
          refine wq_ldcs (j := 3) (q := 38) (by decide) (Nat.le_of_ble_eq_true rfl) rfl rfl ?_
          refine wq_callV (q := 41) (m' := m_Re_isWord) (R' := rm 6) (As := [_]) rfl rfl l_Re_71 vm_Re_isWord rfl rfl rfl (Or.inl ⟨rfl, Nat.le_of_ble_eq_true rfl⟩) (Nat.le_of_ble_eq_true rfl) (Nat.le_of_ble_eq_true rfl) (Nat.le_refl _) (Nat.le_refl _) (Nat.le_of_ble_eq_true rfl) (Re_isWord_ok 3 (by decide) T n p h r hT hb p0 p1 hk) rfl ?_
          rintro rv h r ⟨rfl, rfl, rfl⟩ -
          refine wq_cif_ne (tgt := 48) (q := 44) rfl rfl rfl (fun c41 => ?_) (fun c41 => ?_)
          · skip
            refine wq_iconst (n := 0) (q := 49) rfl rfl rfl ?_
            refine wq_zret rfl rfl (Nat.le_refl _) (Nat.le_refl _) (by omega) ?_
            first
            | exact pC_t ⟨by omega, by assumption, by assumption, by assumption, by assumption⟩
            | exact pC_f (fun z => by have := z.1; omega)
            | exact pC_f (fun z => absurd c14 z.2.1)
            | exact pC_f (fun z => absurd c23 z.2.2.1)
            | exact pC_f (fun z => absurd c32 z.2.2.2.1)
            | exact pC_f (fun z => absurd c41 z.2.2.2.2)
          · skip
            refine wq_iconst (n := 1) (q := 45) rfl rfl rfl ?_
            refine wq_goto (tgt := 49) rfl rfl ?_
            refine wq_zret rfl rfl (Nat.le_refl _) (Nat.le_refl _) (by omega) ?_
            first
            | exact pC_t ⟨by omega, by assumption, by assumption, by assumption, by assumption⟩
            | exact pC_f (fun z => by have := z.1; omega)
            | exact pC_f (fun z => absurd c14 z.2.1)
            | exact pC_f (fun z => absurd c23 z.2.2.1)
            | exact pC_f (fun z => absurd c32 z.2.2.2.1)
            | exact pC_f (fun z => absurd c41 z.2.2.2.2)
/-- the first place of a row at which a number stands; -1 -/
def fdx (f : mF) (c v : Int) : Int := if rE (fun i => decide (f i ≠ v)) c 0 < c then rE (fun i => decide (f i ≠ v)) c 0 else -1
theorem fdx_s {f : mF} {c v : Int} (hc : 0 ≤ c) : (fdx f c v = -1 ∧ ∀ i, 0 ≤ i → i < c → f i ≠ v) ∨ ((0 ≤ fdx f c v ∧ fdx f c v < c) ∧ f (fdx f c v) = v) := by
  obtain ⟨h1, h2, h3, h4⟩ := rE_s (f := fun i => decide (f i ≠ v)) hc
  unfold fdx
  by_cases e : rE (fun i => decide (f i ≠ v)) c 0 < c
  · rw [if_pos e]
    exact Or.inr ⟨⟨h1, e⟩, by simpa using h4 e⟩
  · rw [if_neg e]
    exact Or.inl ⟨rfl, fun i i0 i1 => by simpa using h3 i i0 (by omega)⟩
theorem fdx_c {f g : mF} {c v w : Int} (h : ∀ i, 0 ≤ i → i < c → (f i = v ↔ g i = w)) : fdx f c v = fdx g c w := by
  unfold fdx
  have : rE (fun i => decide (f i ≠ v)) c 0 = rE (fun i => decide (g i ≠ w)) c 0 := rE_c (fun j j0 j1 => by
    have := h j j0 j1
    simp only [ne_eq, this])
  rw [this]
set_option maxRecDepth 100000 in
set_option maxHeartbeats 1000000 in
theorem Re_find_lp (c : Nat) (m k : Int) (hc : c = 25 ∧ m = 10 ∨ c = 26 ∧ m = 8) (h : mH) (r : mR) (k0 : 0 ≤ k) (k1 : k ≤ m) : ∀ (M : Nat) (i : Int), (k - i).toNat = M → 0 ≤ i → i ≤ k → rE (fun i => decide (h c i ≠ h 24 13)) k i = rE (fun i => decide (h c i ≠ h 24 13)) k 0 → WP (true, rm 1) m_Re_find (rt m_Re_find (rm 1) (pI (fdx (h c) k (h 24 13)) h r)) 2 [some (vR 24), some (vR c), some (vI k), some (vI i)] [] h r (0, 0) := by
  intro M
  induction M using Nat.strongRecOn with
  | ind M ih =>
    intro i hM i0 i1 hr
    have hend : ∀ {v : Int}, (k ≤ i → v = -1) → (i < k → h c i = h 24 13 → v = i) → (k ≤ i ∨ h c i = h 24 13) → pI (fdx (h c) k (h 24 13)) h r (some (vI v)) h r := fun {v} e1 e2 e3 => by
      refine ⟨?_, rfl, rfl⟩
      have en : rE (fun i => decide (h c i ≠ h 24 13)) k i = i := rE_n (by rcases e3 with e3 | e3; exact Or.inl e3; exact Or.inr (by simp [e3]))
      unfold fdx
      rw [← hr, en]
      by_cases z : i < k
      · rw [if_pos z, e2 z (by omega)]
      · rw [if_neg z, e1 (by omega)]
    rcases hc with ⟨rfl, rfl⟩ | ⟨rfl, rfl⟩
    · skip
      refine wq_iload_n (kk := 3) (q := 3) rfl rfl rfl ?_
      refine wq_iload_n (kk := 2) (q := 4) rfl rfl rfl ?_
      refine wq_icmp_ge (tgt := 31) (q := 7) rfl rfl rfl (fun c4 => ?_) (fun c4 => ?_)
      · skip
        refine wq_iconst (n := -1) (q := 32) rfl rfl rfl ?_
        exact wq_iret rfl rfl (Nat.le_refl _) (Nat.le_refl _) (hend (fun _ => rfl) (fun _ => by omega) (Or.inl (by omega)))
      · skip
        refine wq_iload_n (kk := 3) (q := 8) rfl rfl rfl ?_
        refine wq_aload_n (kk := 1) (q := 9) rfl rfl rfl ?_
        refine wq_alenI (q := 10) rfl (Or.inl ⟨rfl, Nat.le_of_ble_eq_true rfl⟩) rfl rfl rfl ?_
        refine wq_icmp_ge (tgt := 31) (q := 13) rfl rfl rfl (fun c10 => ?_) (fun c10 => ?_)
        · skip
          refine wq_iconst (n := -1) (q := 32) rfl rfl rfl ?_
          exact wq_iret rfl rfl (Nat.le_refl _) (Nat.le_refl _) (hend (fun _ => rfl) (fun _ => by omega) (Or.inl (by omega)))
        · skip
          refine wq_aload_n (kk := 1) (q := 14) rfl rfl rfl ?_
          refine wq_iload_n (kk := 3) (q := 15) rfl rfl rfl ?_
          refine wq_iald (q := 16) rfl (Or.inl ⟨rfl, Nat.le_of_ble_eq_true rfl⟩) rfl rfl (by first | omega | (simp [hup]; omega)) (by first | omega | (simp [hup]; omega)) ?_
          refine wq_aload_n (kk := 0) (q := 17) rfl rfl rfl ?_
          refine wq_getI (kz := 13) (q := 20) rfl f_Re_119 rfl rfl (Or.inl ⟨rfl, Nat.le_of_ble_eq_true rfl⟩) rfl rfl ?_
          refine wq_icmp_ne (tgt := 25) (q := 23) rfl rfl rfl (fun c20 => ?_) (fun c20 => ?_)
          · skip
            refine wq_iinc (i := 3) (n := 1) (q := 28) rfl rfl rfl (Nat.le_of_ble_eq_true rfl) rfl (by first | omega | (simp [hup]; omega)) (by first | omega | (simp [hup]; omega)) ?_
            refine wq_goto (tgt := 2) rfl rfl ?_
            exact ih _ (by omega) (i + 1) rfl (by omega) (by omega) (by rw [rE_y (by omega) (by simp; omega)]; exact hr)
          · skip
            refine wq_iload_n (kk := 3) (q := 24) rfl rfl rfl ?_
            exact wq_iret rfl rfl (Nat.le_refl _) (Nat.le_refl _) (hend (fun _ => by omega) (fun _ _ => rfl) (Or.inr c20))
    · skip
      refine wq_iload_n (kk := 3) (q := 3) rfl rfl rfl ?_
      refine wq_iload_n (kk := 2) (q := 4) rfl rfl rfl ?_
      refine wq_icmp_ge (tgt := 31) (q := 7) rfl rfl rfl (fun c4 => ?_) (fun c4 => ?_)
      · skip
        refine wq_iconst (n := -1) (q := 32) rfl rfl rfl ?_
        exact wq_iret rfl rfl (Nat.le_refl _) (Nat.le_refl _) (hend (fun _ => rfl) (fun _ => by omega) (Or.inl (by omega)))
      · skip
        refine wq_iload_n (kk := 3) (q := 8) rfl rfl rfl ?_
        refine wq_aload_n (kk := 1) (q := 9) rfl rfl rfl ?_
        refine wq_alenI (q := 10) rfl (Or.inl ⟨rfl, Nat.le_of_ble_eq_true rfl⟩) rfl rfl rfl ?_
        refine wq_icmp_ge (tgt := 31) (q := 13) rfl rfl rfl (fun c10 => ?_) (fun c10 => ?_)
        · skip
          refine wq_iconst (n := -1) (q := 32) rfl rfl rfl ?_
          exact wq_iret rfl rfl (Nat.le_refl _) (Nat.le_refl _) (hend (fun _ => rfl) (fun _ => by omega) (Or.inl (by omega)))
        · skip
          refine wq_aload_n (kk := 1) (q := 14) rfl rfl rfl ?_
          refine wq_iload_n (kk := 3) (q := 15) rfl rfl rfl ?_
          refine wq_iald (q := 16) rfl (Or.inl ⟨rfl, Nat.le_of_ble_eq_true rfl⟩) rfl rfl (by first | omega | (simp [hup]; omega)) (by first | omega | (simp [hup]; omega)) ?_
          refine wq_aload_n (kk := 0) (q := 17) rfl rfl rfl ?_
          refine wq_getI (kz := 13) (q := 20) rfl f_Re_119 rfl rfl (Or.inl ⟨rfl, Nat.le_of_ble_eq_true rfl⟩) rfl rfl ?_
          refine wq_icmp_ne (tgt := 25) (q := 23) rfl rfl rfl (fun c20 => ?_) (fun c20 => ?_)
          · skip
            refine wq_iinc (i := 3) (n := 1) (q := 28) rfl rfl rfl (Nat.le_of_ble_eq_true rfl) rfl (by first | omega | (simp [hup]; omega)) (by first | omega | (simp [hup]; omega)) ?_
            refine wq_goto (tgt := 2) rfl rfl ?_
            exact ih _ (by omega) (i + 1) rfl (by omega) (by omega) (by rw [rE_y (by omega) (by simp; omega)]; exact hr)
          · skip
            refine wq_iload_n (kk := 3) (q := 24) rfl rfl rfl ?_
            exact wq_iret rfl rfl (Nat.le_refl _) (Nat.le_refl _) (hend (fun _ => by omega) (fun _ _ => rfl) (Or.inr c20))
set_option maxRecDepth 100000 in
theorem Re_find_ok (c : Nat) (m k : Int) (hc : c = 25 ∧ m = 10 ∨ c = 26 ∧ m = 8) (h : mH) (r : mR) (k0 : 0 ≤ k) (k1 : k ≤ m) : Meets true (rm 1) m_Re_find [vR 24, vR c, vI k] h r (pI (fdx (h c) k (h 24 13)) h r) := by
  refine ⟨ok_Re_find, Nat.le_of_ble_eq_true rfl, ?_⟩
  refine wq_iconst (n := 0) (q := 1) rfl rfl rfl ?_
  refine wq_istore_n (kk := 3) (q := 2) rfl rfl (Nat.le_of_ble_eq_true rfl) rfl ?_
  exact Re_find_lp c m k hc h r k0 k1 _ 0 rfl (by omega) (by omega) rfl
/-- where the reader stands: the text and its length; T doesn't change -/
def rdS (T : mF) (n p : Int) (h : mH) : Prop := h 1 = T ∧ h 24 3 = n ∧ n ≤ 900 ∧ 0 ≤ p ∧ p ≤ n
/-- the fault that is told -/
def ft (h : mH) (k p : Int) : Prop := h 24 0 = k ∧ h 24 1 = p
abbrev tkF : List Int := [0, 1, 10, 11, 12, 13]
/-- a token more is read; b says whether it is right, else the fault is k at its place -/
def exp1 (T : mF) (n p : Int) (h h1 : mH) (k : Int) : Prop := f24 tkF h h1 ∧ tkd T n p h1 ∧ (k = 0 → h1 24 0 = h 24 0 ∧ h1 24 1 = h 24 1) ∧ (k ≠ 0 → ft h1 k (tS T n p))
theorem exp1.y {T : mF} {n p : Int} {h h1 : mH} (f : f24 [10, 11, 12, 13] h h1) (hk : tkd T n p h1) : exp1 T n p h h1 0 := ⟨f.mono (by decide), hk, fun _ => ⟨f.2 0 (by decide), f.2 1 (by decide)⟩, fun z => absurd rfl z⟩
theorem exp1.n {T : mF} {n p k : Int} {h h1 : mH} (f : f24 [10, 11, 12, 13] h h1) (hk : tkd T n p h1) (h0 : k ≠ 0) : exp1 T n p h (hup (hup h1 24 0 k) 24 1 (h1 24 11)) k := by
  refine ⟨((f.mono (by decide)).up (by decide)).up (by decide), ?_, fun z => absurd z h0, fun _ => ⟨?_, ?_⟩⟩
  · unfold tkd
    simp only [hup_j (show ¬ (10 : Int) = 0 by decide), hup_j (show ¬ (11 : Int) = 0 by decide), hup_j (show ¬ (12 : Int) = 0 by decide), hup_j (show ¬ (13 : Int) = 0 by decide), hup_j (show ¬ (10 : Int) = 1 by decide), hup_j (show ¬ (11 : Int) = 1 by decide), hup_j (show ¬ (12 : Int) = 1 by decide), hup_j (show ¬ (13 : Int) = 1 by decide)]
    exact hk
  · rw [hup_j (by decide), hup_s]
  · rw [hup_s]; exact hk.2.1
theorem rdS.adv {T : mF} {n p : Int} {h : mH} {r : mR} (hS : rdS T n p h) (hp : h 24 12 = p) : Meets true (rm 3) m_Re_advance [vR 24] h r (fun rv h1 r1 => rv = none ∧ r1 = r ∧ f24 [10, 11, 12, 13] h h1 ∧ tkd T n p h1 ∧ h1 1 = T) := by
  obtain ⟨a, b, c, d, e⟩ := hS
  refine (Re_advance_ok p h r hp d (by omega) (by omega)).mono ?_
  rintro rv h1 r1 ⟨x1, x2, x3, x4⟩
  rw [a, b] at x4
  exact ⟨x1, x2, x3, x4, by rw [x3.1 1 (by decide)]; exact a⟩
set_option maxRecDepth 100000 in
set_option maxHeartbeats 1000000 in
theorem Re_expectWord_ok (j : Nat) (hj : j < 11) (T : mF) (n p : Int) (h : mH) (r : mR) (hS : rdS T n p h) (hp : h 24 12 = p) : Meets true (rm 7) m_Re_expectWord [vR 24, vR (sBase + j)] h r (fun rv h1 r1 => rv = some (vI (bI (Wd T n p j))) ∧ r1 = r ∧ exp1 T n p h h1 (1 - bI (Wd T n p j))) := by
  refine ⟨ok_Re_expectWord, Nat.le_of_ble_eq_true rfl, ?_⟩
  refine wq_aload_n (kk := 0) (q := 1) rfl rfl rfl ?_
  refine wq_callV (q := 4) (m' := m_Re_advance) (R' := rm 3) (As := []) rfl rfl l_Re_67 vm_Re_advance rfl rfl rfl (Or.inl ⟨rfl, Nat.le_of_ble_eq_true rfl⟩) (Nat.le_of_ble_eq_true rfl) (Nat.le_of_ble_eq_true rfl) (Nat.le_refl _) (Nat.le_refl _) (Nat.le_of_ble_eq_true rfl) (hS.adv hp) rfl ?_
  rintro rv h1 r ⟨rfl, rfl, f1, k1, t1⟩ -
  refine wq_aload_n (kk := 0) (q := 5) rfl rfl rfl ?_
  refine wq_aload_n (kk := 1) (q := 6) rfl rfl rfl ?_
  refine wq_callV (q := 9) (m' := m_Re_isWord) (R' := rm 6) (As := [_]) rfl rfl l_Re_71 vm_Re_isWord rfl rfl rfl (Or.inl ⟨rfl, Nat.le_of_ble_eq_true rfl⟩) (Nat.le_of_ble_eq_true rfl) (Nat.le_of_ble_eq_true rfl) (Nat.le_refl _) (Nat.le_refl _) (Nat.le_of_ble_eq_true rfl) (Re_isWord_ok j hj T n p h1 r t1 hS.2.2.1 hS.2.2.2.1 hS.2.2.2.2 k1) rfl ?_
  rintro rv h1 r ⟨rfl, rfl, rfl⟩ -
  refine wq_cif_ne (tgt := 20) (q := 12) rfl rfl rfl (fun c9 => ?_) (fun c9 => ?_)
  · skip
    refine wq_iconst (n := 1) (q := 21) rfl rfl rfl ?_
    refine wq_goto (tgt := 25) rfl rfl ?_
    refine wq_zret rfl rfl (Nat.le_refl _) (Nat.le_refl _) (by omega) ⟨by rw [bI_t c9], rfl, ?_⟩
    rw [bI_t c9]
    exact exp1.y f1 k1
  · skip
    refine wq_aload_n (kk := 0) (q := 13) rfl rfl rfl ?_
    refine wq_iconst (n := 1) (q := 14) rfl rfl rfl ?_
    refine wq_callV (q := 17) (m' := m_Re_fail) (R' := rm 1) (As := [_]) rfl rfl l_Re_57 vm_Re_fail rfl rfl rfl (Or.inl ⟨rfl, Nat.le_of_ble_eq_true rfl⟩) (Nat.le_of_ble_eq_true rfl) (Nat.le_of_ble_eq_true rfl) (Nat.le_refl _) (Nat.le_refl _) (Nat.le_of_ble_eq_true rfl) (Re_fail_ok 1 _ _) rfl ?_
    rintro rv h2 r ⟨rfl, rfl, rfl⟩ -
    refine wq_if_eq (tgt := 24) (q := 20) rfl rfl rfl (fun _ => ?_) (fun z => absurd rfl z)
    refine wq_iconst (n := 0) (q := 25) rfl rfl rfl ?_
    refine wq_zret rfl rfl (Nat.le_refl _) (Nat.le_refl _) (by omega) ⟨by rw [bI_f c9], rfl, ?_⟩
    rw [bI_f c9]
    exact exp1.n f1 k1 (by decide)
/-- what is wrong with a WHOLE: 0 nothing, 1 FORM, 4 BOUNDS -/
def xN (T : mF) (n p lo hi : Int) : Int := if tK T n p = 2 then (if lo ≤ c10 T n p ∧ c10 T n p ≤ hi then 0 else 4) else 1
set_option maxRecDepth 100000 in
set_option maxHeartbeats 1000000 in
theorem Re_expectWhole_ok (lo hi : Int) (T : mF) (n p : Int) (h : mH) (r : mR) (hS : rdS T n p h) (hp : h 24 12 = p) : Meets true (rm 4) m_Re_expectWhole [vR 24, vI lo, vI hi] h r (fun rv h1 r1 => rv = some (vI (bI (xN T n p lo hi = 0))) ∧ r1 = r ∧ exp1 T n p h h1 (xN T n p lo hi)) := by
  refine ⟨ok_Re_expectWhole, Nat.le_of_ble_eq_true rfl, ?_⟩
  refine wq_aload_n (kk := 0) (q := 1) rfl rfl rfl ?_
  refine wq_callV (q := 4) (m' := m_Re_advance) (R' := rm 3) (As := []) rfl rfl l_Re_67 vm_Re_advance rfl rfl rfl (Or.inl ⟨rfl, Nat.le_of_ble_eq_true rfl⟩) (Nat.le_of_ble_eq_true rfl) (Nat.le_of_ble_eq_true rfl) (Nat.le_refl _) (Nat.le_refl _) (Nat.le_of_ble_eq_true rfl) (hS.adv hp) rfl ?_
  rintro rv h1 r ⟨rfl, rfl, f1, k1, t1⟩ -
  have e10 := k1.1
  have e13 := k1.2.2.2.2
  refine wq_aload_n (kk := 0) (q := 5) rfl rfl rfl ?_
  refine wq_getI (kz := 10) (q := 8) rfl f_Re_54 rfl rfl (Or.inl ⟨rfl, Nat.le_of_ble_eq_true rfl⟩) rfl rfl ?_
  refine wq_iconst (n := 2) (q := 9) rfl rfl rfl ?_
  refine wq_icmp_eq (tgt := 18) (q := 12) rfl rfl rfl (fun c9 => ?_) (fun c9 => ?_)
  · skip
    refine wq_aload_n (kk := 0) (q := 19) rfl rfl rfl ?_
    refine wq_getI (kz := 13) (q := 22) rfl f_Re_119 rfl rfl (Or.inl ⟨rfl, Nat.le_of_ble_eq_true rfl⟩) rfl rfl ?_
    refine wq_iload_n (kk := 1) (q := 23) rfl rfl rfl ?_
    refine wq_icmp_lt (tgt := 34) (q := 26) rfl rfl rfl (fun c23 => ?_) (fun c23 => ?_)
    · skip
      refine wq_aload_n (kk := 0) (q := 35) rfl rfl rfl ?_
      refine wq_iconst (n := 4) (q := 36) rfl rfl rfl ?_
      refine wq_callV (q := 39) (m' := m_Re_fail) (R' := rm 1) (As := [_]) rfl rfl l_Re_57 vm_Re_fail rfl rfl rfl (Or.inl ⟨rfl, Nat.le_of_ble_eq_true rfl⟩) (Nat.le_of_ble_eq_true rfl) (Nat.le_of_ble_eq_true rfl) (Nat.le_refl _) (Nat.le_refl _) (Nat.le_of_ble_eq_true rfl) (Re_fail_ok 4 _ _) rfl ?_
      rintro rv h2 r ⟨rfl, rfl, rfl⟩ -
      have e2 := e13 (by omega)
      have ex : xN T n p lo hi = 4 := by unfold xN; rw [if_pos (by omega), if_neg (by omega)]
      rw [ex]
      refine wq_if_eq (tgt := 46) (q := 42) rfl rfl rfl (fun _ => ?_) (fun z => absurd rfl z)
      refine wq_iconst (n := 0) (q := 47) rfl rfl rfl ?_
      exact wq_zret rfl rfl (Nat.le_refl _) (Nat.le_refl _) (by omega) ⟨by rw [bI_f (by decide)], rfl, exp1.n f1 k1 (by decide)⟩
    · skip
      refine wq_aload_n (kk := 0) (q := 27) rfl rfl rfl ?_
      refine wq_getI (kz := 13) (q := 30) rfl f_Re_119 rfl rfl (Or.inl ⟨rfl, Nat.le_of_ble_eq_true rfl⟩) rfl rfl ?_
      refine wq_iload_n (kk := 2) (q := 31) rfl rfl rfl ?_
      refine wq_icmp_le (tgt := 42) (q := 34) rfl rfl rfl (fun c31 => ?_) (fun c31 => ?_)
      · skip
        refine wq_iconst (n := 1) (q := 43) rfl rfl rfl ?_
        refine wq_goto (tgt := 47) rfl rfl ?_
        have e2 := e13 (by omega)
        have ex : xN T n p lo hi = 0 := by unfold xN; rw [if_pos (by omega), if_pos (by omega)]
        rw [ex]
        exact wq_zret rfl rfl (Nat.le_refl _) (Nat.le_refl _) (by omega) ⟨by rw [bI_t rfl], rfl, exp1.y f1 k1⟩
      · skip
        refine wq_aload_n (kk := 0) (q := 35) rfl rfl rfl ?_
        refine wq_iconst (n := 4) (q := 36) rfl rfl rfl ?_
        refine wq_callV (q := 39) (m' := m_Re_fail) (R' := rm 1) (As := [_]) rfl rfl l_Re_57 vm_Re_fail rfl rfl rfl (Or.inl ⟨rfl, Nat.le_of_ble_eq_true rfl⟩) (Nat.le_of_ble_eq_true rfl) (Nat.le_of_ble_eq_true rfl) (Nat.le_refl _) (Nat.le_refl _) (Nat.le_of_ble_eq_true rfl) (Re_fail_ok 4 _ _) rfl ?_
        rintro rv h2 r ⟨rfl, rfl, rfl⟩ -
        have e2 := e13 (by omega)
        have ex : xN T n p lo hi = 4 := by unfold xN; rw [if_pos (by omega), if_neg (by omega)]
        rw [ex]
        refine wq_if_eq (tgt := 46) (q := 42) rfl rfl rfl (fun _ => ?_) (fun z => absurd rfl z)
        refine wq_iconst (n := 0) (q := 47) rfl rfl rfl ?_
        exact wq_zret rfl rfl (Nat.le_refl _) (Nat.le_refl _) (by omega) ⟨by rw [bI_f (by decide)], rfl, exp1.n f1 k1 (by decide)⟩
  · skip
    refine wq_aload_n (kk := 0) (q := 13) rfl rfl rfl ?_
    refine wq_iconst (n := 1) (q := 14) rfl rfl rfl ?_
    refine wq_callV (q := 17) (m' := m_Re_fail) (R' := rm 1) (As := [_]) rfl rfl l_Re_57 vm_Re_fail rfl rfl rfl (Or.inl ⟨rfl, Nat.le_of_ble_eq_true rfl⟩) (Nat.le_of_ble_eq_true rfl) (Nat.le_of_ble_eq_true rfl) (Nat.le_refl _) (Nat.le_refl _) (Nat.le_of_ble_eq_true rfl) (Re_fail_ok 1 _ _) rfl ?_
    rintro rv h2 r ⟨rfl, rfl, rfl⟩ -
    have ex : xN T n p lo hi = 1 := if_neg (by omega)
    rw [ex]
    exact wq_zret rfl rfl (Nat.le_refl _) (Nat.le_refl _) (by omega) ⟨by rw [bI_f (by decide)], rfl, exp1.n f1 k1 (by decide)⟩

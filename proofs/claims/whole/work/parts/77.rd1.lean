/-! LinkTimes$Reader: cell 24; tokens -/
set_option maxRecDepth 100000 in
theorem Re_isLetter_ok (x : Int) (h : mH) (r : mR) : Meets true (rm 1) m_Re_isLetter [vI x] h r (pI (bI (97 ≤ x ∧ x ≤ 122)) h r) := by
  refine ⟨ok_Re_isLetter, Nat.le_of_ble_eq_true rfl, ?_⟩
  refine wq_iload_n (kk := 0) (q := 1) rfl rfl rfl ?_
  refine wq_bipush (n := 97) (q := 3) rfl rfl rfl ?_
  refine wq_icmp_lt (tgt := 16) (q := 6) rfl rfl rfl (fun c3 => ?_) (fun c3 => ?_)
  · skip
    refine wq_iconst (n := 0) (q := 17) rfl rfl rfl ?_
    refine wq_zret rfl rfl (Nat.le_refl _) (Nat.le_refl _) (by omega) ?_
    first | exact ⟨rfl, rfl, rfl⟩ | exact pB_t (by omega) | exact pB_f (by omega) | exact pC_t (by omega) | exact pC_f (by omega) | (exfalso; omega)
  · skip
    refine wq_iload_n (kk := 0) (q := 7) rfl rfl rfl ?_
    refine wq_bipush (n := 122) (q := 9) rfl rfl rfl ?_
    refine wq_icmp_gt (tgt := 16) (q := 12) rfl rfl rfl (fun c9 => ?_) (fun c9 => ?_)
    · skip
      refine wq_iconst (n := 0) (q := 17) rfl rfl rfl ?_
      refine wq_zret rfl rfl (Nat.le_refl _) (Nat.le_refl _) (by omega) ?_
      first | exact ⟨rfl, rfl, rfl⟩ | exact pB_t (by omega) | exact pB_f (by omega) | exact pC_t (by omega) | exact pC_f (by omega) | (exfalso; omega)
    · skip
      refine wq_iconst (n := 1) (q := 13) rfl rfl rfl ?_
      refine wq_goto (tgt := 17) rfl rfl ?_
      refine wq_zret rfl rfl (Nat.le_refl _) (Nat.le_refl _) (by omega) ?_
      first | exact ⟨rfl, rfl, rfl⟩ | exact pB_t (by omega) | exact pB_f (by omega) | exact pC_t (by omega) | exact pC_f (by omega) | (exfalso; omega)
set_option maxRecDepth 100000 in
theorem Re_isDigit_ok (x : Int) (h : mH) (r : mR) : Meets true (rm 1) m_Re_isDigit [vI x] h r (pI (bI (48 ≤ x ∧ x ≤ 57)) h r) := by
  refine ⟨ok_Re_isDigit, Nat.le_of_ble_eq_true rfl, ?_⟩
  refine wq_iload_n (kk := 0) (q := 1) rfl rfl rfl ?_
  refine wq_bipush (n := 48) (q := 3) rfl rfl rfl ?_
  refine wq_icmp_lt (tgt := 16) (q := 6) rfl rfl rfl (fun c3 => ?_) (fun c3 => ?_)
  · skip
    refine wq_iconst (n := 0) (q := 17) rfl rfl rfl ?_
    refine wq_zret rfl rfl (Nat.le_refl _) (Nat.le_refl _) (by omega) ?_
    first | exact ⟨rfl, rfl, rfl⟩ | exact pB_t (by omega) | exact pB_f (by omega) | exact pC_t (by omega) | exact pC_f (by omega) | (exfalso; omega)
  · skip
    refine wq_iload_n (kk := 0) (q := 7) rfl rfl rfl ?_
    refine wq_bipush (n := 57) (q := 9) rfl rfl rfl ?_
    refine wq_icmp_gt (tgt := 16) (q := 12) rfl rfl rfl (fun c9 => ?_) (fun c9 => ?_)
    · skip
      refine wq_iconst (n := 0) (q := 17) rfl rfl rfl ?_
      refine wq_zret rfl rfl (Nat.le_refl _) (Nat.le_refl _) (by omega) ?_
      first | exact ⟨rfl, rfl, rfl⟩ | exact pB_t (by omega) | exact pB_f (by omega) | exact pC_t (by omega) | exact pC_f (by omega) | (exfalso; omega)
    · skip
      refine wq_iconst (n := 1) (q := 13) rfl rfl rfl ?_
      refine wq_goto (tgt := 17) rfl rfl ?_
      refine wq_zret rfl rfl (Nat.le_refl _) (Nat.le_refl _) (by omega) ?_
      first | exact ⟨rfl, rfl, rfl⟩ | exact pB_t (by omega) | exact pB_f (by omega) | exact pC_t (by omega) | exact pC_f (by omega) | (exfalso; omega)
/-- of cell 24 only these fields have changed -/
def f24 (S : List Int) (h h1 : mH) : Prop := fr [24] h h1 ∧ ∀ k, k ∉ S → h1 24 k = h 24 k
theorem f24.rf {S : List Int} {h : mH} : f24 S h h := ⟨fr.rf, fun _ _ => rfl⟩
theorem f24.up {S : List Int} {h h1 : mH} {k v : Int} (f : f24 S h h1) (hk : k ∈ S) : f24 S h (hup h1 24 k v) := ⟨f.1.up (by decide), fun j hj => by
  have hne : ¬ j = k := fun e => hj (e ▸ hk)
  rw [hup_j hne]
  exact f.2 j hj⟩
theorem f24.tr {S S' : List Int} {h h1 h2 : mH} (f : f24 S h h1) (f' : f24 S' h1 h2) (hS : ∀ k ∈ S', k ∈ S) : f24 S h h2 := ⟨f.1.trans f'.1 (fun _ z => z), fun k hk => (f'.2 k (fun z => hk (hS k z))).trans (f.2 k hk)⟩
theorem f24.mono {S S' : List Int} {h h1 : mH} (f : f24 S h h1) (hS : ∀ k ∈ S, k ∈ S') : f24 S' h h1 := ⟨f.1, fun k hk => f.2 k (fun z => hk (hS k z))⟩
set_option maxRecDepth 100000 in
set_option maxHeartbeats 1000000 in
theorem Re_takeWord_lp (h : mH) (r : mR) (T : mF) (n s : Int) (hT : h 1 = T) (hn : h 24 3 = n) (hb : n ≤ 900) (hs : h 24 11 = s) (s0 : 0 ≤ s) : ∀ (M : Nat) (i : Int) (h1 : mH), (n - i).toNat = M → s ≤ i → i ≤ n → f24 [10, 12, 13] h h1 → h1 24 12 = i → rE (bLt T) n i = rE (bLt T) n s → (∀ j, s ≤ j → j < i → 97 ≤ T j ∧ T j ≤ 122) → (i - s ≤ 6 → h1 24 13 = cB 27 96 T s (i - s).toNat) → WP (true, rm 2) m_Re_takeWord (rt m_Re_takeWord (rm 2) (fun rv h2 r2 => rv = none ∧ r2 = r ∧ f24 [10, 12, 13] h h2 ∧ h2 24 12 = rE (bLt T) n s ∧ h2 24 10 = (if rE (bLt T) n s - s ≤ 6 then 1 else 5) ∧ (rE (bLt T) n s - s ≤ 6 → h2 24 13 = cB 27 96 T s (rE (bLt T) n s - s).toNat))) 0 [some (vR 24)] [] h1 r (0, 0) := by
  intro M
  induction M using Nat.strongRecOn with
  | ind M ih =>
    intro i h1 hM i0 i1 hf hi hr hl hv
    have x3 : h1 24 3 = n := by rw [hf.2 3 (by decide)]; exact hn
    have x11 : h1 24 11 = s := by rw [hf.2 11 (by decide)]; exact hs
    have x1 : ∀ j, h1 1 j = T j := fun j => by rw [hf.1.at 1 j (by decide), hT]
    refine wq_aload_n (kk := 0) (q := 1) rfl rfl rfl ?_
    refine wq_getI (kz := 12) (q := 4) rfl f_Re_47 rfl rfl (Or.inl ⟨rfl, Nat.le_of_ble_eq_true rfl⟩) rfl rfl ?_
    refine wq_aload_n (kk := 0) (q := 5) rfl rfl rfl ?_
    refine wq_getI (kz := 3) (q := 8) rfl f_Re_32 rfl rfl (Or.inl ⟨rfl, Nat.le_of_ble_eq_true rfl⟩) rfl rfl ?_
    refine wq_icmp_ge (tgt := 65) (q := 11) rfl rfl rfl (fun c8 => ?_) (fun c8 => ?_)
    · skip
      have en : rE (bLt T) n i = i := rE_n (by first | (left; omega) | (right; simp only [x1, hi] at *; simp [bLt]; omega))
      rw [en] at hr
      refine wq_aload_n (kk := 0) (q := 66) rfl rfl rfl ?_
      refine wq_aload_n (kk := 0) (q := 67) rfl rfl rfl ?_
      refine wq_getI (kz := 12) (q := 70) rfl f_Re_47 rfl rfl (Or.inl ⟨rfl, Nat.le_of_ble_eq_true rfl⟩) rfl rfl ?_
      refine wq_aload_n (kk := 0) (q := 71) rfl rfl rfl ?_
      refine wq_getI (kz := 11) (q := 74) rfl f_Re_64 rfl rfl (Or.inl ⟨rfl, Nat.le_of_ble_eq_true rfl⟩) rfl rfl ?_
      refine wq_isub (q := 75) rfl rfl (by first | omega | (simp [hup] at *; omega)) (by first | omega | (simp [hup] at *; omega)) ?_
      refine wq_bipush (n := 6) (q := 77) rfl rfl rfl ?_
      refine wq_icmp_gt (tgt := 84) (q := 80) rfl rfl rfl (fun c77 => ?_) (fun c77 => ?_)
      · skip
        refine wq_iconst (n := 5) (q := 85) rfl rfl rfl ?_
        refine wq_putI (kz := 10) (q := 88) rfl f_Re_54 rfl rfl rfl (Or.inl ⟨rfl, Nat.le_of_ble_eq_true rfl⟩) rfl rfl ?_
        refine wq_vret rfl rfl (Nat.le_refl _) (Nat.le_refl _) ⟨rfl, rfl, hf.up (by decide), ?_, ?_, fun hz => ?_⟩
        · rw [hup_j (by decide), hi]; exact hr
        · rw [hup_s, ← hr]
          first | rw [if_pos (by omega)] | rw [if_neg (by omega)]
        · rw [hup_j (by decide), ← hr]
          exact hv (by omega)
      · skip
        refine wq_iconst (n := 1) (q := 81) rfl rfl rfl ?_
        refine wq_goto (tgt := 85) rfl rfl ?_
        refine wq_putI (kz := 10) (q := 88) rfl f_Re_54 rfl rfl rfl (Or.inl ⟨rfl, Nat.le_of_ble_eq_true rfl⟩) rfl rfl ?_
        refine wq_vret rfl rfl (Nat.le_refl _) (Nat.le_refl _) ⟨rfl, rfl, hf.up (by decide), ?_, ?_, fun hz => ?_⟩
        · rw [hup_j (by decide), hi]; exact hr
        · rw [hup_s, ← hr]
          first | rw [if_pos (by omega)] | rw [if_neg (by omega)]
        · rw [hup_j (by decide), ← hr]
          exact hv (by omega)
    · skip
      refine wq_aload_n (kk := 0) (q := 12) rfl rfl rfl ?_
      refine wq_getF (q := 15) f_Re_18 rfl rfl (Nat.le_of_ble_eq_true rfl) rfl rfl rfl ?_
      refine wq_aload_n (kk := 0) (q := 16) rfl rfl rfl ?_
      refine wq_getI (kz := 12) (q := 19) rfl f_Re_47 rfl rfl (Or.inl ⟨rfl, Nat.le_of_ble_eq_true rfl⟩) rfl rfl ?_
      refine wq_bald (q := 20) rfl (Or.inl ⟨rfl, Nat.le_of_ble_eq_true rfl⟩) rfl rfl (by first | omega | (simp [hup] at *; omega)) (by first | omega | (simp [hup] at *; omega)) ?_
      refine wq_callS (q := 23) (m' := m_Re_isLetter) (R' := rm 1) (As := [_]) rfl rfl l_Re_179 sm_Re_isLetter rfl (Nat.le_of_ble_eq_true rfl) (Nat.le_of_ble_eq_true rfl) (Nat.le_refl _) (Nat.le_refl _) (Nat.le_of_ble_eq_true rfl) (Re_isLetter_ok _ _ _) rfl ?_
      rintro rv h1 r ⟨rfl, rfl, rfl⟩ -
      refine wq_cif_eq (tgt := 65) (q := 26) rfl rfl rfl (fun c23 => ?_) (fun c23 => ?_)
      · skip
        have en : rE (bLt T) n i = i := rE_n (by first | (left; omega) | (right; simp only [x1, hi] at *; simp [bLt]; omega))
        rw [en] at hr
        refine wq_aload_n (kk := 0) (q := 66) rfl rfl rfl ?_
        refine wq_aload_n (kk := 0) (q := 67) rfl rfl rfl ?_
        refine wq_getI (kz := 12) (q := 70) rfl f_Re_47 rfl rfl (Or.inl ⟨rfl, Nat.le_of_ble_eq_true rfl⟩) rfl rfl ?_
        refine wq_aload_n (kk := 0) (q := 71) rfl rfl rfl ?_
        refine wq_getI (kz := 11) (q := 74) rfl f_Re_64 rfl rfl (Or.inl ⟨rfl, Nat.le_of_ble_eq_true rfl⟩) rfl rfl ?_
        refine wq_isub (q := 75) rfl rfl (by first | omega | (simp [hup] at *; omega)) (by first | omega | (simp [hup] at *; omega)) ?_
        refine wq_bipush (n := 6) (q := 77) rfl rfl rfl ?_
        refine wq_icmp_gt (tgt := 84) (q := 80) rfl rfl rfl (fun c77 => ?_) (fun c77 => ?_)
        · skip
          refine wq_iconst (n := 5) (q := 85) rfl rfl rfl ?_
          refine wq_putI (kz := 10) (q := 88) rfl f_Re_54 rfl rfl rfl (Or.inl ⟨rfl, Nat.le_of_ble_eq_true rfl⟩) rfl rfl ?_
          refine wq_vret rfl rfl (Nat.le_refl _) (Nat.le_refl _) ⟨rfl, rfl, hf.up (by decide), ?_, ?_, fun hz => ?_⟩
          · rw [hup_j (by decide), hi]; exact hr
          · rw [hup_s, ← hr]
            first | rw [if_pos (by omega)] | rw [if_neg (by omega)]
          · rw [hup_j (by decide), ← hr]
            exact hv (by omega)
        · skip
          refine wq_iconst (n := 1) (q := 81) rfl rfl rfl ?_
          refine wq_goto (tgt := 85) rfl rfl ?_
          refine wq_putI (kz := 10) (q := 88) rfl f_Re_54 rfl rfl rfl (Or.inl ⟨rfl, Nat.le_of_ble_eq_true rfl⟩) rfl rfl ?_
          refine wq_vret rfl rfl (Nat.le_refl _) (Nat.le_refl _) ⟨rfl, rfl, hf.up (by decide), ?_, ?_, fun hz => ?_⟩
          · rw [hup_j (by decide), hi]; exact hr
          · rw [hup_s, ← hr]
            first | rw [if_pos (by omega)] | rw [if_neg (by omega)]
          · rw [hup_j (by decide), ← hr]
            exact hv (by omega)
      · skip
        refine wq_aload_n (kk := 0) (q := 27) rfl rfl rfl ?_
        refine wq_aload_n (kk := 0) (q := 28) rfl rfl rfl ?_
        refine wq_getI (kz := 13) (q := 31) rfl f_Re_119 rfl rfl (Or.inl ⟨rfl, Nat.le_of_ble_eq_true rfl⟩) rfl rfl ?_
        refine wq_bipush (n := 27) (q := 33) rfl rfl rfl ?_
        refine wq_imulw (q := 34) rfl rfl ?_
        refine wq_aload_n (kk := 0) (q := 35) rfl rfl rfl ?_
        refine wq_getF (q := 38) f_Re_18 rfl rfl (Nat.le_of_ble_eq_true rfl) rfl rfl rfl ?_
        refine wq_aload_n (kk := 0) (q := 39) rfl rfl rfl ?_
        refine wq_getI (kz := 12) (q := 42) rfl f_Re_47 rfl rfl (Or.inl ⟨rfl, Nat.le_of_ble_eq_true rfl⟩) rfl rfl ?_
        refine wq_bald (q := 43) rfl (Or.inl ⟨rfl, Nat.le_of_ble_eq_true rfl⟩) rfl rfl (by first | omega | (simp [hup] at *; omega)) (by first | omega | (simp [hup] at *; omega)) ?_
        refine wq_iaddw (q := 44) rfl rfl ?_
        refine wq_bipush (n := 97) (q := 46) rfl rfl rfl ?_
        refine wq_isubw (q := 47) rfl rfl ?_
        refine wq_iconst (n := 1) (q := 48) rfl rfl rfl ?_
        refine wq_iaddw (q := 49) rfl rfl ?_
        refine wq_putI (kz := 13) (q := 52) rfl f_Re_119 rfl rfl rfl (Or.inl ⟨rfl, Nat.le_of_ble_eq_true rfl⟩) rfl rfl ?_
        refine wq_aload_n (kk := 0) (q := 53) rfl rfl rfl ?_
        refine wq_dup (q := 54) rfl rfl rfl ?_
        refine wq_getI (kz := 12) (q := 57) rfl f_Re_47 rfl rfl (Or.inl ⟨rfl, Nat.le_of_ble_eq_true rfl⟩) rfl rfl ?_
        refine wq_iconst (n := 1) (q := 58) rfl rfl rfl ?_
        refine wq_iadd (q := 59) rfl rfl (by first | omega | (simp [hup] at *; omega)) (by first | omega | (simp [hup] at *; omega)) ?_
        refine wq_putI (kz := 12) (q := 62) rfl f_Re_47 rfl rfl rfl (Or.inl ⟨rfl, Nat.le_of_ble_eq_true rfl⟩) rfl rfl ?_
        refine wq_goto (tgt := 0) rfl rfl ?_
        simp only [hup_s, hup_j (show ¬ (12 : Int) = 13 by decide), x1, hi] at *
        have ey := rE_y (f := bLt T) (n := n) (i := i) (by omega) (by simp [bLt]; omega)
        refine ih _ (by omega) (i + 1) _ rfl (by omega) (by omega) ((hf.up (by decide)).up (by decide)) hup_s (by rw [ey]; exact hr) (fun j j0 j1 => ?_) (fun hz => ?_)
        · by_cases ej : j = i
          · subst ej; omega
          · exact hl j j0 (by omega)
        · rw [hup_j (by decide), hup_s, cB_s i0]
          have hv' := hv (by omega)
          have hc := cB_lt (B := 27) (o := 96) (by omega) (T := T) (s := s) (L := (i - s).toNat) (fun j j0 j1 => by have := hl j j0 (by omega); omega)
          have hp := (pow_lo (L := (i - s).toNat) (by omega)).1
          rw [hv']
          rw [wr_id (x := cB 27 96 T s (i - s).toNat * 27) (by unfold okI; omega), wr_id (x := cB 27 96 T s (i - s).toNat * 27 + T i) (by unfold okI; omega), wr_id (x := cB 27 96 T s (i - s).toNat * 27 + T i - 97) (by unfold okI; omega), wr_id (by unfold okI; omega)]
          omega
set_option maxRecDepth 100000 in
set_option maxHeartbeats 1000000 in
theorem Re_takeWhole_lp (h : mH) (r : mR) (T : mF) (n s : Int) (hT : h 1 = T) (hn : h 24 3 = n) (hb : n ≤ 900) (hs : h 24 11 = s) (s0 : 0 ≤ s) : ∀ (M : Nat) (i : Int) (h1 : mH), (n - i).toNat = M → s ≤ i → i ≤ n → f24 [10, 12, 13] h h1 → h1 24 12 = i → rE (bDg T) n i = rE (bDg T) n s → (∀ j, s ≤ j → j < i → 48 ≤ T j ∧ T j ≤ 57) → (i - s ≤ 4 → h1 24 13 = cB 10 48 T s (i - s).toNat) → WP (true, rm 2) m_Re_takeWhole (rt m_Re_takeWhole (rm 2) (fun rv h2 r2 => rv = none ∧ r2 = r ∧ f24 [10, 12, 13] h h2 ∧ h2 24 12 = rE (bDg T) n s ∧ h2 24 10 = (if rE (bDg T) n s - s ≤ 4 then 2 else 5) ∧ (rE (bDg T) n s - s ≤ 4 → h2 24 13 = cB 10 48 T s (rE (bDg T) n s - s).toNat))) 0 [some (vR 24)] [] h1 r (0, 0) := by
  intro M
  induction M using Nat.strongRecOn with
  | ind M ih =>
    intro i h1 hM i0 i1 hf hi hr hl hv
    have x3 : h1 24 3 = n := by rw [hf.2 3 (by decide)]; exact hn
    have x11 : h1 24 11 = s := by rw [hf.2 11 (by decide)]; exact hs
    have x1 : ∀ j, h1 1 j = T j := fun j => by rw [hf.1.at 1 j (by decide), hT]
    refine wq_aload_n (kk := 0) (q := 1) rfl rfl rfl ?_
    refine wq_getI (kz := 12) (q := 4) rfl f_Re_47 rfl rfl (Or.inl ⟨rfl, Nat.le_of_ble_eq_true rfl⟩) rfl rfl ?_
    refine wq_aload_n (kk := 0) (q := 5) rfl rfl rfl ?_
    refine wq_getI (kz := 3) (q := 8) rfl f_Re_32 rfl rfl (Or.inl ⟨rfl, Nat.le_of_ble_eq_true rfl⟩) rfl rfl ?_
    refine wq_icmp_ge (tgt := 63) (q := 11) rfl rfl rfl (fun c8 => ?_) (fun c8 => ?_)
    · skip
      have en : rE (bDg T) n i = i := rE_n (by first | (left; omega) | (right; simp only [x1, hi] at *; simp [bDg]; omega))
      rw [en] at hr
      refine wq_aload_n (kk := 0) (q := 64) rfl rfl rfl ?_
      refine wq_aload_n (kk := 0) (q := 65) rfl rfl rfl ?_
      refine wq_getI (kz := 12) (q := 68) rfl f_Re_47 rfl rfl (Or.inl ⟨rfl, Nat.le_of_ble_eq_true rfl⟩) rfl rfl ?_
      refine wq_aload_n (kk := 0) (q := 69) rfl rfl rfl ?_
      refine wq_getI (kz := 11) (q := 72) rfl f_Re_64 rfl rfl (Or.inl ⟨rfl, Nat.le_of_ble_eq_true rfl⟩) rfl rfl ?_
      refine wq_isub (q := 73) rfl rfl (by first | omega | (simp [hup] at *; omega)) (by first | omega | (simp [hup] at *; omega)) ?_
      refine wq_iconst (n := 4) (q := 74) rfl rfl rfl ?_
      refine wq_icmp_gt (tgt := 81) (q := 77) rfl rfl rfl (fun c74 => ?_) (fun c74 => ?_)
      · skip
        refine wq_iconst (n := 5) (q := 82) rfl rfl rfl ?_
        refine wq_putI (kz := 10) (q := 85) rfl f_Re_54 rfl rfl rfl (Or.inl ⟨rfl, Nat.le_of_ble_eq_true rfl⟩) rfl rfl ?_
        refine wq_vret rfl rfl (Nat.le_refl _) (Nat.le_refl _) ⟨rfl, rfl, hf.up (by decide), ?_, ?_, fun hz => ?_⟩
        · rw [hup_j (by decide), hi]; exact hr
        · rw [hup_s, ← hr]
          first | rw [if_pos (by omega)] | rw [if_neg (by omega)]
        · rw [hup_j (by decide), ← hr]
          exact hv (by omega)
      · skip
        refine wq_iconst (n := 2) (q := 78) rfl rfl rfl ?_
        refine wq_goto (tgt := 82) rfl rfl ?_
        refine wq_putI (kz := 10) (q := 85) rfl f_Re_54 rfl rfl rfl (Or.inl ⟨rfl, Nat.le_of_ble_eq_true rfl⟩) rfl rfl ?_
        refine wq_vret rfl rfl (Nat.le_refl _) (Nat.le_refl _) ⟨rfl, rfl, hf.up (by decide), ?_, ?_, fun hz => ?_⟩
        · rw [hup_j (by decide), hi]; exact hr
        · rw [hup_s, ← hr]
          first | rw [if_pos (by omega)] | rw [if_neg (by omega)]
        · rw [hup_j (by decide), ← hr]
          exact hv (by omega)
    · skip
      refine wq_aload_n (kk := 0) (q := 12) rfl rfl rfl ?_
      refine wq_getF (q := 15) f_Re_18 rfl rfl (Nat.le_of_ble_eq_true rfl) rfl rfl rfl ?_
      refine wq_aload_n (kk := 0) (q := 16) rfl rfl rfl ?_
      refine wq_getI (kz := 12) (q := 19) rfl f_Re_47 rfl rfl (Or.inl ⟨rfl, Nat.le_of_ble_eq_true rfl⟩) rfl rfl ?_
      refine wq_bald (q := 20) rfl (Or.inl ⟨rfl, Nat.le_of_ble_eq_true rfl⟩) rfl rfl (by first | omega | (simp [hup] at *; omega)) (by first | omega | (simp [hup] at *; omega)) ?_
      refine wq_callS (q := 23) (m' := m_Re_isDigit) (R' := rm 1) (As := [_]) rfl rfl l_Re_185 sm_Re_isDigit rfl (Nat.le_of_ble_eq_true rfl) (Nat.le_of_ble_eq_true rfl) (Nat.le_refl _) (Nat.le_refl _) (Nat.le_of_ble_eq_true rfl) (Re_isDigit_ok _ _ _) rfl ?_
      rintro rv h1 r ⟨rfl, rfl, rfl⟩ -
      refine wq_cif_eq (tgt := 63) (q := 26) rfl rfl rfl (fun c23 => ?_) (fun c23 => ?_)
      · skip
        have en : rE (bDg T) n i = i := rE_n (by first | (left; omega) | (right; simp only [x1, hi] at *; simp [bDg]; omega))
        rw [en] at hr
        refine wq_aload_n (kk := 0) (q := 64) rfl rfl rfl ?_
        refine wq_aload_n (kk := 0) (q := 65) rfl rfl rfl ?_
        refine wq_getI (kz := 12) (q := 68) rfl f_Re_47 rfl rfl (Or.inl ⟨rfl, Nat.le_of_ble_eq_true rfl⟩) rfl rfl ?_
        refine wq_aload_n (kk := 0) (q := 69) rfl rfl rfl ?_
        refine wq_getI (kz := 11) (q := 72) rfl f_Re_64 rfl rfl (Or.inl ⟨rfl, Nat.le_of_ble_eq_true rfl⟩) rfl rfl ?_
        refine wq_isub (q := 73) rfl rfl (by first | omega | (simp [hup] at *; omega)) (by first | omega | (simp [hup] at *; omega)) ?_
        refine wq_iconst (n := 4) (q := 74) rfl rfl rfl ?_
        refine wq_icmp_gt (tgt := 81) (q := 77) rfl rfl rfl (fun c74 => ?_) (fun c74 => ?_)
        · skip
          refine wq_iconst (n := 5) (q := 82) rfl rfl rfl ?_
          refine wq_putI (kz := 10) (q := 85) rfl f_Re_54 rfl rfl rfl (Or.inl ⟨rfl, Nat.le_of_ble_eq_true rfl⟩) rfl rfl ?_
          refine wq_vret rfl rfl (Nat.le_refl _) (Nat.le_refl _) ⟨rfl, rfl, hf.up (by decide), ?_, ?_, fun hz => ?_⟩
          · rw [hup_j (by decide), hi]; exact hr
          · rw [hup_s, ← hr]
            first | rw [if_pos (by omega)] | rw [if_neg (by omega)]
          · rw [hup_j (by decide), ← hr]
            exact hv (by omega)
        · skip
          refine wq_iconst (n := 2) (q := 78) rfl rfl rfl ?_
          refine wq_goto (tgt := 82) rfl rfl ?_
          refine wq_putI (kz := 10) (q := 85) rfl f_Re_54 rfl rfl rfl (Or.inl ⟨rfl, Nat.le_of_ble_eq_true rfl⟩) rfl rfl ?_
          refine wq_vret rfl rfl (Nat.le_refl _) (Nat.le_refl _) ⟨rfl, rfl, hf.up (by decide), ?_, ?_, fun hz => ?_⟩
          · rw [hup_j (by decide), hi]; exact hr
          · rw [hup_s, ← hr]
            first | rw [if_pos (by omega)] | rw [if_neg (by omega)]
          · rw [hup_j (by decide), ← hr]
            exact hv (by omega)
      · skip
        refine wq_aload_n (kk := 0) (q := 27) rfl rfl rfl ?_
        refine wq_aload_n (kk := 0) (q := 28) rfl rfl rfl ?_
        refine wq_getI (kz := 13) (q := 31) rfl f_Re_119 rfl rfl (Or.inl ⟨rfl, Nat.le_of_ble_eq_true rfl⟩) rfl rfl ?_
        refine wq_bipush (n := 10) (q := 33) rfl rfl rfl ?_
        refine wq_imulw (q := 34) rfl rfl ?_
        refine wq_aload_n (kk := 0) (q := 35) rfl rfl rfl ?_
        refine wq_getF (q := 38) f_Re_18 rfl rfl (Nat.le_of_ble_eq_true rfl) rfl rfl rfl ?_
        refine wq_aload_n (kk := 0) (q := 39) rfl rfl rfl ?_
        refine wq_getI (kz := 12) (q := 42) rfl f_Re_47 rfl rfl (Or.inl ⟨rfl, Nat.le_of_ble_eq_true rfl⟩) rfl rfl ?_
        refine wq_bald (q := 43) rfl (Or.inl ⟨rfl, Nat.le_of_ble_eq_true rfl⟩) rfl rfl (by first | omega | (simp [hup] at *; omega)) (by first | omega | (simp [hup] at *; omega)) ?_
        refine wq_iaddw (q := 44) rfl rfl ?_
        refine wq_bipush (n := 48) (q := 46) rfl rfl rfl ?_
        refine wq_isubw (q := 47) rfl rfl ?_
        refine wq_putI (kz := 13) (q := 50) rfl f_Re_119 rfl rfl rfl (Or.inl ⟨rfl, Nat.le_of_ble_eq_true rfl⟩) rfl rfl ?_
        refine wq_aload_n (kk := 0) (q := 51) rfl rfl rfl ?_
        refine wq_dup (q := 52) rfl rfl rfl ?_
        refine wq_getI (kz := 12) (q := 55) rfl f_Re_47 rfl rfl (Or.inl ⟨rfl, Nat.le_of_ble_eq_true rfl⟩) rfl rfl ?_
        refine wq_iconst (n := 1) (q := 56) rfl rfl rfl ?_
        refine wq_iadd (q := 57) rfl rfl (by first | omega | (simp [hup] at *; omega)) (by first | omega | (simp [hup] at *; omega)) ?_
        refine wq_putI (kz := 12) (q := 60) rfl f_Re_47 rfl rfl rfl (Or.inl ⟨rfl, Nat.le_of_ble_eq_true rfl⟩) rfl rfl ?_
        refine wq_goto (tgt := 0) rfl rfl ?_
        simp only [hup_s, hup_j (show ¬ (12 : Int) = 13 by decide), x1, hi] at *
        have ey := rE_y (f := bDg T) (n := n) (i := i) (by omega) (by simp [bDg]; omega)
        refine ih _ (by omega) (i + 1) _ rfl (by omega) (by omega) ((hf.up (by decide)).up (by decide)) hup_s (by rw [ey]; exact hr) (fun j j0 j1 => ?_) (fun hz => ?_)
        · by_cases ej : j = i
          · subst ej; omega
          · exact hl j j0 (by omega)
        · rw [hup_j (by decide), hup_s, cB_s i0]
          have hv' := hv (by omega)
          have hc := cB_lt (B := 10) (o := 48) (by omega) (T := T) (s := s) (L := (i - s).toNat) (fun j j0 j1 => by have := hl j j0 (by omega); omega)
          have hp := (pow_lo (L := (i - s).toNat) (by omega)).2.2
          rw [hv']
          rw [wr_id (x := cB 10 48 T s (i - s).toNat * 10) (by unfold okI; omega), wr_id (x := cB 10 48 T s (i - s).toNat * 10 + T i) (by unfold okI; omega), wr_id (by unfold okI; omega)]
          omega
theorem Re_takeWord_ok (h : mH) (r : mR) (T : mF) (n s : Int) (hT : h 1 = T) (hn : h 24 3 = n) (hb : n ≤ 900) (hs : h 24 11 = s) (s0 : 0 ≤ s) (s1 : s ≤ n) (hi : h 24 12 = s) (hv : h 24 13 = 0) : Meets true (rm 2) m_Re_takeWord [vR 24] h r (fun rv h2 r2 => rv = none ∧ r2 = r ∧ f24 [10, 12, 13] h h2 ∧ h2 24 12 = rE (bLt T) n s ∧ h2 24 10 = (if rE (bLt T) n s - s ≤ 6 then 1 else 5) ∧ (rE (bLt T) n s - s ≤ 6 → h2 24 13 = cB 27 96 T s (rE (bLt T) n s - s).toNat)) := by
  refine ⟨ok_Re_takeWord, Nat.le_of_ble_eq_true rfl, ?_⟩
  exact Re_takeWord_lp h r T n s hT hn hb hs s0 _ s h rfl (by omega) s1 f24.rf hi rfl (fun j j0 j1 => by omega) (fun _ => by rw [hv, show (s - s).toNat = 0 by omega]; rfl)
theorem Re_takeWhole_ok (h : mH) (r : mR) (T : mF) (n s : Int) (hT : h 1 = T) (hn : h 24 3 = n) (hb : n ≤ 900) (hs : h 24 11 = s) (s0 : 0 ≤ s) (s1 : s ≤ n) (hi : h 24 12 = s) (hv : h 24 13 = 0) : Meets true (rm 2) m_Re_takeWhole [vR 24] h r (fun rv h2 r2 => rv = none ∧ r2 = r ∧ f24 [10, 12, 13] h h2 ∧ h2 24 12 = rE (bDg T) n s ∧ h2 24 10 = (if rE (bDg T) n s - s ≤ 4 then 2 else 5) ∧ (rE (bDg T) n s - s ≤ 4 → h2 24 13 = cB 10 48 T s (rE (bDg T) n s - s).toNat)) := by
  refine ⟨ok_Re_takeWhole, Nat.le_of_ble_eq_true rfl, ?_⟩
  exact Re_takeWhole_lp h r T n s hT hn hb hs s0 _ s h rfl (by omega) s1 f24.rf hi rfl (fun j j0 j1 => by omega) (fun _ => by rw [hv, show (s - s).toNat = 0 by omega]; rfl)
/-- the token at p is told in cell 24 -/
def tkd (T : mF) (n p : Int) (h : mH) : Prop := h 24 10 = tK T n p ∧ h 24 11 = tS T n p ∧ h 24 12 = tE T n p ∧ (tK T n p = 1 → h 24 13 = c27 T n p) ∧ (tK T n p = 2 → h 24 13 = c10 T n p)
abbrev avQ (h : mH) (r : mR) (p : Int) : mP := fun rv h1 r1 => rv = none ∧ r1 = r ∧ f24 [10, 11, 12, 13] h h1 ∧ tkd (h 1) (h 24 3) p h1
theorem tk_at {T : mF} {n p s : Int} (e : tS T n p = s) : (n ≤ s → tK T n p = 4 ∧ tE T n p = s) ∧ (s < n → T s = 59 → tK T n p = 3 ∧ tE T n p = s + 1) ∧ (s < n → T s ≠ 59 → 97 ≤ T s ∧ T s ≤ 122 → tK T n p = (if rE (bLt T) n s - s ≤ 6 then 1 else 5) ∧ tE T n p = rE (bLt T) n s) ∧ (s < n → T s ≠ 59 → ¬ (97 ≤ T s ∧ T s ≤ 122) → 48 ≤ T s ∧ T s ≤ 57 → tK T n p = (if rE (bDg T) n s - s ≤ 4 then 2 else 5) ∧ tE T n p = rE (bDg T) n s) ∧ (s < n → T s ≠ 59 → ¬ (97 ≤ T s ∧ T s ≤ 122) → ¬ (48 ≤ T s ∧ T s ≤ 57) → tK T n p = 5 ∧ tE T n p = s) := by
  unfold tK tE kAt eAt
  rw [e]
  refine ⟨fun a => ?_, fun a b => ?_, fun a b c => ?_, fun a b c d => ?_, fun a b c d => ?_⟩
  · rw [if_pos a, if_pos a]; exact ⟨rfl, rfl⟩
  · rw [if_neg (show ¬ n ≤ s by omega), if_neg (show ¬ n ≤ s by omega), if_pos b, if_pos b]; exact ⟨rfl, rfl⟩
  · have z : bLt T s = true := by simp [bLt]; exact c
    rw [if_neg (show ¬ n ≤ s by omega), if_neg (show ¬ n ≤ s by omega), if_neg b, if_neg b, if_pos z, if_pos z]; exact ⟨rfl, rfl⟩
  · have z : ¬ bLt T s = true := by simp only [bLt, decide_eq_true_eq]; exact c
    have y : bDg T s = true := by simp [bDg]; exact d
    rw [if_neg (show ¬ n ≤ s by omega), if_neg (show ¬ n ≤ s by omega), if_neg b, if_neg b, if_neg z, if_neg z, if_pos y, if_pos y]; exact ⟨rfl, rfl⟩
  · have z : ¬ bLt T s = true := by simp only [bLt, decide_eq_true_eq]; exact c
    have y : ¬ bDg T s = true := by simp only [bDg, decide_eq_true_eq]; exact d
    rw [if_neg (show ¬ n ≤ s by omega), if_neg (show ¬ n ≤ s by omega), if_neg b, if_neg b, if_neg z, if_neg z, if_neg y, if_neg y]; exact ⟨rfl, rfl⟩
set_option maxRecDepth 100000 in
set_option maxHeartbeats 1000000 in
theorem Re_advanceB (h : mH) (r : mR) (T : mF) (n p s : Int) (hT : h 1 = T) (hn : h 24 3 = n) (hb : n ≤ 900) (p0 : 0 ≤ s) (sn : s ≤ n) (eS : tS T n p = s) (h1 : mH) (hf : f24 [10, 11, 12, 13] h h1) (h11 : h1 24 11 = s) (h12 : h1 24 12 = s) (h13 : h1 24 13 = 0) : WP (true, rm 3) m_Re_advance (rt m_Re_advance (rm 3) (fun rv h2 r2 => rv = none ∧ r2 = r ∧ f24 [10, 11, 12, 13] h h2 ∧ tkd T n p h2)) 51 [some (vR 24)] [] h1 r (0, 0) := by
  have x3 : h1 24 3 = n := by rw [hf.2 3 (by decide)]; exact hn
  have x1 : ∀ j, h1 1 j = T j := fun j => by rw [hf.1.at 1 j (by decide), hT]
  have x1f : h1 1 = T := funext x1
  have xs := x1 (h1 24 12)
  obtain ⟨t4, t3, tw, td, t5⟩ := tk_at eS
  rw [h12] at xs
  refine wq_aload_n (kk := 0) (q := 52) rfl rfl rfl ?_
  refine wq_getI (kz := 12) (q := 55) rfl f_Re_47 rfl rfl (Or.inl ⟨rfl, Nat.le_of_ble_eq_true rfl⟩) rfl rfl ?_
  refine wq_aload_n (kk := 0) (q := 56) rfl rfl rfl ?_
  refine wq_getI (kz := 3) (q := 59) rfl f_Re_32 rfl rfl (Or.inl ⟨rfl, Nat.le_of_ble_eq_true rfl⟩) rfl rfl ?_
  refine wq_icmp_lt (tgt := 70) (q := 62) rfl rfl rfl (fun c59 => ?_) (fun c59 => ?_)
  · skip
    refine wq_aload_n (kk := 0) (q := 71) rfl rfl rfl ?_
    refine wq_getF (q := 74) f_Re_18 rfl rfl (Nat.le_of_ble_eq_true rfl) rfl rfl rfl ?_
    refine wq_aload_n (kk := 0) (q := 75) rfl rfl rfl ?_
    refine wq_getI (kz := 12) (q := 78) rfl f_Re_47 rfl rfl (Or.inl ⟨rfl, Nat.le_of_ble_eq_true rfl⟩) rfl rfl ?_
    refine wq_bald (q := 79) rfl (Or.inl ⟨rfl, Nat.le_of_ble_eq_true rfl⟩) rfl rfl (by first | omega | (simp [hup] at *; omega)) (by first | omega | (simp [hup] at *; omega)) ?_
    refine wq_bipush (n := 59) (q := 81) rfl rfl rfl ?_
    refine wq_icmp_ne (tgt := 102) (q := 84) rfl rfl rfl (fun c81 => ?_) (fun c81 => ?_)
    · skip
      refine wq_aload_n (kk := 0) (q := 103) rfl rfl rfl ?_
      refine wq_getF (q := 106) f_Re_18 rfl rfl (Nat.le_of_ble_eq_true rfl) rfl rfl rfl ?_
      refine wq_aload_n (kk := 0) (q := 107) rfl rfl rfl ?_
      refine wq_getI (kz := 12) (q := 110) rfl f_Re_47 rfl rfl (Or.inl ⟨rfl, Nat.le_of_ble_eq_true rfl⟩) rfl rfl ?_
      refine wq_bald (q := 111) rfl (Or.inl ⟨rfl, Nat.le_of_ble_eq_true rfl⟩) rfl rfl (by first | omega | (simp [hup] at *; omega)) (by first | omega | (simp [hup] at *; omega)) ?_
      refine wq_callS (q := 114) (m' := m_Re_isLetter) (R' := rm 1) (As := [_]) rfl rfl l_Re_179 sm_Re_isLetter rfl (Nat.le_of_ble_eq_true rfl) (Nat.le_of_ble_eq_true rfl) (Nat.le_refl _) (Nat.le_refl _) (Nat.le_of_ble_eq_true rfl) (Re_isLetter_ok _ _ _) rfl ?_
      rintro rv h1 r ⟨rfl, rfl, rfl⟩ -
      refine wq_cif_eq (tgt := 124) (q := 117) rfl rfl rfl (fun c114 => ?_) (fun c114 => ?_)
      · skip
        refine wq_aload_n (kk := 0) (q := 125) rfl rfl rfl ?_
        refine wq_getF (q := 128) f_Re_18 rfl rfl (Nat.le_of_ble_eq_true rfl) rfl rfl rfl ?_
        refine wq_aload_n (kk := 0) (q := 129) rfl rfl rfl ?_
        refine wq_getI (kz := 12) (q := 132) rfl f_Re_47 rfl rfl (Or.inl ⟨rfl, Nat.le_of_ble_eq_true rfl⟩) rfl rfl ?_
        refine wq_bald (q := 133) rfl (Or.inl ⟨rfl, Nat.le_of_ble_eq_true rfl⟩) rfl rfl (by first | omega | (simp [hup] at *; omega)) (by first | omega | (simp [hup] at *; omega)) ?_
        refine wq_callS (q := 136) (m' := m_Re_isDigit) (R' := rm 1) (As := [_]) rfl rfl l_Re_185 sm_Re_isDigit rfl (Nat.le_of_ble_eq_true rfl) (Nat.le_of_ble_eq_true rfl) (Nat.le_refl _) (Nat.le_refl _) (Nat.le_of_ble_eq_true rfl) (Re_isDigit_ok _ _ _) rfl ?_
        rintro rv h1 r ⟨rfl, rfl, rfl⟩ -
        refine wq_cif_eq (tgt := 146) (q := 139) rfl rfl rfl (fun c136 => ?_) (fun c136 => ?_)
        · skip
          refine wq_aload_n (kk := 0) (q := 147) rfl rfl rfl ?_
          refine wq_iconst (n := 5) (q := 148) rfl rfl rfl ?_
          rw [h12] at c81
          rw [h12] at c114
          rw [h12] at c136
          have t := t5 (by omega) (by omega) (by omega) (by omega)
          refine wq_putI (kz := 10) (q := 151) rfl f_Re_54 rfl rfl rfl (Or.inl ⟨rfl, Nat.le_of_ble_eq_true rfl⟩) rfl rfl ?_
          exact wq_vret rfl rfl (Nat.le_refl _) (Nat.le_refl _) ⟨rfl, rfl, hf.up (by decide), by rw [hup_s]; exact t.1.symm, by rw [hup_j (by decide), h11, eS], by rw [hup_j (by decide), h12, t.2], fun z => by omega, fun z => by omega⟩
        · skip
          refine wq_aload_n (kk := 0) (q := 140) rfl rfl rfl ?_
          refine wq_callV (q := 143) (m' := m_Re_takeWhole) (R' := rm 2) (As := []) rfl rfl l_Re_188 vm_Re_takeWhole rfl rfl rfl (Or.inl ⟨rfl, Nat.le_of_ble_eq_true rfl⟩) (Nat.le_of_ble_eq_true rfl) (Nat.le_of_ble_eq_true rfl) (Nat.le_refl _) (Nat.le_refl _) (Nat.le_of_ble_eq_true rfl) (Re_takeWhole_ok h1 r T n s x1f x3 hb h11 p0 sn h12 h13) rfl ?_
          rintro rv h2 r ⟨rfl, rfl, f2, g12, g10, g13⟩ -
          rw [h12] at c81
          rw [h12] at c114
          rw [h12] at c136
          have t := td (by omega) (by omega) (by omega) (by omega)
          refine wq_goto (tgt := 151) rfl rfl ?_
          refine wq_vret rfl rfl (Nat.le_refl _) (Nat.le_refl _) ⟨rfl, rfl, hf.tr f2 (by decide), by rw [g10, t.1], by rw [f2.2 11 (by decide), h11, eS], by rw [g12, t.2], fun z => ?_, fun z => ?_⟩
          · rw [t.1] at z
            split at z <;> omega
          · rw [t.1] at z
            have z' : rE (bDg T) n s - s ≤ 4 := by
              by_cases y : rE (bDg T) n s - s ≤ 4
              · exact y
              · rw [if_neg y] at z; omega
            rw [g13 z']
            unfold c10 tC
            rw [t.2, eS]
      · skip
        refine wq_aload_n (kk := 0) (q := 118) rfl rfl rfl ?_
        refine wq_callV (q := 121) (m' := m_Re_takeWord) (R' := rm 2) (As := []) rfl rfl l_Re_182 vm_Re_takeWord rfl rfl rfl (Or.inl ⟨rfl, Nat.le_of_ble_eq_true rfl⟩) (Nat.le_of_ble_eq_true rfl) (Nat.le_of_ble_eq_true rfl) (Nat.le_refl _) (Nat.le_refl _) (Nat.le_of_ble_eq_true rfl) (Re_takeWord_ok h1 r T n s x1f x3 hb h11 p0 sn h12 h13) rfl ?_
        rintro rv h2 r ⟨rfl, rfl, f2, g12, g10, g13⟩ -
        rw [h12] at c81
        rw [h12] at c114
        have t := tw (by omega) (by omega) (by omega)
        refine wq_goto (tgt := 151) rfl rfl ?_
        refine wq_vret rfl rfl (Nat.le_refl _) (Nat.le_refl _) ⟨rfl, rfl, hf.tr f2 (by decide), by rw [g10, t.1], by rw [f2.2 11 (by decide), h11, eS], by rw [g12, t.2], fun z => ?_, fun z => ?_⟩
        · rw [t.1] at z
          have z' : rE (bLt T) n s - s ≤ 6 := by
            by_cases y : rE (bLt T) n s - s ≤ 6
            · exact y
            · rw [if_neg y] at z; omega
          rw [g13 z']
          unfold c27 tC
          rw [t.2, eS]
        · rw [t.1] at z
          split at z <;> omega
    · skip
      refine wq_aload_n (kk := 0) (q := 85) rfl rfl rfl ?_
      refine wq_iconst (n := 3) (q := 86) rfl rfl rfl ?_
      refine wq_putI (kz := 10) (q := 89) rfl f_Re_54 rfl rfl rfl (Or.inl ⟨rfl, Nat.le_of_ble_eq_true rfl⟩) rfl rfl ?_
      refine wq_aload_n (kk := 0) (q := 90) rfl rfl rfl ?_
      refine wq_dup (q := 91) rfl rfl rfl ?_
      refine wq_getI (kz := 12) (q := 94) rfl f_Re_47 rfl rfl (Or.inl ⟨rfl, Nat.le_of_ble_eq_true rfl⟩) rfl rfl ?_
      refine wq_iconst (n := 1) (q := 95) rfl rfl rfl ?_
      refine wq_iadd (q := 96) rfl rfl (by first | omega | (simp [hup] at *; omega)) (by first | omega | (simp [hup] at *; omega)) ?_
      refine wq_putI (kz := 12) (q := 99) rfl f_Re_47 rfl rfl rfl (Or.inl ⟨rfl, Nat.le_of_ble_eq_true rfl⟩) rfl rfl ?_
      rw [h12] at c81
      have t := t3 (by omega) (by omega)
      refine wq_goto (tgt := 151) rfl rfl ?_
      refine wq_vret rfl rfl (Nat.le_refl _) (Nat.le_refl _) ⟨rfl, rfl, (hf.up (by decide)).up (by decide), ?_, ?_, ?_, fun z => by omega, fun z => by omega⟩
      · rw [hup_j (by decide), hup_s]; exact t.1.symm
      · rw [hup_j (by decide), hup_j (by decide), h11, eS]
      · rw [hup_s, hup_j (by decide), h12, t.2]
  · skip
    refine wq_aload_n (kk := 0) (q := 63) rfl rfl rfl ?_
    refine wq_iconst (n := 4) (q := 64) rfl rfl rfl ?_
    refine wq_putI (kz := 10) (q := 67) rfl f_Re_54 rfl rfl rfl (Or.inl ⟨rfl, Nat.le_of_ble_eq_true rfl⟩) rfl rfl ?_
    have t := t4 (by omega)
    refine wq_goto (tgt := 151) rfl rfl ?_
    exact wq_vret rfl rfl (Nat.le_refl _) (Nat.le_refl _) ⟨rfl, rfl, hf.up (by decide), by rw [hup_s]; exact t.1.symm, by rw [hup_j (by decide), h11, eS], by rw [hup_j (by decide), h12, t.2], fun z => by omega, fun z => by omega⟩
set_option maxRecDepth 100000 in
set_option maxHeartbeats 1000000 in
theorem Re_advance_lp (h : mH) (r : mR) (T : mF) (n p : Int) (hT : h 1 = T) (hn : h 24 3 = n) (hb : n ≤ 900) (p0 : 0 ≤ p) : ∀ (M : Nat) (i : Int) (h1 : mH), (n - i).toNat = M → p ≤ i → i ≤ n → f24 [10, 11, 12, 13] h h1 → h1 24 12 = i → rE (bSp T) n i = rE (bSp T) n p → WP (true, rm 3) m_Re_advance (rt m_Re_advance (rm 3) (fun rv h2 r2 => rv = none ∧ r2 = r ∧ f24 [10, 11, 12, 13] h h2 ∧ tkd T n p h2)) 0 [some (vR 24)] [] h1 r (0, 0) := by
  intro M
  induction M using Nat.strongRecOn with
  | ind M ih =>
    intro i h1 hM i0 i1 hf hi hr
    have x3 : h1 24 3 = n := by rw [hf.2 3 (by decide)]; exact hn
    have xi : h1 1 (h1 24 12) = T i := by rw [hf.1.at 1 _ (by decide), hT, hi]
    refine wq_aload_n (kk := 0) (q := 1) rfl rfl rfl ?_
    refine wq_getI (kz := 12) (q := 4) rfl f_Re_47 rfl rfl (Or.inl ⟨rfl, Nat.le_of_ble_eq_true rfl⟩) rfl rfl ?_
    refine wq_aload_n (kk := 0) (q := 5) rfl rfl rfl ?_
    refine wq_getI (kz := 3) (q := 8) rfl f_Re_32 rfl rfl (Or.inl ⟨rfl, Nat.le_of_ble_eq_true rfl⟩) rfl rfl ?_
    refine wq_icmp_ge (tgt := 38) (q := 11) rfl rfl rfl (fun c8 => ?_) (fun c8 => ?_)
    · skip
      refine wq_aload_n (kk := 0) (q := 39) rfl rfl rfl ?_
      refine wq_aload_n (kk := 0) (q := 40) rfl rfl rfl ?_
      refine wq_getI (kz := 12) (q := 43) rfl f_Re_47 rfl rfl (Or.inl ⟨rfl, Nat.le_of_ble_eq_true rfl⟩) rfl rfl ?_
      refine wq_putI (kz := 11) (q := 46) rfl f_Re_64 rfl rfl rfl (Or.inl ⟨rfl, Nat.le_of_ble_eq_true rfl⟩) rfl rfl ?_
      refine wq_aload_n (kk := 0) (q := 47) rfl rfl rfl ?_
      refine wq_iconst (n := 0) (q := 48) rfl rfl rfl ?_
      refine wq_putI (kz := 13) (q := 51) rfl f_Re_119 rfl rfl rfl (Or.inl ⟨rfl, Nat.le_of_ble_eq_true rfl⟩) rfl rfl ?_
      have en : rE (bSp T) n i = i := rE_n (by first | (left; omega) | (right; simp [bSp]; omega))
      rw [en] at hr
      refine Re_advanceB h r T n p i hT hn hb (by omega) i1 hr.symm _ ((hf.up (by decide)).up (by decide)) ?_ ?_ hup_s
      · rw [hup_j (by decide), hup_s, hi]
      · rw [hup_j (by decide), hup_j (by decide), hi]
    · skip
      refine wq_aload_n (kk := 0) (q := 12) rfl rfl rfl ?_
      refine wq_getF (q := 15) f_Re_18 rfl rfl (Nat.le_of_ble_eq_true rfl) rfl rfl rfl ?_
      refine wq_aload_n (kk := 0) (q := 16) rfl rfl rfl ?_
      refine wq_getI (kz := 12) (q := 19) rfl f_Re_47 rfl rfl (Or.inl ⟨rfl, Nat.le_of_ble_eq_true rfl⟩) rfl rfl ?_
      refine wq_bald (q := 20) rfl (Or.inl ⟨rfl, Nat.le_of_ble_eq_true rfl⟩) rfl rfl (by first | omega | (simp [hup]; omega)) (by first | omega | (simp [hup]; omega)) ?_
      refine wq_bipush (n := 32) (q := 22) rfl rfl rfl ?_
      refine wq_icmp_ne (tgt := 38) (q := 25) rfl rfl rfl (fun c22 => ?_) (fun c22 => ?_)
      · skip
        refine wq_aload_n (kk := 0) (q := 39) rfl rfl rfl ?_
        refine wq_aload_n (kk := 0) (q := 40) rfl rfl rfl ?_
        refine wq_getI (kz := 12) (q := 43) rfl f_Re_47 rfl rfl (Or.inl ⟨rfl, Nat.le_of_ble_eq_true rfl⟩) rfl rfl ?_
        refine wq_putI (kz := 11) (q := 46) rfl f_Re_64 rfl rfl rfl (Or.inl ⟨rfl, Nat.le_of_ble_eq_true rfl⟩) rfl rfl ?_
        refine wq_aload_n (kk := 0) (q := 47) rfl rfl rfl ?_
        refine wq_iconst (n := 0) (q := 48) rfl rfl rfl ?_
        refine wq_putI (kz := 13) (q := 51) rfl f_Re_119 rfl rfl rfl (Or.inl ⟨rfl, Nat.le_of_ble_eq_true rfl⟩) rfl rfl ?_
        have en : rE (bSp T) n i = i := rE_n (by first | (left; omega) | (right; simp [bSp]; omega))
        rw [en] at hr
        refine Re_advanceB h r T n p i hT hn hb (by omega) i1 hr.symm _ ((hf.up (by decide)).up (by decide)) ?_ ?_ hup_s
        · rw [hup_j (by decide), hup_s, hi]
        · rw [hup_j (by decide), hup_j (by decide), hi]
      · skip
        refine wq_aload_n (kk := 0) (q := 26) rfl rfl rfl ?_
        refine wq_dup (q := 27) rfl rfl rfl ?_
        refine wq_getI (kz := 12) (q := 30) rfl f_Re_47 rfl rfl (Or.inl ⟨rfl, Nat.le_of_ble_eq_true rfl⟩) rfl rfl ?_
        refine wq_iconst (n := 1) (q := 31) rfl rfl rfl ?_
        refine wq_iadd (q := 32) rfl rfl (by first | omega | (simp [hup]; omega)) (by first | omega | (simp [hup]; omega)) ?_
        refine wq_putI (kz := 12) (q := 35) rfl f_Re_47 rfl rfl rfl (Or.inl ⟨rfl, Nat.le_of_ble_eq_true rfl⟩) rfl rfl ?_
        refine wq_goto (tgt := 0) rfl rfl ?_
        have ey := rE_y (f := bSp T) (n := n) (i := i) (by omega) (by simp [bSp]; omega)
        refine ih _ (by omega) (i + 1) _ rfl (by omega) (by omega) (hf.up (by decide)) ?_ (by rw [ey]; exact hr)
        rw [hup_s, hi]
theorem Re_advance_ok (p : Int) (h : mH) (r : mR) (hp : h 24 12 = p) (p0 : 0 ≤ p) (p1 : p ≤ h 24 3) (hn : h 24 3 ≤ 900) : Meets true (rm 3) m_Re_advance [vR 24] h r (avQ h r p) := by
  refine ⟨ok_Re_advance, Nat.le_of_ble_eq_true rfl, ?_⟩
  exact Re_advance_lp h r (h 1) (h 24 3) p rfl rfl hn p0 _ p h rfl (by omega) p1 f24.rf hp rfl

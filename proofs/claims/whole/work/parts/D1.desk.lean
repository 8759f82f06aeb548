/-! LinkTimesModel: desk -/
abbrev dkF : List Int := [0, 1, 2, 3, 5, 10, 11, 12, 13, 14, 15, 16, 17, 18, 19]
abbrev dkK : List Nat := [64, 66, 67, 70, 71, 72]
/-- what desk() answers and leaves in the reference -/
def dkR (T : mF) (n : Int) (h : mH) (r : mR) (z : Int × Int × pS) : mP := fun rv h1 r1 => r1 = r ∧ ((¬ (0 ≤ n ∧ n ≤ h 64 5) ∧ rv = some (vI (-1)) ∧ h1 = x_ref h 2) ∨
  ((0 ≤ n ∧ n ≤ h 64 5) ∧ f64 dkF dkK h h1 ∧ h1 64 5 = 0 ∧ h1 64 0 = 0 ∧
    ((z.1 ≠ 0 ∧ rv = some (vI (-1)) ∧ h1 64 1 = 4 ∧ h1 64 2 = z.1 ∧ h1 64 3 = z.2.1 ∧ h1 66 = h 66 ∧ h1 64 11 = h 64 11 ∧ h1 64 10 = h 64 10) ∨
     (z.1 = 0 ∧ rv = some (vI (h1 66 4)) ∧ h1 64 1 = 0 ∧ h1 64 2 = 0 ∧ eM (h1 66) z.2.2.1 ∧ PV T n z.2.2 ∧ 0 < z.2.2.1 1 ∧ h1 64 11 = 1 ∧ h1 64 10 = 0))))
set_option maxRecDepth 100000 in
set_option maxHeartbeats 1000000 in
theorem Mo_desk_ok (T : mF) (n : Int) (h : mH) (r : mR) (u0 : 0 ≤ h 64 5 ∧ h 64 5 ≤ 900) (hT : ∀ j, 0 ≤ j → j < h 64 5 → 0 ≤ h 65 j ∧ bq (T j) (h 65 j)) : Meets true (rm 12) m_Mo_desk [vR 64, vI n] h r (dkR T n h r (pRd T n)) := by
  have xr : ∀ k, f64 dkF dkK h (x_ref h k) := fun k => ((f64.rf.up (by decide) (by decide)).up (by decide) (by decide)).up (by decide) (by decide)
  refine ⟨ok_Mo_desk, Nat.le_of_ble_eq_true rfl, ?_⟩
  refine wq_aload_n (kk := 0) (q := 1) rfl rfl rfl ?_
  refine wq_iload_n (kk := 1) (q := 2) rfl rfl rfl ?_
  refine wq_iconst (n := 0) (q := 3) rfl rfl rfl ?_
  refine wq_aload_n (kk := 0) (q := 4) rfl rfl rfl ?_
  refine wq_getI (kz := 5) (q := 7) rfl f_Mo_84 rfl rfl (Or.inl ⟨rfl, Nat.le_of_ble_eq_true rfl⟩) rfl rfl ?_
  refine wq_callS (q := 10) (m' := m_Mo_in) (R' := rm 1) (As := [_, _, _]) rfl rfl l_Mo_107 sm_Mo_in rfl (Nat.le_of_ble_eq_true rfl) (Nat.le_of_ble_eq_true rfl) (Nat.le_refl _) (Nat.le_refl _) (Nat.le_of_ble_eq_true rfl) (Mo_in_ok _ _ _ h r) rfl ?_
  rintro rv h r ⟨rfl, rfl, rfl⟩ -
  refine wq_cif_eq (tgt := 17) (q := 13) rfl rfl rfl (fun c10 => ?_) (fun c10 => ?_)
  · skip
    refine wq_iconst (n := 2) (q := 18) rfl rfl rfl ?_
    refine wq_callV (q := 21) (m' := m_Mo_isRefused) (R' := rm 1) (As := [_]) rfl rfl l_Mo_228 vm_Mo_isRefused rfl rfl rfl (Or.inl ⟨rfl, Nat.le_of_ble_eq_true rfl⟩) (Nat.le_of_ble_eq_true rfl) (Nat.le_of_ble_eq_true rfl) (Nat.le_refl _) (Nat.le_refl _) (Nat.le_of_ble_eq_true rfl) (Mo_isRefused_ok _ h r) rfl ?_
    rintro rv h2 r ⟨rfl, rfl, rfl⟩ -
    refine wq_cif_eq (tgt := 26) (q := 24) rfl rfl rfl (fun c21 => absurd (by decide) c21) (fun c21 => ?_)
    refine wq_iconst (n := -1) (q := 25) rfl rfl rfl ?_
    exact wq_iret rfl rfl (Nat.le_refl _) (Nat.le_refl _) ⟨rfl, Or.inl ⟨c10, rfl, rfl⟩⟩
  · skip
    refine wq_iconst (n := 0) (q := 14) rfl rfl rfl ?_
    refine wq_goto (tgt := 18) rfl rfl ?_
    refine wq_callV (q := 21) (m' := m_Mo_isRefused) (R' := rm 1) (As := [_]) rfl rfl l_Mo_228 vm_Mo_isRefused rfl rfl rfl (Or.inl ⟨rfl, Nat.le_of_ble_eq_true rfl⟩) (Nat.le_of_ble_eq_true rfl) (Nat.le_of_ble_eq_true rfl) (Nat.le_refl _) (Nat.le_refl _) (Nat.le_of_ble_eq_true rfl) (Mo_isRefused_ok _ h r) rfl ?_
    rintro rv h2 r ⟨rfl, rfl, rfl⟩ -
    refine wq_cif_eq (tgt := 26) (q := 24) rfl rfl rfl (fun c21 => ?_) (fun c21 => ?_)
    · skip
      have f2 : f64 dkF dkK h (hup (hup (x_ref h 0) 64 5 0) 64 2 0) := ((xr 0).up (by decide) (by decide)).up (by decide) (by decide)
      have x0 : hup (hup (x_ref h 0) 64 5 0) 64 2 0 64 0 = 0 := by simp [hup, x_ref]
      have x1 : hup (hup (x_ref h 0) 64 5 0) 64 2 0 64 1 = 0 := by simp [hup, x_ref]
      have x2 : hup (hup (x_ref h 0) 64 5 0) 64 2 0 64 2 = 0 := by simp [hup, x_ref]
      have x5 : hup (hup (x_ref h 0) 64 5 0) 64 2 0 64 5 = 0 := by simp [hup, x_ref]
      have xa : hup (hup (x_ref h 0) 64 5 0) 64 2 0 64 10 = h 64 10 := by simp [hup, x_ref]
      have xb : hup (hup (x_ref h 0) 64 5 0) 64 2 0 64 11 = h 64 11 := by simp [hup, x_ref]
      have x66 : hup (hup (x_ref h 0) 64 5 0) 64 2 0 66 = h 66 := by funext j; simp [hup, x_ref]
      have x65 : hup (hup (x_ref h 0) 64 5 0) 64 2 0 65 = h 65 := by funext j; simp [hup, x_ref]
      refine wq_aload_n (kk := 0) (q := 27) rfl rfl rfl ?_
      refine wq_iconst (n := 0) (q := 28) rfl rfl rfl ?_
      refine wq_putI (kz := 5) (q := 31) rfl f_Mo_84 rfl rfl rfl (Or.inl ⟨rfl, Nat.le_of_ble_eq_true rfl⟩) rfl rfl ?_
      refine wq_aload_n (kk := 0) (q := 32) rfl rfl rfl ?_
      refine wq_iconst (n := 0) (q := 33) rfl rfl rfl ?_
      refine wq_putI (kz := 2) (q := 36) rfl f_Mo_231 rfl rfl rfl (Or.inl ⟨rfl, Nat.le_of_ble_eq_true rfl⟩) rfl rfl ?_
      generalize hup (hup (x_ref h 0) 64 5 0) 64 2 0 = h2 at *
      refine wq_aload_n (kk := 0) (q := 37) rfl rfl rfl ?_
      refine wq_iload_n (kk := 1) (q := 38) rfl rfl rfl ?_
      refine wq_callV (q := 41) (m' := m_Mo_readAll) (R' := rm 11) (As := [_]) rfl rfl l_Mo_234 vm_Mo_readAll rfl rfl rfl (Or.inl ⟨rfl, Nat.le_of_ble_eq_true rfl⟩) (Nat.le_of_ble_eq_true rfl) (Nat.le_of_ble_eq_true rfl) (Nat.le_refl _) (Nat.le_refl _) (Nat.le_of_ble_eq_true rfl) (Mo_readAll_ok T n h2 r (by omega) (by rw [x65]; exact fun j j0 j1 => hT j j0 (by omega))) rfl ?_
      rintro rv h3 r ⟨rfl, f3, rfl, a3, b3⟩ -
      refine wq_cif_ne (tgt := 66) (q := 44) rfl rfl rfl (fun c41 => ?_) (fun c41 => ?_)
      · skip
        obtain ⟨m3, v3, w3⟩ := a3 c41
        refine wq_aload_n (kk := 0) (q := 67) rfl rfl rfl ?_
        refine wq_getF (q := 70) f_Mo_20 rfl rfl (Nat.le_of_ble_eq_true rfl) rfl rfl rfl ?_
        refine wq_iconst (n := 0) (q := 71) rfl rfl rfl ?_
        refine wq_aload_n (kk := 0) (q := 72) rfl rfl rfl ?_
        refine wq_getF (q := 75) f_Mo_17 rfl rfl (Nat.le_of_ble_eq_true rfl) rfl rfl rfl ?_
        refine wq_iconst (n := 0) (q := 76) rfl rfl rfl ?_
        refine wq_callS (q := 79) (m' := m_Mo_copies) (R' := rm 1) (As := [_, _, _, _]) rfl rfl l_Mo_240 sm_Mo_copies rfl (Nat.le_of_ble_eq_true rfl) (Nat.le_of_ble_eq_true rfl) (Nat.le_refl _) (Nat.le_refl _) (Nat.le_of_ble_eq_true rfl) (Mo_copies_ok 67 0 66 0 (Or.inr (Or.inr (Or.inl ⟨rfl, rfl, rfl, rfl⟩))) h3 r) rfl ?_
        rintro rv h4 r ⟨rfl, rfl, g4⟩ -
        refine wq_aload_n (kk := 0) (q := 80) rfl rfl rfl ?_
        refine wq_iconst (n := 1) (q := 81) rfl rfl rfl ?_
        refine wq_putZ (kz := 11) (q := 84) rfl f_Mo_244 rfl rfl rfl (Or.inl ⟨rfl, Nat.le_of_ble_eq_true rfl⟩) rfl rfl (by omega) ?_
        refine wq_aload_n (kk := 0) (q := 85) rfl rfl rfl ?_
        refine wq_iconst (n := 0) (q := 86) rfl rfl rfl ?_
        refine wq_putI (kz := 10) (q := 89) rfl f_Mo_247 rfl rfl rfl (Or.inl ⟨rfl, Nat.le_of_ble_eq_true rfl⟩) rfl rfl ?_
        refine wq_aload_n (kk := 0) (q := 90) rfl rfl rfl ?_
        refine wq_getF (q := 93) f_Mo_17 rfl rfl (Nat.le_of_ble_eq_true rfl) rfl rfl rfl ?_
        refine wq_iconst (n := 4) (q := 94) rfl rfl rfl ?_
        refine wq_iald (q := 95) rfl (Or.inl ⟨rfl, Nat.le_of_ble_eq_true rfl⟩) rfl rfl (by first | omega | (simp [hup]; omega)) (by first | omega | (simp [hup]; omega)) ?_
        have y64 : h4 64 = h3 64 := g4.1 64 (by decide)
        have eA : eM (h4 66) (pRd T n).2.2.1 := by
          have rv := v3.1
          have e := m3.2.1
          have z0 : 0 < (pRd T n).2.2.1 0 := by
            have q0 := rv.1
            by_cases y : (pRd T n).2.2.1 0 = 0
            · have := (rv.2.2.2.2.2.1 y).1
              omega
            · omega
          have cp : ∀ j, 0 ≤ j → j < 985 → h4 66 j = h3 67 j := fun j j0 j1 => by
            have := g4.2.1 j j0 j1
            rw [Int.zero_add] at this
            exact this
          refine ⟨fun _ => by rw [cp 0 (by omega) (by omega)]; exact e.1 z0, fun j hj => ?_⟩
          have r1 := rv.2.1
          have r4 := rv.2.2.2.2.1
          rw [← e.2 j hj]
          unfold lvR at hj
          exact cp j (by omega) (by omega)
        refine wq_iret rfl rfl (Nat.le_refl _) (Nat.le_refl _) ⟨rfl, Or.inr ⟨c10, (((f2.tr f3 (by decide) (by decide)).tr (⟨g4.1, fun j _ => by rw [y64]⟩ : f64 [] [66] h3 h4) (by decide) (by decide)).up (by decide) (by decide)).up (by decide) (by decide), ?_, ?_, Or.inr ⟨c41, ?_, ?_, ?_, ?_, v3, w3, ?_, hup_s⟩⟩⟩
        · rw [hup_j (by decide), hup_j (by decide), y64, f3.2 5 (by decide)]; exact x5
        · rw [hup_j (by decide), hup_j (by decide), y64, f3.2 0 (by decide)]; exact x0
        · rfl
        · rw [hup_j (by decide), hup_j (by decide), y64, f3.2 1 (by decide)]; exact x1
        · rw [hup_j (by decide), hup_j (by decide), y64, f3.2 2 (by decide)]; exact x2
        · rw [hup_ne (by decide), hup_ne (by decide)]; exact eA
        · rw [hup_j (by decide), hup_s]
      · skip
        obtain ⟨b17, b18⟩ := b3 c41
        refine wq_aload_n (kk := 0) (q := 45) rfl rfl rfl ?_
        refine wq_aload_n (kk := 0) (q := 46) rfl rfl rfl ?_
        refine wq_getI (kz := 17) (q := 49) rfl f_Mo_124 rfl rfl (Or.inl ⟨rfl, Nat.le_of_ble_eq_true rfl⟩) rfl rfl ?_
        refine wq_putI (kz := 2) (q := 52) rfl f_Mo_231 rfl rfl rfl (Or.inl ⟨rfl, Nat.le_of_ble_eq_true rfl⟩) rfl rfl ?_
        refine wq_aload_n (kk := 0) (q := 53) rfl rfl rfl ?_
        refine wq_aload_n (kk := 0) (q := 54) rfl rfl rfl ?_
        refine wq_getI (kz := 18) (q := 57) rfl f_Mo_127 rfl rfl (Or.inl ⟨rfl, Nat.le_of_ble_eq_true rfl⟩) rfl rfl ?_
        refine wq_putI (kz := 3) (q := 60) rfl f_Mo_9 rfl rfl rfl (Or.inl ⟨rfl, Nat.le_of_ble_eq_true rfl⟩) rfl rfl ?_
        refine wq_aload_n (kk := 0) (q := 61) rfl rfl rfl ?_
        refine wq_iconst (n := 4) (q := 62) rfl rfl rfl ?_
        refine wq_callV (q := 65) (m' := m_Mo_no) (R' := rm 1) (As := [_]) rfl rfl l_Mo_237 vm_Mo_no rfl rfl rfl (Or.inl ⟨rfl, Nat.le_of_ble_eq_true rfl⟩) (Nat.le_of_ble_eq_true rfl) (Nat.le_of_ble_eq_true rfl) (Nat.le_refl _) (Nat.le_refl _) (Nat.le_of_ble_eq_true rfl) (Mo_no_ok 4 _ r) rfl ?_
        rintro rv h4 r ⟨rfl, rfl, rfl⟩ -
        refine wq_iret rfl rfl (Nat.le_refl _) (Nat.le_refl _) ⟨rfl, Or.inr ⟨c10, (((f2.tr f3 (by decide) (by decide)).up (by decide) (by decide)).up (by decide) (by decide)).up (by decide) (by decide), ?_, ?_, Or.inl ⟨c41, rfl, hup_s, ?_, ?_, ?_, ?_, ?_⟩⟩⟩
        · rw [hup_j (by decide), hup_j (by decide), hup_j (by decide), f3.2 5 (by decide)]; exact x5
        · rw [hup_j (by decide), hup_j (by decide), hup_j (by decide), f3.2 0 (by decide)]; exact x0
        · rw [hup_j (by decide), hup_j (by decide), hup_s]; exact b17
        · rw [hup_j (by decide), hup_s, hup_j (by decide)]; exact b18
        · rw [hup_ne (by decide), hup_ne (by decide), hup_ne (by decide), f3.1 66 (by decide)]; exact x66
        · rw [hup_j (by decide), hup_j (by decide), hup_j (by decide), f3.2 11 (by decide)]; exact xb
        · rw [hup_j (by decide), hup_j (by decide), hup_j (by decide), f3.2 10 (by decide)]; exact xa
    · skip
      refine wq_iconst (n := -1) (q := 25) rfl rfl rfl ?_
      exact absurd rfl c21

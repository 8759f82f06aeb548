/-! LinkTimes$Log: cell 27, rows 28 (kinds), 29 (whose), 30 (was) -/
set_option maxRecDepth 100000 in
theorem Lo_clear_ok (h : mH) (r : mR) : Meets true (rm 1) m_Lo_clear [vR 27] h r (pH (hup h 27 0 0) r) := by
  refine ⟨ok_Lo_clear, Nat.le_of_ble_eq_true rfl, ?_⟩
  refine wq_aload_n (kk := 0) (q := 1) rfl rfl rfl ?_
  refine wq_iconst (n := 0) (q := 2) rfl rfl rfl ?_
  refine wq_putI (kz := 0) (q := 5) rfl f_Lo_19 rfl rfl rfl (Or.inl ⟨rfl, Nat.le_of_ble_eq_true rfl⟩) rfl rfl ?_
  refine wq_vret rfl rfl (Nat.le_refl _) (Nat.le_refl _) ?_
  first | exact ⟨rfl, rfl, rfl⟩ | exact pB_t (by omega) | exact pB_f (by omega) | exact pC_t (by omega) | exact pC_f (by omega) | (exfalso; omega)
/-- the rows from place i on are the old ones, those ahead have moved by one -/
def lgS (h h' : mH) (i : Int) : Prop := ∀ a, a = 28 ∨ a = 29 ∨ a = 30 → (∀ j, 0 ≤ j → j < i - 1 → h' a j = h a (j + 1)) ∧ ∀ j, i - 1 ≤ j → h' a j = h a j
set_option maxRecDepth 100000 in
set_option maxHeartbeats 1000000 in
theorem Lo_forget_lp (h : mH) (r : mR) (hk : h 27 0 = 10) : ∀ (N : Nat) (i : Int) (h' : mH), (10 - i).toNat = N → 1 ≤ i → i ≤ 10 → fr [28, 29, 30] h h' → lgS h h' i → WP (true, rm 1) m_Lo_forgetOldest (rt m_Lo_forgetOldest (rm 1) (fun rv h1 r1 => rv = none ∧ r1 = r ∧ fr [27, 28, 29, 30] h h1 ∧ h1 27 0 = 9 ∧ ∀ a, a = 28 ∨ a = 29 ∨ a = 30 → ∀ j, 0 ≤ j → j < 9 → h1 a j = h a (j + 1))) 2 [some (vR 27), some (vI i)] [] h' r (0, 0) := by
  intro N
  induction N using Nat.strongRecOn with
  | ind N ih =>
    intro i h' hN h1 h2 hf hl
    have hk' : h' 27 0 = 10 := by rw [hf.at 27 0 (by decide)]; exact hk
    have l1 := hl 28 (by omega)
    have l2 := hl 29 (by omega)
    have l3 := hl 30 (by omega)
    refine wq_iload_n (kk := 1) (q := 3) rfl rfl rfl ?_
    refine wq_aload_n (kk := 0) (q := 4) rfl rfl rfl ?_
    refine wq_getI (kz := 0) (q := 7) rfl f_Lo_19 rfl rfl (Or.inl ⟨rfl, Nat.le_of_ble_eq_true rfl⟩) rfl rfl ?_
    refine wq_icmp_ge (tgt := 58) (q := 10) rfl rfl rfl (fun c7 => ?_) (fun c7 => ?_)
    · skip
      refine wq_aload_n (kk := 0) (q := 59) rfl rfl rfl ?_
      refine wq_dup (q := 60) rfl rfl rfl ?_
      refine wq_getI (kz := 0) (q := 63) rfl f_Lo_19 rfl rfl (Or.inl ⟨rfl, Nat.le_of_ble_eq_true rfl⟩) rfl rfl ?_
      refine wq_iconst (n := 1) (q := 64) rfl rfl rfl ?_
      refine wq_isub (q := 65) rfl rfl (by first | omega | (simp [hup]; omega)) (by first | omega | (simp [hup]; omega)) ?_
      refine wq_putI (kz := 0) (q := 68) rfl f_Lo_19 rfl rfl rfl (Or.inl ⟨rfl, Nat.le_of_ble_eq_true rfl⟩) rfl rfl ?_
      refine wq_vret rfl rfl (Nat.le_refl _) (Nat.le_refl _) ⟨rfl, rfl, (hf.mono (by decide)).up (by decide), ?_, ?_⟩
      · rw [hup_s]; omega
      · intro a ha j j0 j1
        rw [hup_i (by omega)]
        exact (hl a ha).1 j j0 (by omega)
    · skip
      refine wq_aload_n (kk := 0) (q := 11) rfl rfl rfl ?_
      refine wq_getF (q := 14) f_Lo_9 rfl rfl (Nat.le_of_ble_eq_true rfl) rfl rfl rfl ?_
      refine wq_iload_n (kk := 1) (q := 15) rfl rfl rfl ?_
      refine wq_iconst (n := 1) (q := 16) rfl rfl rfl ?_
      refine wq_isub (q := 17) rfl rfl (by first | omega | (simp [hup]; omega)) (by first | omega | (simp [hup]; omega)) ?_
      refine wq_aload_n (kk := 0) (q := 18) rfl rfl rfl ?_
      refine wq_getF (q := 21) f_Lo_9 rfl rfl (Nat.le_of_ble_eq_true rfl) rfl rfl rfl ?_
      refine wq_iload_n (kk := 1) (q := 22) rfl rfl rfl ?_
      refine wq_iald (q := 23) rfl (Or.inl ⟨rfl, Nat.le_of_ble_eq_true rfl⟩) rfl rfl (by first | omega | (simp [hup]; omega)) (by first | omega | (simp [hup]; omega)) ?_
      refine wq_iast (q := 24) rfl (Or.inl ⟨rfl, Nat.le_of_ble_eq_true rfl⟩) rfl rfl (by first | omega | (simp [hup]; omega)) (by first | omega | (simp [hup]; omega)) ?_
      refine wq_aload_n (kk := 0) (q := 25) rfl rfl rfl ?_
      refine wq_getF (q := 28) f_Lo_13 rfl rfl (Nat.le_of_ble_eq_true rfl) rfl rfl rfl ?_
      refine wq_iload_n (kk := 1) (q := 29) rfl rfl rfl ?_
      refine wq_iconst (n := 1) (q := 30) rfl rfl rfl ?_
      refine wq_isub (q := 31) rfl rfl (by first | omega | (simp [hup]; omega)) (by first | omega | (simp [hup]; omega)) ?_
      refine wq_aload_n (kk := 0) (q := 32) rfl rfl rfl ?_
      refine wq_getF (q := 35) f_Lo_13 rfl rfl (Nat.le_of_ble_eq_true rfl) rfl rfl rfl ?_
      refine wq_iload_n (kk := 1) (q := 36) rfl rfl rfl ?_
      refine wq_iald (q := 37) rfl (Or.inl ⟨rfl, Nat.le_of_ble_eq_true rfl⟩) rfl rfl (by first | omega | (simp [hup]; omega)) (by first | omega | (simp [hup]; omega)) ?_
      refine wq_iast (q := 38) rfl (Or.inl ⟨rfl, Nat.le_of_ble_eq_true rfl⟩) rfl rfl (by first | omega | (simp [hup]; omega)) (by first | omega | (simp [hup]; omega)) ?_
      refine wq_aload_n (kk := 0) (q := 39) rfl rfl rfl ?_
      refine wq_getF (q := 42) f_Lo_16 rfl rfl (Nat.le_of_ble_eq_true rfl) rfl rfl rfl ?_
      refine wq_iload_n (kk := 1) (q := 43) rfl rfl rfl ?_
      refine wq_iconst (n := 1) (q := 44) rfl rfl rfl ?_
      refine wq_isub (q := 45) rfl rfl (by first | omega | (simp [hup]; omega)) (by first | omega | (simp [hup]; omega)) ?_
      refine wq_aload_n (kk := 0) (q := 46) rfl rfl rfl ?_
      refine wq_getF (q := 49) f_Lo_16 rfl rfl (Nat.le_of_ble_eq_true rfl) rfl rfl rfl ?_
      refine wq_iload_n (kk := 1) (q := 50) rfl rfl rfl ?_
      refine wq_iald (q := 51) rfl (Or.inl ⟨rfl, Nat.le_of_ble_eq_true rfl⟩) rfl rfl (by first | omega | (simp [hup]; omega)) (by first | omega | (simp [hup]; omega)) ?_
      refine wq_iast (q := 52) rfl (Or.inl ⟨rfl, Nat.le_of_ble_eq_true rfl⟩) rfl rfl (by first | omega | (simp [hup]; omega)) (by first | omega | (simp [hup]; omega)) ?_
      refine wq_iinc (i := 1) (n := 1) (q := 55) rfl rfl rfl (Nat.le_of_ble_eq_true rfl) rfl (by first | omega | (simp [hup]; omega)) (by first | omega | (simp [hup]; omega)) ?_
      refine wq_goto (tgt := 2) rfl rfl ?_
      refine ih _ ?_ (i + 1) _ rfl (by omega) (by omega) (((hf.up (by decide)).up (by decide)).up (by decide)) ?_
      · omega
      · intro a ha
        refine ⟨fun j j0 j1 => ?_, fun j j1 => ?_⟩
        · rcases ha with rfl | rfl | rfl <;> simp only [hup] <;> by_cases e : j = i - 1 <;> simp [e]
          · rw [l1.2 i (by omega)]; 
          · exact l1.1 j j0 (by omega)
          · rw [l2.2 i (by omega)]; 
          · exact l2.1 j j0 (by omega)
          · rw [l3.2 i (by omega)]; 
          · exact l3.1 j j0 (by omega)
        · have e : ¬ j = i - 1 := by omega
          rcases ha with rfl | rfl | rfl <;> simp [hup, e]
          · exact l1.2 j (by omega)
          · exact l2.2 j (by omega)
          · exact l3.2 j (by omega)
set_option maxRecDepth 100000 in
theorem Lo_forget_ok (h : mH) (r : mR) (hk : h 27 0 = 10) : Meets true (rm 1) m_Lo_forgetOldest [vR 27] h r (fun rv h1 r1 => rv = none ∧ r1 = r ∧ fr [27, 28, 29, 30] h h1 ∧ h1 27 0 = 9 ∧ ∀ a, a = 28 ∨ a = 29 ∨ a = 30 → ∀ j, 0 ≤ j → j < 9 → h1 a j = h a (j + 1)) := by
  refine ⟨ok_Lo_forgetOldest, Nat.le_of_ble_eq_true rfl, ?_⟩
  refine wq_iconst (n := 1) (q := 1) rfl rfl rfl ?_
  refine wq_istore_n (kk := 1) (q := 2) rfl rfl (Nat.le_of_ble_eq_true rfl) rfl ?_
  exact Lo_forget_lp h r hk _ 1 h rfl (by omega) (by omega) fr.rf (fun a ha => ⟨fun j j0 j1 => by omega, fun j j1 => rfl⟩)
/-- what note() does: s is 1 if the oldest went -/
def noted (h h1 : mH) (kind number before : Int) : Prop := ∃ s : Int, (s = 0 ∧ h 27 0 < 10 ∨ s = 1 ∧ h 27 0 = 10) ∧ fr [27, 28, 29, 30] h h1 ∧ h1 27 0 = h 27 0 + 1 - s ∧ (∀ a, a = 28 ∨ a = 29 ∨ a = 30 → ∀ j, 0 ≤ j → j < h 27 0 - s → h1 a j = h a (j + s)) ∧ h1 28 (h 27 0 - s) = kind ∧ h1 29 (h 27 0 - s) = number ∧ h1 30 (h 27 0 - s) = before
set_option maxRecDepth 100000 in
set_option maxHeartbeats 1000000 in
theorem Lo_note_ok (k n b : Int) (h : mH) (r : mR) (hk : 0 ≤ h 27 0 ∧ h 27 0 ≤ 10) : Meets true (rm 2) m_Lo_note [vR 27, vI k, vI n, vI b] h r (fun rv h1 r1 => rv = none ∧ r1 = r ∧ noted h h1 k n b) := by
  refine ⟨ok_Lo_note, Nat.le_of_ble_eq_true rfl, ?_⟩
  refine wq_aload_n (kk := 0) (q := 1) rfl rfl rfl ?_
  refine wq_getI (kz := 0) (q := 4) rfl f_Lo_19 rfl rfl (Or.inl ⟨rfl, Nat.le_of_ble_eq_true rfl⟩) rfl rfl ?_
  refine wq_bipush (n := 10) (q := 6) rfl rfl rfl ?_
  refine wq_icmp_ne (tgt := 13) (q := 9) rfl rfl rfl (fun c6 => ?_) (fun c6 => ?_)
  · skip
    refine wq_aload_n (kk := 0) (q := 14) rfl rfl rfl ?_
    refine wq_getF (q := 17) f_Lo_9 rfl rfl (Nat.le_of_ble_eq_true rfl) rfl rfl rfl ?_
    refine wq_aload_n (kk := 0) (q := 18) rfl rfl rfl ?_
    refine wq_getI (kz := 0) (q := 21) rfl f_Lo_19 rfl rfl (Or.inl ⟨rfl, Nat.le_of_ble_eq_true rfl⟩) rfl rfl ?_
    refine wq_iload_n (kk := 1) (q := 22) rfl rfl rfl ?_
    refine wq_iast (q := 23) rfl (Or.inl ⟨rfl, Nat.le_of_ble_eq_true rfl⟩) rfl rfl (by first | omega | (simp [hup]; omega)) (by first | omega | (simp [hup]; omega)) ?_
    refine wq_aload_n (kk := 0) (q := 24) rfl rfl rfl ?_
    refine wq_getF (q := 27) f_Lo_13 rfl rfl (Nat.le_of_ble_eq_true rfl) rfl rfl rfl ?_
    refine wq_aload_n (kk := 0) (q := 28) rfl rfl rfl ?_
    refine wq_getI (kz := 0) (q := 31) rfl f_Lo_19 rfl rfl (Or.inl ⟨rfl, Nat.le_of_ble_eq_true rfl⟩) rfl rfl ?_
    refine wq_iload_n (kk := 2) (q := 32) rfl rfl rfl ?_
    refine wq_iast (q := 33) rfl (Or.inl ⟨rfl, Nat.le_of_ble_eq_true rfl⟩) rfl rfl (by first | omega | (simp [hup]; omega)) (by first | omega | (simp [hup]; omega)) ?_
    refine wq_aload_n (kk := 0) (q := 34) rfl rfl rfl ?_
    refine wq_getF (q := 37) f_Lo_16 rfl rfl (Nat.le_of_ble_eq_true rfl) rfl rfl rfl ?_
    refine wq_aload_n (kk := 0) (q := 38) rfl rfl rfl ?_
    refine wq_getI (kz := 0) (q := 41) rfl f_Lo_19 rfl rfl (Or.inl ⟨rfl, Nat.le_of_ble_eq_true rfl⟩) rfl rfl ?_
    refine wq_iload_n (kk := 3) (q := 42) rfl rfl rfl ?_
    refine wq_iast (q := 43) rfl (Or.inl ⟨rfl, Nat.le_of_ble_eq_true rfl⟩) rfl rfl (by first | omega | (simp [hup]; omega)) (by first | omega | (simp [hup]; omega)) ?_
    refine wq_aload_n (kk := 0) (q := 44) rfl rfl rfl ?_
    refine wq_dup (q := 45) rfl rfl rfl ?_
    refine wq_getI (kz := 0) (q := 48) rfl f_Lo_19 rfl rfl (Or.inl ⟨rfl, Nat.le_of_ble_eq_true rfl⟩) rfl rfl ?_
    refine wq_iconst (n := 1) (q := 49) rfl rfl rfl ?_
    refine wq_iadd (q := 50) rfl rfl (by first | omega | (simp [hup]; omega)) (by first | omega | (simp [hup]; omega)) ?_
    refine wq_putI (kz := 0) (q := 53) rfl f_Lo_19 rfl rfl rfl (Or.inl ⟨rfl, Nat.le_of_ble_eq_true rfl⟩) rfl rfl ?_
    refine wq_vret rfl rfl (Nat.le_refl _) (Nat.le_refl _) ⟨rfl, rfl, ?_⟩
    first
      | (refine ⟨0, Or.inl ⟨rfl, by omega⟩, (((fr.rf.up (by decide)).up (by decide)).up (by decide)).up (by decide), ?_, ?_, ?_, ?_, ?_⟩
         · simp [hup]
         · intro a ha j j0 j1
           have e : ¬ j = h 27 0 := by omega
           rcases ha with rfl | rfl | rfl <;> simp [hup, e]
         · simp [hup]
         · simp [hup]
         · simp [hup])
      | (refine ⟨1, Or.inr ⟨rfl, by omega⟩, (((f1.up (by decide)).up (by decide)).up (by decide)).up (by decide), ?_, ?_, ?_, ?_, ?_⟩
         · simp [hup]; omega
         · intro a ha j j0 j1
           have e : ¬ j = h1 27 0 := by omega
           rcases ha with rfl | rfl | rfl <;> simp [hup, e] <;> exact f3 _ (by omega) j j0 (by omega)
         · simp [hup]; omega
         · simp [hup]; omega
         · simp [hup]; omega)
  · skip
    refine wq_aload_n (kk := 0) (q := 10) rfl rfl rfl ?_
    refine wq_callV (q := 13) (m' := m_Lo_forgetOldest) (R' := rm 1) (As := []) rfl rfl l_Lo_23 vm_Lo_forgetOldest rfl rfl rfl (Or.inl ⟨rfl, Nat.le_of_ble_eq_true rfl⟩) (Nat.le_of_ble_eq_true rfl) (Nat.le_of_ble_eq_true rfl) (Nat.le_refl _) (Nat.le_refl _) (Nat.le_of_ble_eq_true rfl) (Lo_forget_ok h r (by omega)) rfl ?_
    rintro rv h1 r1 ⟨rfl, rfl, f1, f2, f3⟩ -
    refine wq_aload_n (kk := 0) (q := 14) rfl rfl rfl ?_
    refine wq_getF (q := 17) f_Lo_9 rfl rfl (Nat.le_of_ble_eq_true rfl) rfl rfl rfl ?_
    refine wq_aload_n (kk := 0) (q := 18) rfl rfl rfl ?_
    refine wq_getI (kz := 0) (q := 21) rfl f_Lo_19 rfl rfl (Or.inl ⟨rfl, Nat.le_of_ble_eq_true rfl⟩) rfl rfl ?_
    refine wq_iload_n (kk := 1) (q := 22) rfl rfl rfl ?_
    refine wq_iast (q := 23) rfl (Or.inl ⟨rfl, Nat.le_of_ble_eq_true rfl⟩) rfl rfl (by first | omega | (simp [hup]; omega)) (by first | omega | (simp [hup]; omega)) ?_
    refine wq_aload_n (kk := 0) (q := 24) rfl rfl rfl ?_
    refine wq_getF (q := 27) f_Lo_13 rfl rfl (Nat.le_of_ble_eq_true rfl) rfl rfl rfl ?_
    refine wq_aload_n (kk := 0) (q := 28) rfl rfl rfl ?_
    refine wq_getI (kz := 0) (q := 31) rfl f_Lo_19 rfl rfl (Or.inl ⟨rfl, Nat.le_of_ble_eq_true rfl⟩) rfl rfl ?_
    refine wq_iload_n (kk := 2) (q := 32) rfl rfl rfl ?_
    refine wq_iast (q := 33) rfl (Or.inl ⟨rfl, Nat.le_of_ble_eq_true rfl⟩) rfl rfl (by first | omega | (simp [hup]; omega)) (by first | omega | (simp [hup]; omega)) ?_
    refine wq_aload_n (kk := 0) (q := 34) rfl rfl rfl ?_
    refine wq_getF (q := 37) f_Lo_16 rfl rfl (Nat.le_of_ble_eq_true rfl) rfl rfl rfl ?_
    refine wq_aload_n (kk := 0) (q := 38) rfl rfl rfl ?_
    refine wq_getI (kz := 0) (q := 41) rfl f_Lo_19 rfl rfl (Or.inl ⟨rfl, Nat.le_of_ble_eq_true rfl⟩) rfl rfl ?_
    refine wq_iload_n (kk := 3) (q := 42) rfl rfl rfl ?_
    refine wq_iast (q := 43) rfl (Or.inl ⟨rfl, Nat.le_of_ble_eq_true rfl⟩) rfl rfl (by first | omega | (simp [hup]; omega)) (by first | omega | (simp [hup]; omega)) ?_
    refine wq_aload_n (kk := 0) (q := 44) rfl rfl rfl ?_
    refine wq_dup (q := 45) rfl rfl rfl ?_
    refine wq_getI (kz := 0) (q := 48) rfl f_Lo_19 rfl rfl (Or.inl ⟨rfl, Nat.le_of_ble_eq_true rfl⟩) rfl rfl ?_
    refine wq_iconst (n := 1) (q := 49) rfl rfl rfl ?_
    refine wq_iadd (q := 50) rfl rfl (by first | omega | (simp [hup]; omega)) (by first | omega | (simp [hup]; omega)) ?_
    refine wq_putI (kz := 0) (q := 53) rfl f_Lo_19 rfl rfl rfl (Or.inl ⟨rfl, Nat.le_of_ble_eq_true rfl⟩) rfl rfl ?_
    refine wq_vret rfl rfl (Nat.le_refl _) (Nat.le_refl _) ⟨rfl, rfl, ?_⟩
    first
      | (refine ⟨0, Or.inl ⟨rfl, by omega⟩, (((fr.rf.up (by decide)).up (by decide)).up (by decide)).up (by decide), ?_, ?_, ?_, ?_, ?_⟩
         · simp [hup]
         · intro a ha j j0 j1
           have e : ¬ j = h 27 0 := by omega
           rcases ha with rfl | rfl | rfl <;> simp [hup, e]
         · simp [hup]
         · simp [hup]
         · simp [hup])
      | (refine ⟨1, Or.inr ⟨rfl, by omega⟩, (((f1.up (by decide)).up (by decide)).up (by decide)).up (by decide), ?_, ?_, ?_, ?_, ?_⟩
         · simp [hup]; omega
         · intro a ha j j0 j1
           have e : ¬ j = h1 27 0 := by omega
           rcases ha with rfl | rfl | rfl <;> simp [hup, e] <;> exact f3 _ (by omega) j j0 (by omega)
         · simp [hup]; omega
         · simp [hup]; omega
         · simp [hup]; omega)
def unl (h : mH) (k n w : Int) : mH := if k = 0 then hup h 12 n (if w = 1 then 1 else 0) else if k = 1 then hup h 10 n w else if k = 2 then hup h 3 n w else if k = 3 then hup h 4 n w else hup h 2 4 n
set_option maxRecDepth 100000 in
set_option maxHeartbeats 1000000 in
theorem Lo_takeBack_ok (h : mH) (r : mR) (hk : 0 < h 27 0 ∧ h 27 0 ≤ 10) (hn : 0 ≤ h 29 (h 27 0 - 1)) (h1 : h 28 (h 27 0 - 1) = 0 ∨ h 28 (h 27 0 - 1) = 1 → h 29 (h 27 0 - 1) < 120) (h2 : h 28 (h 27 0 - 1) = 2 ∨ h 28 (h 27 0 - 1) = 3 → h 29 (h 27 0 - 1) < 10) : Meets true (rm 1) m_Lo_takeBack [vR 27, vR 2] h r (pH (unl (hup h 27 0 (h 27 0 - 1)) (h 28 (h 27 0 - 1)) (h 29 (h 27 0 - 1)) (h 30 (h 27 0 - 1))) r) := by
  refine ⟨ok_Lo_takeBack, Nat.le_of_ble_eq_true rfl, ?_⟩
  refine wq_aload_n (kk := 0) (q := 1) rfl rfl rfl ?_
  refine wq_getI (kz := 0) (q := 4) rfl f_Lo_19 rfl rfl (Or.inl ⟨rfl, Nat.le_of_ble_eq_true rfl⟩) rfl rfl ?_
  refine wq_if_ne (tgt := 8) (q := 7) rfl rfl rfl (fun c4 => ?_) (fun c4 => ?_)
  · skip
    refine wq_aload_n (kk := 0) (q := 9) rfl rfl rfl ?_
    refine wq_dup (q := 10) rfl rfl rfl ?_
    refine wq_getI (kz := 0) (q := 13) rfl f_Lo_19 rfl rfl (Or.inl ⟨rfl, Nat.le_of_ble_eq_true rfl⟩) rfl rfl ?_
    refine wq_iconst (n := 1) (q := 14) rfl rfl rfl ?_
    refine wq_isub (q := 15) rfl rfl (by first | omega | (simp [hup] at *; omega)) (by first | omega | (simp [hup] at *; omega)) ?_
    refine wq_putI (kz := 0) (q := 18) rfl f_Lo_19 rfl rfl rfl (Or.inl ⟨rfl, Nat.le_of_ble_eq_true rfl⟩) rfl rfl ?_
    refine wq_aload_n (kk := 0) (q := 19) rfl rfl rfl ?_
    refine wq_getF (q := 22) f_Lo_13 rfl rfl (Nat.le_of_ble_eq_true rfl) rfl rfl rfl ?_
    refine wq_aload_n (kk := 0) (q := 23) rfl rfl rfl ?_
    refine wq_getI (kz := 0) (q := 26) rfl f_Lo_19 rfl rfl (Or.inl ⟨rfl, Nat.le_of_ble_eq_true rfl⟩) rfl rfl ?_
    refine wq_iald (q := 27) rfl (Or.inl ⟨rfl, Nat.le_of_ble_eq_true rfl⟩) rfl rfl (by first | omega | (simp [hup] at *; omega)) (by first | omega | (simp [hup] at *; omega)) ?_
    refine wq_istore_n (kk := 2) (q := 28) rfl rfl (Nat.le_of_ble_eq_true rfl) rfl ?_
    refine wq_aload_n (kk := 0) (q := 29) rfl rfl rfl ?_
    refine wq_getF (q := 32) f_Lo_9 rfl rfl (Nat.le_of_ble_eq_true rfl) rfl rfl rfl ?_
    refine wq_aload_n (kk := 0) (q := 33) rfl rfl rfl ?_
    refine wq_getI (kz := 0) (q := 36) rfl f_Lo_19 rfl rfl (Or.inl ⟨rfl, Nat.le_of_ble_eq_true rfl⟩) rfl rfl ?_
    refine wq_iald (q := 37) rfl (Or.inl ⟨rfl, Nat.le_of_ble_eq_true rfl⟩) rfl rfl (by first | omega | (simp [hup] at *; omega)) (by first | omega | (simp [hup] at *; omega)) ?_
    refine wq_tabL (tg := [68, 95, 113, 131]) (td := 149) rfl rfl rfl (fun c37 => ?_) (tab_c (fun c37 => ?_) (tab_c (fun c37 => ?_) (tab_c (fun c37 => ?_) (tab_c (fun c37 => ?_) (tab_n)))))
    · skip
      refine wq_aload_n (kk := 1) (q := 150) rfl rfl rfl ?_
      refine wq_iload_n (kk := 2) (q := 151) rfl rfl rfl ?_
      refine wq_putI (kz := 4) (q := 154) rfl f_Lo_41 rfl rfl rfl (Or.inl ⟨rfl, Nat.le_of_ble_eq_true rfl⟩) rfl rfl ?_
      refine wq_vret rfl rfl (Nat.le_refl _) (Nat.le_refl _) ?_
      refine ⟨rfl, ?_, rfl⟩
      simp [hup, unl] at *
      first | done | (simp_all; done) | (rw [if_neg (by omega), if_neg (by omega), if_neg (by omega), if_neg (by omega)])
    · skip
      refine wq_aload_n (kk := 1) (q := 69) rfl rfl rfl ?_
      refine wq_getF (q := 72) f_Lo_26 rfl rfl (Nat.le_of_ble_eq_true rfl) rfl rfl rfl ?_
      refine wq_iload_n (kk := 2) (q := 73) rfl rfl rfl ?_
      refine wq_aload_n (kk := 0) (q := 74) rfl rfl rfl ?_
      refine wq_getF (q := 77) f_Lo_16 rfl rfl (Nat.le_of_ble_eq_true rfl) rfl rfl rfl ?_
      refine wq_aload_n (kk := 0) (q := 78) rfl rfl rfl ?_
      refine wq_getI (kz := 0) (q := 81) rfl f_Lo_19 rfl rfl (Or.inl ⟨rfl, Nat.le_of_ble_eq_true rfl⟩) rfl rfl ?_
      refine wq_iald (q := 82) rfl (Or.inl ⟨rfl, Nat.le_of_ble_eq_true rfl⟩) rfl rfl (by first | omega | (simp [hup] at *; omega)) (by first | omega | (simp [hup] at *; omega)) ?_
      refine wq_iconst (n := 1) (q := 83) rfl rfl rfl ?_
      refine wq_icmp_ne (tgt := 90) (q := 86) rfl rfl rfl (fun c83 => ?_) (fun c83 => ?_)
      · skip
        refine wq_iconst (n := 0) (q := 91) rfl rfl rfl ?_
        refine wq_zast (q := 92) rfl (Or.inl ⟨rfl, Nat.le_of_ble_eq_true rfl⟩) rfl rfl (by first | omega | (simp [hup] at *; omega)) (by first | omega | (simp [hup] at *; omega)) (by omega) ?_
        refine wq_goto (tgt := 154) rfl rfl ?_
        refine wq_vret rfl rfl (Nat.le_refl _) (Nat.le_refl _) ?_
        refine ⟨rfl, ?_, rfl⟩
        simp [hup, unl] at *
        first | done | (simp_all; done) | (rw [if_neg (by omega), if_neg (by omega), if_neg (by omega), if_neg (by omega)])
      · skip
        refine wq_iconst (n := 1) (q := 87) rfl rfl rfl ?_
        refine wq_goto (tgt := 91) rfl rfl ?_
        refine wq_zast (q := 92) rfl (Or.inl ⟨rfl, Nat.le_of_ble_eq_true rfl⟩) rfl rfl (by first | omega | (simp [hup] at *; omega)) (by first | omega | (simp [hup] at *; omega)) (by omega) ?_
        refine wq_goto (tgt := 154) rfl rfl ?_
        refine wq_vret rfl rfl (Nat.le_refl _) (Nat.le_refl _) ?_
        refine ⟨rfl, ?_, rfl⟩
        simp [hup, unl] at *
        first | done | (simp_all; done) | (rw [if_neg (by omega), if_neg (by omega), if_neg (by omega), if_neg (by omega)])
    · skip
      refine wq_aload_n (kk := 1) (q := 96) rfl rfl rfl ?_
      refine wq_getF (q := 99) f_Lo_32 rfl rfl (Nat.le_of_ble_eq_true rfl) rfl rfl rfl ?_
      refine wq_iload_n (kk := 2) (q := 100) rfl rfl rfl ?_
      refine wq_aload_n (kk := 0) (q := 101) rfl rfl rfl ?_
      refine wq_getF (q := 104) f_Lo_16 rfl rfl (Nat.le_of_ble_eq_true rfl) rfl rfl rfl ?_
      refine wq_aload_n (kk := 0) (q := 105) rfl rfl rfl ?_
      refine wq_getI (kz := 0) (q := 108) rfl f_Lo_19 rfl rfl (Or.inl ⟨rfl, Nat.le_of_ble_eq_true rfl⟩) rfl rfl ?_
      refine wq_iald (q := 109) rfl (Or.inl ⟨rfl, Nat.le_of_ble_eq_true rfl⟩) rfl rfl (by first | omega | (simp [hup] at *; omega)) (by first | omega | (simp [hup] at *; omega)) ?_
      refine wq_iast (q := 110) rfl (Or.inl ⟨rfl, Nat.le_of_ble_eq_true rfl⟩) rfl rfl (by first | omega | (simp [hup] at *; omega)) (by first | omega | (simp [hup] at *; omega)) ?_
      refine wq_goto (tgt := 154) rfl rfl ?_
      refine wq_vret rfl rfl (Nat.le_refl _) (Nat.le_refl _) ?_
      refine ⟨rfl, ?_, rfl⟩
      simp [hup, unl] at *
      first | done | (simp_all; done) | (rw [if_neg (by omega), if_neg (by omega), if_neg (by omega), if_neg (by omega)])
    · skip
      refine wq_aload_n (kk := 1) (q := 114) rfl rfl rfl ?_
      refine wq_getF (q := 117) f_Lo_35 rfl rfl (Nat.le_of_ble_eq_true rfl) rfl rfl rfl ?_
      refine wq_iload_n (kk := 2) (q := 118) rfl rfl rfl ?_
      refine wq_aload_n (kk := 0) (q := 119) rfl rfl rfl ?_
      refine wq_getF (q := 122) f_Lo_16 rfl rfl (Nat.le_of_ble_eq_true rfl) rfl rfl rfl ?_
      refine wq_aload_n (kk := 0) (q := 123) rfl rfl rfl ?_
      refine wq_getI (kz := 0) (q := 126) rfl f_Lo_19 rfl rfl (Or.inl ⟨rfl, Nat.le_of_ble_eq_true rfl⟩) rfl rfl ?_
      refine wq_iald (q := 127) rfl (Or.inl ⟨rfl, Nat.le_of_ble_eq_true rfl⟩) rfl rfl (by first | omega | (simp [hup] at *; omega)) (by first | omega | (simp [hup] at *; omega)) ?_
      refine wq_iast (q := 128) rfl (Or.inl ⟨rfl, Nat.le_of_ble_eq_true rfl⟩) rfl rfl (by first | omega | (simp [hup] at *; omega)) (by first | omega | (simp [hup] at *; omega)) ?_
      refine wq_goto (tgt := 154) rfl rfl ?_
      refine wq_vret rfl rfl (Nat.le_refl _) (Nat.le_refl _) ?_
      refine ⟨rfl, ?_, rfl⟩
      simp [hup, unl] at *
      first | done | (simp_all; done) | (rw [if_neg (by omega), if_neg (by omega), if_neg (by omega), if_neg (by omega)])
    · skip
      refine wq_aload_n (kk := 1) (q := 132) rfl rfl rfl ?_
      refine wq_getF (q := 135) f_Lo_38 rfl rfl (Nat.le_of_ble_eq_true rfl) rfl rfl rfl ?_
      refine wq_iload_n (kk := 2) (q := 136) rfl rfl rfl ?_
      refine wq_aload_n (kk := 0) (q := 137) rfl rfl rfl ?_
      refine wq_getF (q := 140) f_Lo_16 rfl rfl (Nat.le_of_ble_eq_true rfl) rfl rfl rfl ?_
      refine wq_aload_n (kk := 0) (q := 141) rfl rfl rfl ?_
      refine wq_getI (kz := 0) (q := 144) rfl f_Lo_19 rfl rfl (Or.inl ⟨rfl, Nat.le_of_ble_eq_true rfl⟩) rfl rfl ?_
      refine wq_iald (q := 145) rfl (Or.inl ⟨rfl, Nat.le_of_ble_eq_true rfl⟩) rfl rfl (by first | omega | (simp [hup] at *; omega)) (by first | omega | (simp [hup] at *; omega)) ?_
      refine wq_iast (q := 146) rfl (Or.inl ⟨rfl, Nat.le_of_ble_eq_true rfl⟩) rfl rfl (by first | omega | (simp [hup] at *; omega)) (by first | omega | (simp [hup] at *; omega)) ?_
      refine wq_goto (tgt := 154) rfl rfl ?_
      refine wq_vret rfl rfl (Nat.le_refl _) (Nat.le_refl _) ?_
      refine ⟨rfl, ?_, rfl⟩
      simp [hup, unl] at *
      first | done | (simp_all; done) | (rw [if_neg (by omega), if_neg (by omega), if_neg (by omega), if_neg (by omega)])
  · skip
    refine wq_vret rfl rfl (Nat.le_refl _) (Nat.le_refl _) ?_
    refine ⟨rfl, ?_, rfl⟩
    simp [hup, unl] at *
    first | done | (simp_all; done) | (rw [if_neg (by omega), if_neg (by omega), if_neg (by omega), if_neg (by omega)])

set_option maxRecDepth 100000 in
theorem Wa_setEmpty_ok (t : Int) (h : mH) (r : mR) : Meets true (rm 1) m_Wa_setEmpty [vR 41, vI t] h r (pH (hup (hup (hup (hup h 41 0 0) 41 1 t) 41 2 t) 41 3 0) r) := by
  refine ⟨ok_Wa_setEmpty, Nat.le_of_ble_eq_true rfl, ?_⟩
  refine wq_aload_n (kk := 0) (q := 1) rfl rfl rfl ?_
  refine wq_iconst (n := 0) (q := 2) rfl rfl rfl ?_
  refine wq_putI (kz := 0) (q := 5) rfl f_Wa_15 rfl rfl rfl (Or.inl ⟨rfl, Nat.le_of_ble_eq_true rfl⟩) rfl rfl ?_
  refine wq_aload_n (kk := 0) (q := 6) rfl rfl rfl ?_
  refine wq_iload_n (kk := 1) (q := 7) rfl rfl rfl ?_
  refine wq_putI (kz := 1) (q := 10) rfl f_Wa_19 rfl rfl rfl (Or.inl ⟨rfl, Nat.le_of_ble_eq_true rfl⟩) rfl rfl ?_
  refine wq_aload_n (kk := 0) (q := 11) rfl rfl rfl ?_
  refine wq_iload_n (kk := 1) (q := 12) rfl rfl rfl ?_
  refine wq_putI (kz := 2) (q := 15) rfl f_Wa_22 rfl rfl rfl (Or.inl ⟨rfl, Nat.le_of_ble_eq_true rfl⟩) rfl rfl ?_
  refine wq_aload_n (kk := 0) (q := 16) rfl rfl rfl ?_
  refine wq_iconst (n := 0) (q := 17) rfl rfl rfl ?_
  refine wq_putI (kz := 3) (q := 20) rfl f_Wa_25 rfl rfl rfl (Or.inl ⟨rfl, Nat.le_of_ble_eq_true rfl⟩) rfl rfl ?_
  refine wq_vret rfl rfl (Nat.le_refl _) (Nat.le_refl _) ?_
  first | exact ⟨rfl, rfl, rfl⟩ | exact pB_t (by omega) | exact pB_f (by omega) | exact pC_t (by omega) | exact pC_f (by omega) | (exfalso; omega)
abbrev fbC : List Nat := [41, 42, 44, 45, 46, 47]
/-- what findBest() finds -/
def found (N : mN) (a b t : Int) (h1 : mH) (v : Int) : Prop := (a = b ∧ v = 1 ∧ h1 41 0 = 0 ∧ h1 41 1 = t ∧ h1 41 2 = t ∧ h1 41 3 = 0) ∨ (a ≠ b ∧ aimed N b h1 ∧ ∃ f, Bst N a b t 1000000 (h1 44) (h1 45) (h1 46) (h1 47) f ∧ (f = -1 ∧ v = 0 ∧ h1 41 0 = 0 ∨ f ≠ -1 ∧ v = 1 ∧ wayIs N h1 f))
abbrev fbQ (N : mN) (a b t : Int) (h : mH) (r : mR) : mP := fun rv h1 r1 => r1 = r ∧ fr fbC h h1 ∧ ∃ v, rv = some (vI v) ∧ found N a b t h1 v
theorem aimed.fr {S : List Nat} {h h1 : mH} {N : mN} {b : Int} (hA : aimed N b h) (f : fr S h h1) (hS : ∀ i ∈ seC, i ∉ S) : aimed N b h1 := by
  unfold aimed at *
  rw [f 44 (hS _ (by decide)), f 45 (hS _ (by decide)), f 46 (hS _ (by decide)), f 47 (hS _ (by decide))]
  exact hA
set_option maxRecDepth 100000 in
set_option maxHeartbeats 1000000 in
theorem Se_findBest_ok (N : mN) (a b t : Int) (h : mH) (r : mR) (hw : netW h r N) (ha : 0 ≤ a ∧ a < nS N) : Meets true (rm 5) m_Se_findBest [vR 40, vR 31, vI a, vI b, vI t] h r (fbQ N a b t h r) := by
  refine ⟨ok_Se_findBest, Nat.le_of_ble_eq_true rfl, ?_⟩
  refine wq_iload_n (kk := 2) (q := 1) rfl rfl rfl ?_
  refine wq_iload_n (kk := 3) (q := 2) rfl rfl rfl ?_
  refine wq_icmp_ne (tgt := 16) (q := 5) rfl rfl rfl (fun c2 => ?_) (fun c2 => ?_)
  · skip
    refine wq_aload_n (kk := 0) (q := 17) rfl rfl rfl ?_
    refine wq_aload_n (kk := 1) (q := 18) rfl rfl rfl ?_
    refine wq_iload_n (kk := 3) (q := 19) rfl rfl rfl ?_
    refine wq_callV (q := 22) (m' := m_Se_aim) (R' := rm 4) (As := [_, _]) rfl rfl l_Se_38 vm_Se_aim rfl rfl rfl (Or.inl ⟨rfl, Nat.le_of_ble_eq_true rfl⟩) (Nat.le_of_ble_eq_true rfl) (Nat.le_of_ble_eq_true rfl) (Nat.le_refl _) (Nat.le_refl _) (Nat.le_of_ble_eq_true rfl) (Se_aim_ok N b h r hw) rfl ?_
    rintro rv h1 r1 ⟨rfl, rfl, f1, hA⟩ -
    refine wq_aload_n (kk := 0) (q := 23) rfl rfl rfl ?_
    refine wq_aload_n (kk := 1) (q := 24) rfl rfl rfl ?_
    refine wq_iload_n (kk := 2) (q := 25) rfl rfl rfl ?_
    refine wq_iload (i := 4) (q := 27) rfl rfl rfl ?_
    refine wq_callV (q := 30) (m' := m_Se_trace) (R' := rm 3) (As := [_, _, _]) rfl rfl l_Se_42 vm_Se_trace rfl rfl rfl (Or.inl ⟨rfl, Nat.le_of_ble_eq_true rfl⟩) (Nat.le_of_ble_eq_true rfl) (Nat.le_of_ble_eq_true rfl) (Nat.le_refl _) (Nat.le_refl _) (Nat.le_of_ble_eq_true rfl) (Se_trace_ok N a t b h1 r1 (hw.fr f1 (by decide)) ha hA) rfl ?_
    rintro rv h2 r2 ⟨rfl, f2, f, hF, hcase⟩ -
    have hA2 : aimed N b h2 := hA.fr f2 (by decide)
    have hB : Bst N a b t 1000000 (h2 44) (h2 45) (h2 46) (h2 47) f := ⟨hA2.1, by omega, by rw [f2 44 (by decide), f2 45 (by decide), f2 46 (by decide)]; exact hF⟩
    have f3 : fr fbC h h2 := (f1.mono (by decide)).trans f2 (by decide)
    rcases hcase with ⟨z1, rfl, z2⟩ | ⟨z1, rfl, z2⟩
    · exact wq_zret rfl rfl (Nat.le_refl _) (Nat.le_refl _) (by omega) ⟨rfl, f3, 0, rfl, Or.inr ⟨c2, hA2, f, hB, Or.inl ⟨z1, rfl, z2⟩⟩⟩
    · exact wq_zret rfl rfl (Nat.le_refl _) (Nat.le_refl _) (by omega) ⟨rfl, f3, 1, rfl, Or.inr ⟨c2, hA2, f, hB, Or.inr ⟨z1, rfl, z2⟩⟩⟩
  · skip
    refine wq_aload_n (kk := 0) (q := 6) rfl rfl rfl ?_
    refine wq_getF (q := 9) f_Se_12 rfl rfl (Nat.le_of_ble_eq_true rfl) rfl rfl rfl ?_
    refine wq_iload (i := 4) (q := 11) rfl rfl rfl ?_
    refine wq_callV (q := 14) (m' := m_Wa_setEmpty) (R' := rm 1) (As := [_]) rfl rfl l_Se_34 vm_Wa_setEmpty rfl rfl rfl (Or.inl ⟨rfl, Nat.le_of_ble_eq_true rfl⟩) (Nat.le_of_ble_eq_true rfl) (Nat.le_of_ble_eq_true rfl) (Nat.le_refl _) (Nat.le_refl _) (Nat.le_of_ble_eq_true rfl) (Wa_setEmpty_ok t h r) rfl ?_
    rintro rv h1 r1 ⟨rfl, rfl, rfl⟩ -
    refine wq_iconst (n := 1) (q := 15) rfl rfl rfl ?_
    refine wq_zret rfl rfl (Nat.le_refl _) (Nat.le_refl _) (by omega) ⟨rfl, ((((fr.rf.up (by decide)).up (by decide)).up (by decide)).up (by decide)), 1, rfl, Or.inl ⟨by omega, rfl, ?_, ?_, ?_, ?_⟩⟩ <;> simp [hup]
/-- the way's departures are departures -/
theorem wayIs.row {N : mN} {b f : Int} {h : mH} (hA : aimed N b h) (hf : dp N f) (hr : rn N f = 1) (he : h 44 f ≠ 1000000) (hW : wayIs N h f) {i : Int} (i0 : 0 ≤ i) (i1 : i < h 46 f) : h 42 i = itr (h 47) i.toNat f ∧ dp N (h 42 i) ∧ rn N (h 42 i) = 1 := by
  have e : ((i.toNat : Nat) : Int) = i := by omega
  have h1 := hW.2.2.2.2 i.toNat (by omega)
  rw [e] at h1
  have h2 := itr_in hA hf hr he i.toNat (by omega)
  rw [h1]
  exact ⟨rfl, h2.1, h2.2.1⟩
set_option maxRecDepth 100000 in
set_option maxHeartbeats 1000000 in
theorem Wa_idleA (N : mN) (b f : Int) (h : mH) (r : mR) (hw : netW h r N) (hA : aimed N b h) (hf : dp N f) (hr : rn N f = 1) (he : h 44 f ≠ 1000000) (hW : wayIs N h f) : ∀ (M : Nat) (i k : Int), (h 46 f - i).toNat = M → 1 ≤ i → i ≤ h 46 f → k = idl N (h 47) f (i - 1) → WP (true, rm 1) m_Wa_idleTicks (rt m_Wa_idleTicks (rm 1) (pI (idl N (h 47) f (h 46 f - 1)) h r)) 4 [some (vR 41), some (vR 31), some (vI k), some (vI i)] [] h r (0, 0) := by
  intro M
  induction M using Nat.strongRecOn with
  | ind M ih =>
    intro i k hM i0 i1 hk
    have hb := (hA.2 f hf).2
    have hV := hw.2.1
    have hn := hV.1
    have hc := hW.1
    have row := fun (j : Int) (j0 : 0 ≤ j) (j1 : j < h 46 f) => hW.row hA hf hr he j0 j1
    have tim := fun (j : Int) (j0 : 0 ≤ j) (j1 : j < h 46 f) => hw.2.2.1.2.2.1 _ (row j j0 j1).2.1
    have val := fun (j : Int) (j0 : 0 ≤ j) (j1 : j < h 46 f) => hV.2.2.1 _ (row j j0 j1).2.1
    have hbd : -204000 ≤ k ∧ k ≤ 204000 := by
      have := sm_b (f := fun k => lv N (itr (h 47) (k.toNat + 1) f) - ar N (itr (h 47) k.toNat f)) (c := 1700) (by omega) (k := (i - 1).toNat) (fun d d0 d1 => by
        have v1 := val d d0 (by omega)
        have v2 := val (d + 1) (by omega) (by omega)
        have e1 := (row d d0 (by omega)).1
        have e2 := (row (d + 1) (by omega) (by omega)).1
        have e3 : (d + 1).toNat = d.toNat + 1 := by omega
        rw [e3] at e2
        rw [e1] at v1
        rw [e2] at v2
        omega)
      unfold idl at hk
      rw [hk]
      have e4 : (((i - 1).toNat : Nat) : Int) = i - 1 := by omega
      rw [e4] at this
      omega
    refine wq_iload_n (kk := 3) (q := 5) rfl rfl rfl ?_
    refine wq_aload_n (kk := 0) (q := 6) rfl rfl rfl ?_
    refine wq_getI (kz := 0) (q := 9) rfl f_Wa_15 rfl rfl (Or.inl ⟨rfl, Nat.le_of_ble_eq_true rfl⟩) rfl rfl ?_
    refine wq_icmp_ge (tgt := 46) (q := 12) rfl rfl rfl (fun c9 => ?_) (fun c9 => ?_)
    · skip
      refine wq_iload_n (kk := 2) (q := 47) rfl rfl rfl ?_
      have e : i = h 46 f := by omega
      subst e
      exact wq_iret rfl rfl (Nat.le_refl _) (Nat.le_refl _) ⟨by rw [hk], rfl, rfl⟩
    · skip
      refine wq_iload_n (kk := 2) (q := 13) rfl rfl rfl ?_
      refine wq_aload_n (kk := 1) (q := 14) rfl rfl rfl ?_
      refine wq_getF (q := 17) f_Wa_28 rfl rfl (Nat.le_of_ble_eq_true rfl) rfl rfl rfl ?_
      refine wq_aload_n (kk := 0) (q := 18) rfl rfl rfl ?_
      refine wq_getF (q := 21) f_Wa_9 rfl rfl (Nat.le_of_ble_eq_true rfl) rfl rfl rfl ?_
      refine wq_iload_n (kk := 3) (q := 22) rfl rfl rfl ?_
      refine wq_iald (q := 23) rfl (Or.inl ⟨rfl, Nat.le_of_ble_eq_true rfl⟩) rfl rfl (by first | omega | (have y := (row i (by omega) (by omega)).2.1; have y1 := y.1; have y2 := y.2; have z := (row (i - 1) (by omega) (by omega)).2.1; have z1 := z.1; have z2 := z.2; first | omega | (have w1 := tim i (by omega) (by omega); have w2 := tim (i - 1) (by omega) (by omega); have w3 := val i (by omega) (by omega); have w4 := val (i - 1) (by omega) (by omega); omega))) (by first | omega | (have y := (row i (by omega) (by omega)).2.1; have y1 := y.1; have y2 := y.2; have z := (row (i - 1) (by omega) (by omega)).2.1; have z1 := z.1; have z2 := z.2; first | omega | (have w1 := tim i (by omega) (by omega); have w2 := tim (i - 1) (by omega) (by omega); have w3 := val i (by omega) (by omega); have w4 := val (i - 1) (by omega) (by omega); omega))) ?_
      refine wq_iald (q := 24) rfl (Or.inl ⟨rfl, Nat.le_of_ble_eq_true rfl⟩) rfl rfl (by first | omega | (have y := (row i (by omega) (by omega)).2.1; have y1 := y.1; have y2 := y.2; have z := (row (i - 1) (by omega) (by omega)).2.1; have z1 := z.1; have z2 := z.2; first | omega | (have w1 := tim i (by omega) (by omega); have w2 := tim (i - 1) (by omega) (by omega); have w3 := val i (by omega) (by omega); have w4 := val (i - 1) (by omega) (by omega); omega))) (by first | omega | (have y := (row i (by omega) (by omega)).2.1; have y1 := y.1; have y2 := y.2; have z := (row (i - 1) (by omega) (by omega)).2.1; have z1 := z.1; have z2 := z.2; first | omega | (have w1 := tim i (by omega) (by omega); have w2 := tim (i - 1) (by omega) (by omega); have w3 := val i (by omega) (by omega); have w4 := val (i - 1) (by omega) (by omega); omega))) ?_
      refine wq_aload_n (kk := 1) (q := 25) rfl rfl rfl ?_
      refine wq_getF (q := 28) f_Wa_33 rfl rfl (Nat.le_of_ble_eq_true rfl) rfl rfl rfl ?_
      refine wq_aload_n (kk := 0) (q := 29) rfl rfl rfl ?_
      refine wq_getF (q := 32) f_Wa_9 rfl rfl (Nat.le_of_ble_eq_true rfl) rfl rfl rfl ?_
      refine wq_iload_n (kk := 3) (q := 33) rfl rfl rfl ?_
      refine wq_iconst (n := 1) (q := 34) rfl rfl rfl ?_
      refine wq_isub (q := 35) rfl rfl (by first | omega | (have y := (row i (by omega) (by omega)).2.1; have y1 := y.1; have y2 := y.2; have z := (row (i - 1) (by omega) (by omega)).2.1; have z1 := z.1; have z2 := z.2; first | omega | (have w1 := tim i (by omega) (by omega); have w2 := tim (i - 1) (by omega) (by omega); have w3 := val i (by omega) (by omega); have w4 := val (i - 1) (by omega) (by omega); omega))) (by first | omega | (have y := (row i (by omega) (by omega)).2.1; have y1 := y.1; have y2 := y.2; have z := (row (i - 1) (by omega) (by omega)).2.1; have z1 := z.1; have z2 := z.2; first | omega | (have w1 := tim i (by omega) (by omega); have w2 := tim (i - 1) (by omega) (by omega); have w3 := val i (by omega) (by omega); have w4 := val (i - 1) (by omega) (by omega); omega))) ?_
      refine wq_iald (q := 36) rfl (Or.inl ⟨rfl, Nat.le_of_ble_eq_true rfl⟩) rfl rfl (by first | omega | (have y := (row i (by omega) (by omega)).2.1; have y1 := y.1; have y2 := y.2; have z := (row (i - 1) (by omega) (by omega)).2.1; have z1 := z.1; have z2 := z.2; first | omega | (have w1 := tim i (by omega) (by omega); have w2 := tim (i - 1) (by omega) (by omega); have w3 := val i (by omega) (by omega); have w4 := val (i - 1) (by omega) (by omega); omega))) (by first | omega | (have y := (row i (by omega) (by omega)).2.1; have y1 := y.1; have y2 := y.2; have z := (row (i - 1) (by omega) (by omega)).2.1; have z1 := z.1; have z2 := z.2; first | omega | (have w1 := tim i (by omega) (by omega); have w2 := tim (i - 1) (by omega) (by omega); have w3 := val i (by omega) (by omega); have w4 := val (i - 1) (by omega) (by omega); omega))) ?_
      refine wq_iald (q := 37) rfl (Or.inl ⟨rfl, Nat.le_of_ble_eq_true rfl⟩) rfl rfl (by first | omega | (have y := (row i (by omega) (by omega)).2.1; have y1 := y.1; have y2 := y.2; have z := (row (i - 1) (by omega) (by omega)).2.1; have z1 := z.1; have z2 := z.2; first | omega | (have w1 := tim i (by omega) (by omega); have w2 := tim (i - 1) (by omega) (by omega); have w3 := val i (by omega) (by omega); have w4 := val (i - 1) (by omega) (by omega); omega))) (by first | omega | (have y := (row i (by omega) (by omega)).2.1; have y1 := y.1; have y2 := y.2; have z := (row (i - 1) (by omega) (by omega)).2.1; have z1 := z.1; have z2 := z.2; first | omega | (have w1 := tim i (by omega) (by omega); have w2 := tim (i - 1) (by omega) (by omega); have w3 := val i (by omega) (by omega); have w4 := val (i - 1) (by omega) (by omega); omega))) ?_
      refine wq_isub (q := 38) rfl rfl (by first | omega | (have y := (row i (by omega) (by omega)).2.1; have y1 := y.1; have y2 := y.2; have z := (row (i - 1) (by omega) (by omega)).2.1; have z1 := z.1; have z2 := z.2; first | omega | (have w1 := tim i (by omega) (by omega); have w2 := tim (i - 1) (by omega) (by omega); have w3 := val i (by omega) (by omega); have w4 := val (i - 1) (by omega) (by omega); omega))) (by first | omega | (have y := (row i (by omega) (by omega)).2.1; have y1 := y.1; have y2 := y.2; have z := (row (i - 1) (by omega) (by omega)).2.1; have z1 := z.1; have z2 := z.2; first | omega | (have w1 := tim i (by omega) (by omega); have w2 := tim (i - 1) (by omega) (by omega); have w3 := val i (by omega) (by omega); have w4 := val (i - 1) (by omega) (by omega); omega))) ?_
      refine wq_iadd (q := 39) rfl rfl (by first | omega | (have y := (row i (by omega) (by omega)).2.1; have y1 := y.1; have y2 := y.2; have z := (row (i - 1) (by omega) (by omega)).2.1; have z1 := z.1; have z2 := z.2; first | omega | (have w1 := tim i (by omega) (by omega); have w2 := tim (i - 1) (by omega) (by omega); have w3 := val i (by omega) (by omega); have w4 := val (i - 1) (by omega) (by omega); omega))) (by first | omega | (have y := (row i (by omega) (by omega)).2.1; have y1 := y.1; have y2 := y.2; have z := (row (i - 1) (by omega) (by omega)).2.1; have z1 := z.1; have z2 := z.2; first | omega | (have w1 := tim i (by omega) (by omega); have w2 := tim (i - 1) (by omega) (by omega); have w3 := val i (by omega) (by omega); have w4 := val (i - 1) (by omega) (by omega); omega))) ?_
      refine wq_istore_n (kk := 2) (q := 40) rfl rfl (Nat.le_of_ble_eq_true rfl) rfl ?_
      refine wq_iinc (i := 3) (n := 1) (q := 43) rfl rfl rfl (Nat.le_of_ble_eq_true rfl) rfl (by first | omega | (have y := (row i (by omega) (by omega)).2.1; have y1 := y.1; have y2 := y.2; have z := (row (i - 1) (by omega) (by omega)).2.1; have z1 := z.1; have z2 := z.2; first | omega | (have w1 := tim i (by omega) (by omega); have w2 := tim (i - 1) (by omega) (by omega); have w3 := val i (by omega) (by omega); have w4 := val (i - 1) (by omega) (by omega); omega))) (by first | omega | (have y := (row i (by omega) (by omega)).2.1; have y1 := y.1; have y2 := y.2; have z := (row (i - 1) (by omega) (by omega)).2.1; have z1 := z.1; have z2 := z.2; first | omega | (have w1 := tim i (by omega) (by omega); have w2 := tim (i - 1) (by omega) (by omega); have w3 := val i (by omega) (by omega); have w4 := val (i - 1) (by omega) (by omega); omega))) ?_
      refine wq_goto (tgt := 4) rfl rfl ?_
      have w1 := tim i (by omega) (by omega)
      have w2 := tim (i - 1) (by omega) (by omega)
      have e1 := (row i (by omega) (by omega)).1
      have e2 := (row (i - 1) (by omega) (by omega)).1
      refine ih _ ?_ (i + 1) _ rfl (by omega) (by omega) ?_
      · omega
      · rw [hk, w1.1, w2.2.1]
        have e3 : i + 1 - 1 = (i - 1) + 1 := by omega
        rw [e3]
        unfold idl
        rw [sm_s (by omega)]
        have e4 : (i - 1).toNat + 1 = i.toNat := by omega
        rw [e4, ← e1, ← e2]
set_option maxRecDepth 100000 in
theorem Wa_idleTicks_ok (N : mN) (b f : Int) (h : mH) (r : mR) (hw : netW h r N) (hA : aimed N b h) (hf : dp N f) (hr : rn N f = 1) (he : h 44 f ≠ 1000000) (hW : wayIs N h f) : Meets true (rm 1) m_Wa_idleTicks [vR 41, vR 31] h r (pI (idl N (h 47) f (h 46 f - 1)) h r) := by
  have hb := (hA.2 f hf).2
  refine ⟨ok_Wa_idleTicks, Nat.le_of_ble_eq_true rfl, ?_⟩
  refine wq_iconst (n := 0) (q := 1) rfl rfl rfl ?_
  refine wq_istore_n (kk := 2) (q := 2) rfl rfl (Nat.le_of_ble_eq_true rfl) rfl ?_
  refine wq_iconst (n := 1) (q := 3) rfl rfl rfl ?_
  refine wq_istore_n (kk := 3) (q := 4) rfl rfl (Nat.le_of_ble_eq_true rfl) rfl ?_
  exact Wa_idleA N b f h r hw hA hf hr he hW _ 1 0 rfl (by omega) (by omega) rfl
set_option maxRecDepth 100000 in
theorem Wa_idle0_ok (h : mH) (r : mR) (h0 : h 41 0 = 0) : Meets true (rm 1) m_Wa_idleTicks [vR 41, vR 31] h r (pI 0 h r) := by
  refine ⟨ok_Wa_idleTicks, Nat.le_of_ble_eq_true rfl, ?_⟩
  refine wq_iconst (n := 0) (q := 1) rfl rfl rfl ?_
  refine wq_istore_n (kk := 2) (q := 2) rfl rfl (Nat.le_of_ble_eq_true rfl) rfl ?_
  refine wq_iconst (n := 1) (q := 3) rfl rfl rfl ?_
  refine wq_istore_n (kk := 3) (q := 4) rfl rfl (Nat.le_of_ble_eq_true rfl) rfl ?_
  refine wq_iload_n (kk := 3) (q := 5) rfl rfl rfl ?_
  refine wq_aload_n (kk := 0) (q := 6) rfl rfl rfl ?_
  refine wq_getI (kz := 0) (q := 9) rfl f_Wa_15 rfl rfl (Or.inl ⟨rfl, Nat.le_of_ble_eq_true rfl⟩) rfl rfl ?_
  refine wq_icmp_ge (tgt := 46) (q := 12) rfl rfl rfl (fun c9 => ?_) (fun c9 => ?_)
  · skip
    refine wq_iload_n (kk := 2) (q := 47) rfl rfl rfl ?_
    refine wq_iret rfl rfl (Nat.le_refl _) (Nat.le_refl _) ?_
    first | exact ⟨rfl, rfl, rfl⟩ | exact pB_t (by omega) | exact pB_f (by omega) | exact pC_t (by omega) | exact pC_f (by omega) | (exfalso; omega)
  · skip
    exfalso
    omega
set_option maxRecDepth 100000 in
set_option maxHeartbeats 1000000 in
theorem Se_addTA (N : mN) (b f : Int) (h : mH) (r : mR) (hw : netW h r N) (hA : aimed N b h) (hf : dp N f) (hr : rn N f = 1) (he : h 44 f ≠ 1000000) (hW : wayIs N h f) (h43 : ∀ s, 0 ≤ s → s < nS N → 0 ≤ h 43 s ∧ h 43 s ≤ 100000) : ∀ (M : Nat) (i : Int) (h' : mH), (h 46 f - i).toNat = M → 1 ≤ i → i ≤ h 46 f → fr [43] h h' → (∀ s, 0 ≤ s → s < nS N → h' 43 s = h 43 s + tcn N (h 47) f (i - 1) s) → WP (true, rm 2) m_Se_addTurns (rt m_Se_addTurns (rm 2) (fun rv h1 r1 => rv = none ∧ r1 = r ∧ fr [43] h h1 ∧ ∀ s, 0 ≤ s → s < nS N → h1 43 s = h 43 s + tcn N (h 47) f (h 46 f - 1) s)) 2 [some (vR 40), some (vR 31), some (vI i)] [] h' r (0, 0) := by
  intro M
  induction M using Nat.strongRecOn with
  | ind M ih =>
    intro i h' hM i0 i1 hfr hx
    obtain ⟨hnde, hV, hN, hO, hG⟩ := id hw
    have hb := (hA.2 f hf).2
    have hn := hV.1
    have hS := hV.2.1
    have hc := hW.1
    have hw' : netW h' r N := hw.fr hfr (by decide)
    have e41 : h' 41 0 = h 46 f := by rw [hfr.at 41 0 (by decide)]; exact hc
    have e42 : h' 42 = h 42 := hfr 42 (by decide)
    have row := fun (j : Int) (j0 : 0 ≤ j) (j1 : j < h 46 f) => hW.row hA hf hr he j0 j1
    have e6 := fun (y : i < h 46 f) => (hw'.2.2.1.2.2.1 _ (row i (by omega) y).2.1).2.2.1
    have fb := fun (y : i < h 46 f) => (hV.2.2.1 _ (row i (by omega) y).2.1).1
    have stp : ∀ s, i < h 46 f → tcn N (h 47) f (i + 1 - 1) s = tcn N (h 47) f (i - 1) s + (if (decide (ln N (h 42 (i - 1)) ≠ ln N (h 42 i)) && decide (frm N (h 42 i) = s)) then 1 else 0) := fun s y => by
      have e3 : i + 1 - 1 = (i - 1) + 1 := by omega
      rw [e3]
      unfold tcn
      rw [cn_s (by omega)]
      have e4 : (i - 1).toNat + 1 = i.toNat := by omega
      rw [e4, ← (row i (by omega) y).1, ← (row (i - 1) (by omega) (by omega)).1]
    have bd : ∀ s, 0 ≤ tcn N (h 47) f (i - 1) s ∧ tcn N (h 47) f (i - 1) s ≤ 120 := fun s => by
      have := cn_b (fun k => decide (ln N (itr (h 47) k.toNat f) ≠ ln N (itr (h 47) (k.toNat + 1) f)) && decide (frm N (itr (h 47) (k.toNat + 1) f) = s)) (i - 1).toNat
      unfold tcn
      omega
    refine wq_iload_n (kk := 2) (q := 3) rfl rfl rfl ?_
    refine wq_aload_n (kk := 0) (q := 4) rfl rfl rfl ?_
    refine wq_getF (q := 7) f_Se_12 rfl rfl (Nat.le_of_ble_eq_true rfl) rfl rfl rfl ?_
    refine wq_getI (kz := 0) (q := 10) rfl f_Se_62 rfl rfl (Or.inl ⟨rfl, Nat.le_of_ble_eq_true rfl⟩) rfl rfl ?_
    refine wq_icmp_ge (tgt := 72) (q := 13) rfl rfl rfl (fun c10 => ?_) (fun c10 => ?_)
    · skip
      have e : i = h 46 f := by omega
      subst e
      exact wq_vret rfl rfl (Nat.le_refl _) (Nat.le_refl _) ⟨rfl, rfl, hfr, hx⟩
    · skip
      refine wq_aload_n (kk := 1) (q := 14) rfl rfl rfl ?_
      refine wq_aload_n (kk := 0) (q := 15) rfl rfl rfl ?_
      refine wq_getF (q := 18) f_Se_12 rfl rfl (Nat.le_of_ble_eq_true rfl) rfl rfl rfl ?_
      refine wq_getF (q := 21) f_Se_65 rfl rfl (Nat.le_of_ble_eq_true rfl) rfl rfl rfl ?_
      refine wq_iload_n (kk := 2) (q := 22) rfl rfl rfl ?_
      refine wq_iconst (n := 1) (q := 23) rfl rfl rfl ?_
      refine wq_isub (q := 24) rfl rfl (by first | omega | (rw [e42]; have y := (row i (by omega) (by omega)).2.1; have y1 := y.1; have y2 := y.2; have y3 := e6 (by omega); have y4 := fb (by omega); first | omega | (rw [y3]; omega) | (rw [y3, hx _ y4.1 y4.2]; have := bd (frm N (h 42 i)); have := h43 _ y4.1 y4.2; omega))) (by first | omega | (rw [e42]; have y := (row i (by omega) (by omega)).2.1; have y1 := y.1; have y2 := y.2; have y3 := e6 (by omega); have y4 := fb (by omega); first | omega | (rw [y3]; omega) | (rw [y3, hx _ y4.1 y4.2]; have := bd (frm N (h 42 i)); have := h43 _ y4.1 y4.2; omega))) ?_
      refine wq_iald (q := 25) rfl (Or.inl ⟨rfl, Nat.le_of_ble_eq_true rfl⟩) rfl rfl (by first | omega | (rw [e42]; have y := (row i (by omega) (by omega)).2.1; have y1 := y.1; have y2 := y.2; have y3 := e6 (by omega); have y4 := fb (by omega); first | omega | (rw [y3]; omega) | (rw [y3, hx _ y4.1 y4.2]; have := bd (frm N (h 42 i)); have := h43 _ y4.1 y4.2; omega))) (by first | omega | (rw [e42]; have y := (row i (by omega) (by omega)).2.1; have y1 := y.1; have y2 := y.2; have y3 := e6 (by omega); have y4 := fb (by omega); first | omega | (rw [y3]; omega) | (rw [y3, hx _ y4.1 y4.2]; have := bd (frm N (h 42 i)); have := h43 _ y4.1 y4.2; omega))) ?_
      refine wq_aload_n (kk := 0) (q := 26) rfl rfl rfl ?_
      refine wq_getF (q := 29) f_Se_12 rfl rfl (Nat.le_of_ble_eq_true rfl) rfl rfl rfl ?_
      refine wq_getF (q := 32) f_Se_65 rfl rfl (Nat.le_of_ble_eq_true rfl) rfl rfl rfl ?_
      refine wq_iload_n (kk := 2) (q := 33) rfl rfl rfl ?_
      refine wq_iald (q := 34) rfl (Or.inl ⟨rfl, Nat.le_of_ble_eq_true rfl⟩) rfl rfl (by first | omega | (rw [e42]; have y := (row i (by omega) (by omega)).2.1; have y1 := y.1; have y2 := y.2; have y3 := e6 (by omega); have y4 := fb (by omega); first | omega | (rw [y3]; omega) | (rw [y3, hx _ y4.1 y4.2]; have := bd (frm N (h 42 i)); have := h43 _ y4.1 y4.2; omega))) (by first | omega | (rw [e42]; have y := (row i (by omega) (by omega)).2.1; have y1 := y.1; have y2 := y.2; have y3 := e6 (by omega); have y4 := fb (by omega); first | omega | (rw [y3]; omega) | (rw [y3, hx _ y4.1 y4.2]; have := bd (frm N (h 42 i)); have := h43 _ y4.1 y4.2; omega))) ?_
      rw [e42]
      refine wq_callV (q := 37) (m' := m_Ne_isTurn) (R' := rm 1) (As := [_, _]) rfl rfl l_Se_68 vm_Ne_isTurn rfl rfl rfl (Or.inl ⟨rfl, Nat.le_of_ble_eq_true rfl⟩) (Nat.le_of_ble_eq_true rfl) (Nat.le_of_ble_eq_true rfl) (Nat.le_refl _) (Nat.le_refl _) (Nat.le_of_ble_eq_true rfl) (Ne_isTurn_ok N (h 42 (i - 1)) (h 42 i) h' r hnde hV hw'.2.2.1 (row (i - 1) (by omega) (by omega)).2.1 (row i (by omega) (by omega)).2.1) rfl ?_
      rintro rv h' r' ⟨rfl, rfl, rfl⟩ -
      refine wq_cif_eq (tgt := 66) (q := 40) rfl rfl rfl (fun c37 => ?_) (fun c37 => ?_)
      · skip
        refine wq_iinc (i := 2) (n := 1) (q := 69) rfl rfl rfl (Nat.le_of_ble_eq_true rfl) rfl (by first | omega | (rw [e42]; have y := (row i (by omega) (by omega)).2.1; have y1 := y.1; have y2 := y.2; have y3 := e6 (by omega); have y4 := fb (by omega); first | omega | (rw [y3]; omega) | (rw [y3, hx _ y4.1 y4.2]; have := bd (frm N (h 42 i)); have := h43 _ y4.1 y4.2; omega))) (by first | omega | (rw [e42]; have y := (row i (by omega) (by omega)).2.1; have y1 := y.1; have y2 := y.2; have y3 := e6 (by omega); have y4 := fb (by omega); first | omega | (rw [y3]; omega) | (rw [y3, hx _ y4.1 y4.2]; have := bd (frm N (h 42 i)); have := h43 _ y4.1 y4.2; omega))) ?_
        refine wq_goto (tgt := 2) rfl rfl ?_
        have y3 := e6 (by omega)
        have y4 := fb (by omega)
        first
          | (refine ih _ ?_ (i + 1) _ rfl (by omega) (by omega) hfr (fun s s0 s1 => ?_)
             · omega
             · rw [stp s (by omega), hx s s0 s1]
               have q : ln N (h 42 (i - 1)) = ln N (h 42 i) := Classical.byContradiction c37
               simp [q])
          | (refine ih _ ?_ (i + 1) _ rfl (by omega) (by omega) (hfr.up (by decide)) (fun s s0 s1 => ?_)
             · omega
             · rw [stp s (by omega), e42, y3]
               by_cases es : s = frm N (h 42 i)
               · subst es
                 rw [hup_s, hx _ s0 s1]
                 simp [c37]
                 omega
               · rw [hup_j es, hx s s0 s1]
                 have q : ¬ frm N (h 42 i) = s := fun z => es z.symm
                 simp [q])
      · skip
        refine wq_aload_n (kk := 0) (q := 41) rfl rfl rfl ?_
        refine wq_getF (q := 44) f_Se_18 rfl rfl (Nat.le_of_ble_eq_true rfl) rfl rfl rfl ?_
        refine wq_aload_n (kk := 1) (q := 45) rfl rfl rfl ?_
        refine wq_getR (q := 48) f_Se_46 rfl rfl (Or.inl ⟨rfl, Nat.le_of_ble_eq_true rfl⟩) hnde rfl rfl ?_
        refine wq_getF (q := 51) f_Se_72 rfl rfl (Nat.le_of_ble_eq_true rfl) rfl rfl rfl ?_
        refine wq_aload_n (kk := 0) (q := 52) rfl rfl rfl ?_
        refine wq_getF (q := 55) f_Se_12 rfl rfl (Nat.le_of_ble_eq_true rfl) rfl rfl rfl ?_
        refine wq_getF (q := 58) f_Se_65 rfl rfl (Nat.le_of_ble_eq_true rfl) rfl rfl rfl ?_
        refine wq_iload_n (kk := 2) (q := 59) rfl rfl rfl ?_
        refine wq_iald (q := 60) rfl (Or.inl ⟨rfl, Nat.le_of_ble_eq_true rfl⟩) rfl rfl (by first | omega | (rw [e42]; have y := (row i (by omega) (by omega)).2.1; have y1 := y.1; have y2 := y.2; have y3 := e6 (by omega); have y4 := fb (by omega); first | omega | (rw [y3]; omega) | (rw [y3, hx _ y4.1 y4.2]; have := bd (frm N (h 42 i)); have := h43 _ y4.1 y4.2; omega))) (by first | omega | (rw [e42]; have y := (row i (by omega) (by omega)).2.1; have y1 := y.1; have y2 := y.2; have y3 := e6 (by omega); have y4 := fb (by omega); first | omega | (rw [y3]; omega) | (rw [y3, hx _ y4.1 y4.2]; have := bd (frm N (h 42 i)); have := h43 _ y4.1 y4.2; omega))) ?_
        refine wq_iald (q := 61) rfl (Or.inl ⟨rfl, Nat.le_of_ble_eq_true rfl⟩) rfl rfl (by first | omega | (rw [e42]; have y := (row i (by omega) (by omega)).2.1; have y1 := y.1; have y2 := y.2; have y3 := e6 (by omega); have y4 := fb (by omega); first | omega | (rw [y3]; omega) | (rw [y3, hx _ y4.1 y4.2]; have := bd (frm N (h 42 i)); have := h43 _ y4.1 y4.2; omega))) (by first | omega | (rw [e42]; have y := (row i (by omega) (by omega)).2.1; have y1 := y.1; have y2 := y.2; have y3 := e6 (by omega); have y4 := fb (by omega); first | omega | (rw [y3]; omega) | (rw [y3, hx _ y4.1 y4.2]; have := bd (frm N (h 42 i)); have := h43 _ y4.1 y4.2; omega))) ?_
        refine wq_dup2 (q := 62) rfl rfl rfl rfl ?_
        refine wq_iald (q := 63) rfl (Or.inl ⟨rfl, Nat.le_of_ble_eq_true rfl⟩) rfl rfl (by first | omega | (rw [e42]; have y := (row i (by omega) (by omega)).2.1; have y1 := y.1; have y2 := y.2; have y3 := e6 (by omega); have y4 := fb (by omega); first | omega | (rw [y3]; omega) | (rw [y3, hx _ y4.1 y4.2]; have := bd (frm N (h 42 i)); have := h43 _ y4.1 y4.2; omega))) (by first | omega | (rw [e42]; have y := (row i (by omega) (by omega)).2.1; have y1 := y.1; have y2 := y.2; have y3 := e6 (by omega); have y4 := fb (by omega); first | omega | (rw [y3]; omega) | (rw [y3, hx _ y4.1 y4.2]; have := bd (frm N (h 42 i)); have := h43 _ y4.1 y4.2; omega))) ?_
        refine wq_iconst (n := 1) (q := 64) rfl rfl rfl ?_
        refine wq_iadd (q := 65) rfl rfl (by first | omega | (rw [e42]; have y := (row i (by omega) (by omega)).2.1; have y1 := y.1; have y2 := y.2; have y3 := e6 (by omega); have y4 := fb (by omega); first | omega | (rw [y3]; omega) | (rw [y3, hx _ y4.1 y4.2]; have := bd (frm N (h 42 i)); have := h43 _ y4.1 y4.2; omega))) (by first | omega | (rw [e42]; have y := (row i (by omega) (by omega)).2.1; have y1 := y.1; have y2 := y.2; have y3 := e6 (by omega); have y4 := fb (by omega); first | omega | (rw [y3]; omega) | (rw [y3, hx _ y4.1 y4.2]; have := bd (frm N (h 42 i)); have := h43 _ y4.1 y4.2; omega))) ?_
        refine wq_iast (q := 66) rfl (Or.inl ⟨rfl, Nat.le_of_ble_eq_true rfl⟩) rfl rfl (by first | omega | (rw [e42]; have y := (row i (by omega) (by omega)).2.1; have y1 := y.1; have y2 := y.2; have y3 := e6 (by omega); have y4 := fb (by omega); first | omega | (rw [y3]; omega) | (rw [y3, hx _ y4.1 y4.2]; have := bd (frm N (h 42 i)); have := h43 _ y4.1 y4.2; omega))) (by first | omega | (rw [e42]; have y := (row i (by omega) (by omega)).2.1; have y1 := y.1; have y2 := y.2; have y3 := e6 (by omega); have y4 := fb (by omega); first | omega | (rw [y3]; omega) | (rw [y3, hx _ y4.1 y4.2]; have := bd (frm N (h 42 i)); have := h43 _ y4.1 y4.2; omega))) ?_
        refine wq_iinc (i := 2) (n := 1) (q := 69) rfl rfl rfl (Nat.le_of_ble_eq_true rfl) rfl (by first | omega | (rw [e42]; have y := (row i (by omega) (by omega)).2.1; have y1 := y.1; have y2 := y.2; have y3 := e6 (by omega); have y4 := fb (by omega); first | omega | (rw [y3]; omega) | (rw [y3, hx _ y4.1 y4.2]; have := bd (frm N (h 42 i)); have := h43 _ y4.1 y4.2; omega))) (by first | omega | (rw [e42]; have y := (row i (by omega) (by omega)).2.1; have y1 := y.1; have y2 := y.2; have y3 := e6 (by omega); have y4 := fb (by omega); first | omega | (rw [y3]; omega) | (rw [y3, hx _ y4.1 y4.2]; have := bd (frm N (h 42 i)); have := h43 _ y4.1 y4.2; omega))) ?_
        refine wq_goto (tgt := 2) rfl rfl ?_
        have y3 := e6 (by omega)
        have y4 := fb (by omega)
        first
          | (refine ih _ ?_ (i + 1) _ rfl (by omega) (by omega) hfr (fun s s0 s1 => ?_)
             · omega
             · rw [stp s (by omega), hx s s0 s1]
               have q : ln N (h 42 (i - 1)) = ln N (h 42 i) := Classical.byContradiction c37
               simp [q])
          | (refine ih _ ?_ (i + 1) _ rfl (by omega) (by omega) (hfr.up (by decide)) (fun s s0 s1 => ?_)
             · omega
             · rw [stp s (by omega), e42, y3]
               by_cases es : s = frm N (h 42 i)
               · subst es
                 rw [hup_s, hx _ s0 s1]
                 simp [c37]
                 omega
               · rw [hup_j es, hx s s0 s1]
                 have q : ¬ frm N (h 42 i) = s := fun z => es z.symm
                 simp [q])
set_option maxRecDepth 100000 in
theorem Se_addTurns_ok (N : mN) (b f : Int) (h : mH) (r : mR) (hw : netW h r N) (hA : aimed N b h) (hf : dp N f) (hr : rn N f = 1) (he : h 44 f ≠ 1000000) (hW : wayIs N h f) (h43 : ∀ s, 0 ≤ s → s < nS N → 0 ≤ h 43 s ∧ h 43 s ≤ 100000) : Meets true (rm 2) m_Se_addTurns [vR 40, vR 31] h r (fun rv h1 r1 => rv = none ∧ r1 = r ∧ fr [43] h h1 ∧ ∀ s, 0 ≤ s → s < nS N → h1 43 s = h 43 s + tcn N (h 47) f (h 46 f - 1) s) := by
  have hb := (hA.2 f hf).2
  refine ⟨ok_Se_addTurns, Nat.le_of_ble_eq_true rfl, ?_⟩
  refine wq_iconst (n := 1) (q := 1) rfl rfl rfl ?_
  refine wq_istore_n (kk := 2) (q := 2) rfl rfl (Nat.le_of_ble_eq_true rfl) rfl ?_
  refine Se_addTA N b f h r hw hA hf hr he hW h43 _ 1 h rfl (by omega) (by omega) fr.rf (fun s s0 s1 => ?_)
  show h 43 s = h 43 s + 0
  omega

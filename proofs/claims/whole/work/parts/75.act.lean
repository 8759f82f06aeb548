/-! LinkTimes: acts, undo -/
abbrev acQ (h : mH) (r : mR) (k : Int) (F : Int → mH → Prop) : mP := fun rv h1 r1 => ∃ v, rv = some (vI v) ∧ r1 = r ∧ ((k ≠ 0 ∧ v = -1 ∧ h1 = hup h 0 12 k) ∨ (k = 0 ∧ F v h1))
theorem acQ.no {h : mH} {r : mR} {k c : Int} {F : Int → mH → Prop} (hk : k = c) (hc : c ≠ 0) : acQ h r k F (some (vI (-1))) (hup h 0 12 c) r := ⟨_, rfl, rfl, Or.inl ⟨by omega, rfl, by rw [hk]⟩⟩
/-- an act that puts a number somewhere -/
def put1 (h : mH) (kind : Int) (c : Nat) (i w : Int) (h1 : mH) : Prop := ∃ h2, noted h h2 kind i (h c i) ∧ h1 = hup (hup h2 c i w) 0 12 0
theorem noted.fr {h h1 : mH} {k n b : Int} (hn : noted h h1 k n b) : fr [27, 28, 29, 30] h h1 := by
  obtain ⟨s, -, f, -⟩ := hn
  exact f
def kS (n m o d : Int) : Int := if 0 ≤ d ∧ d < n then (if m = o then 5 else 0) else 1
noncomputable def kW (P Q : Prop) : Int := if bI P = 0 then 1 else if bI Q = 0 then 2 else 0
theorem kW_1 {P Q : Prop} (h : ¬ P) : kW P Q = 1 := by unfold kW; rw [bI_f h]; rfl
theorem kW_2 {P Q : Prop} (h : P) (hq : ¬ Q) : kW P Q = 2 := by unfold kW; rw [bI_t h, bI_f hq]; rfl
theorem kW_0 {P Q : Prop} (h : P) (hq : Q) : kW P Q = 0 := by unfold kW; rw [bI_t h, bI_t hq]; rfl
set_option maxRecDepth 100000 in
set_option maxHeartbeats 1000000 in
theorem Lt_setOff_ok (d o : Int) (ho : o = 0 ∨ o = 1) (h : mH) (r : mR) (hI : IQ h r) (hL : 0 ≤ h 27 0 ∧ h 27 0 ≤ 10) : Meets true (rm 3) m_Lt_setOff [vR 0, vI d, vI o] h r (acQ h r (kS (h 2 4) (h 12 d) o d) (fun v h1 => put1 h 0 12 d o h1 ∧ v = cn (fun d => h1 12 d == 0) (h1 2 4).toNat)) := by
  have hcur := hI.2.2.2.1
  have hN := hI.1.1
  have hD := hI.1.2.2.1 d
  refine ⟨ok_Lt_setOff, Nat.le_of_ble_eq_true rfl, ?_⟩
  refine wq_aload_n (kk := 0) (q := 1) rfl rfl rfl ?_
  refine wq_getR (q := 4) f_Lt_16 rfl rfl (Or.inl ⟨rfl, Nat.le_of_ble_eq_true rfl⟩) hcur rfl rfl ?_
  refine wq_iload_n (kk := 1) (q := 5) rfl rfl rfl ?_
  refine wq_callV (q := 8) (m' := m_De_hasDeparture) (R' := rm 1) (As := [_]) rfl rfl l_Lt_156 vm_De_hasDeparture rfl rfl rfl (Or.inl ⟨rfl, Nat.le_of_ble_eq_true rfl⟩) (Nat.le_of_ble_eq_true rfl) (Nat.le_of_ble_eq_true rfl) (Nat.le_refl _) (Nat.le_refl _) (Nat.le_of_ble_eq_true rfl) (De_hasDeparture_ok d h r) rfl ?_
  rintro rv h r ⟨rfl, rfl, rfl⟩ -
  refine wq_cif_ne (tgt := 17) (q := 11) rfl rfl rfl (fun c8 => ?_) (fun c8 => ?_)
  · skip
    refine wq_aload_n (kk := 0) (q := 18) rfl rfl rfl ?_
    refine wq_getR (q := 21) f_Lt_16 rfl rfl (Or.inl ⟨rfl, Nat.le_of_ble_eq_true rfl⟩) hcur rfl rfl ?_
    refine wq_getF (q := 24) f_Lt_177 rfl rfl (Nat.le_of_ble_eq_true rfl) rfl rfl rfl ?_
    refine wq_iload_n (kk := 1) (q := 25) rfl rfl rfl ?_
    refine wq_zald (q := 26) rfl (Or.inl ⟨rfl, Nat.le_of_ble_eq_true rfl⟩) rfl rfl (by first | omega | (simp [hup]; omega)) (by first | omega | (simp [hup]; omega)) ?_
    refine wq_iload_n (kk := 2) (q := 27) rfl rfl rfl ?_
    refine wq_icmp_ne (tgt := 36) (q := 30) rfl rfl rfl (fun c27 => ?_) (fun c27 => ?_)
    · skip
      refine wq_aload_n (kk := 0) (q := 37) rfl rfl rfl ?_
      refine wq_getF (q := 40) f_Lt_35 rfl rfl (Nat.le_of_ble_eq_true rfl) rfl rfl rfl ?_
      refine wq_iconst (n := 0) (q := 41) rfl rfl rfl ?_
      refine wq_iload_n (kk := 1) (q := 42) rfl rfl rfl ?_
      refine wq_aload_n (kk := 0) (q := 43) rfl rfl rfl ?_
      refine wq_getR (q := 46) f_Lt_16 rfl rfl (Or.inl ⟨rfl, Nat.le_of_ble_eq_true rfl⟩) hcur rfl rfl ?_
      refine wq_getF (q := 49) f_Lt_177 rfl rfl (Nat.le_of_ble_eq_true rfl) rfl rfl rfl ?_
      refine wq_iload_n (kk := 1) (q := 50) rfl rfl rfl ?_
      refine wq_zald (q := 51) rfl (Or.inl ⟨rfl, Nat.le_of_ble_eq_true rfl⟩) rfl rfl (by first | omega | (simp [hup]; omega)) (by first | omega | (simp [hup]; omega)) ?_
      refine wq_if_eq (tgt := 58) (q := 54) rfl rfl rfl (fun c51 => ?_) (fun c51 => ?_)
      · skip
        refine wq_iconst (n := 0) (q := 59) rfl rfl rfl ?_
        refine wq_callV (q := 62) (m' := m_Lo_note) (R' := rm 2) (As := [_, _, _]) rfl rfl l_Lt_334 vm_Lo_note rfl rfl rfl (Or.inl ⟨rfl, Nat.le_of_ble_eq_true rfl⟩) (Nat.le_of_ble_eq_true rfl) (Nat.le_of_ble_eq_true rfl) (Nat.le_refl _) (Nat.le_refl _) (Nat.le_of_ble_eq_true rfl) (Lo_note_ok 0 d _ h r hL) rfl ?_
        rintro rv h2 r ⟨rfl, rfl, hn0⟩ -
        have hd := hD (by omega) (by omega)
        have hn : noted h h2 0 d (h 12 d) := by
          first
          | (rw [show h 12 d = 1 by omega]; exact hn0)
          | (rw [show h 12 d = 0 by omega]; exact hn0)
        have e2 : h2 2 4 = h 2 4 := hn.fr.at 2 4 (by decide)
        refine wq_aload_n (kk := 0) (q := 63) rfl rfl rfl ?_
        refine wq_getR (q := 66) f_Lt_16 rfl rfl (Or.inl ⟨rfl, Nat.le_of_ble_eq_true rfl⟩) hcur rfl rfl ?_
        refine wq_getF (q := 69) f_Lt_177 rfl rfl (Nat.le_of_ble_eq_true rfl) rfl rfl rfl ?_
        refine wq_iload_n (kk := 1) (q := 70) rfl rfl rfl ?_
        refine wq_iload_n (kk := 2) (q := 71) rfl rfl rfl ?_
        refine wq_zast (q := 72) rfl (Or.inl ⟨rfl, Nat.le_of_ble_eq_true rfl⟩) rfl rfl (by first | omega | (simp [hup]; omega)) (by first | omega | (simp [hup]; omega)) (by omega) ?_
        refine wq_aload_n (kk := 0) (q := 73) rfl rfl rfl ?_
        refine wq_aload_n (kk := 0) (q := 74) rfl rfl rfl ?_
        refine wq_getR (q := 77) f_Lt_16 rfl rfl (Or.inl ⟨rfl, Nat.le_of_ble_eq_true rfl⟩) hcur rfl rfl ?_
        refine wq_callV (q := 80) (m' := m_De_runningCount) (R' := rm 1) (As := []) rfl rfl l_Lt_135 vm_De_runningCount rfl rfl rfl (Or.inl ⟨rfl, Nat.le_of_ble_eq_true rfl⟩) (Nat.le_of_ble_eq_true rfl) (Nat.le_of_ble_eq_true rfl) (Nat.le_refl _) (Nat.le_refl _) (Nat.le_of_ble_eq_true rfl) (De_runningCount_ok _ _ (by rw [hup_i (by decide), e2]; exact hN)) rfl ?_
        rintro rv h3 r ⟨rfl, rfl, rfl⟩ -
        refine wq_callV (q := 83) (m' := m_Lt_answer) (R' := rm 1) (As := [_]) rfl rfl l_Lt_113 vm_Lt_answer rfl rfl rfl (Or.inl ⟨rfl, Nat.le_of_ble_eq_true rfl⟩) (Nat.le_of_ble_eq_true rfl) (Nat.le_of_ble_eq_true rfl) (Nat.le_refl _) (Nat.le_refl _) (Nat.le_of_ble_eq_true rfl) (Lt_answer_ok _ _ _) rfl ?_
        rintro rv h4 r ⟨rfl, rfl, rfl⟩ -
        refine wq_iret rfl rfl (Nat.le_refl _) (Nat.le_refl _) ⟨_, rfl, rfl, Or.inr ⟨by unfold kS; rw [if_pos c8, if_neg (by omega)], ⟨h2, hn, rfl⟩, rfl⟩⟩
      · skip
        refine wq_iconst (n := 1) (q := 55) rfl rfl rfl ?_
        refine wq_goto (tgt := 59) rfl rfl ?_
        refine wq_callV (q := 62) (m' := m_Lo_note) (R' := rm 2) (As := [_, _, _]) rfl rfl l_Lt_334 vm_Lo_note rfl rfl rfl (Or.inl ⟨rfl, Nat.le_of_ble_eq_true rfl⟩) (Nat.le_of_ble_eq_true rfl) (Nat.le_of_ble_eq_true rfl) (Nat.le_refl _) (Nat.le_refl _) (Nat.le_of_ble_eq_true rfl) (Lo_note_ok 0 d _ h r hL) rfl ?_
        rintro rv h2 r ⟨rfl, rfl, hn0⟩ -
        have hd := hD (by omega) (by omega)
        have hn : noted h h2 0 d (h 12 d) := by
          first
          | (rw [show h 12 d = 1 by omega]; exact hn0)
          | (rw [show h 12 d = 0 by omega]; exact hn0)
        have e2 : h2 2 4 = h 2 4 := hn.fr.at 2 4 (by decide)
        refine wq_aload_n (kk := 0) (q := 63) rfl rfl rfl ?_
        refine wq_getR (q := 66) f_Lt_16 rfl rfl (Or.inl ⟨rfl, Nat.le_of_ble_eq_true rfl⟩) hcur rfl rfl ?_
        refine wq_getF (q := 69) f_Lt_177 rfl rfl (Nat.le_of_ble_eq_true rfl) rfl rfl rfl ?_
        refine wq_iload_n (kk := 1) (q := 70) rfl rfl rfl ?_
        refine wq_iload_n (kk := 2) (q := 71) rfl rfl rfl ?_
        refine wq_zast (q := 72) rfl (Or.inl ⟨rfl, Nat.le_of_ble_eq_true rfl⟩) rfl rfl (by first | omega | (simp [hup]; omega)) (by first | omega | (simp [hup]; omega)) (by omega) ?_
        refine wq_aload_n (kk := 0) (q := 73) rfl rfl rfl ?_
        refine wq_aload_n (kk := 0) (q := 74) rfl rfl rfl ?_
        refine wq_getR (q := 77) f_Lt_16 rfl rfl (Or.inl ⟨rfl, Nat.le_of_ble_eq_true rfl⟩) hcur rfl rfl ?_
        refine wq_callV (q := 80) (m' := m_De_runningCount) (R' := rm 1) (As := []) rfl rfl l_Lt_135 vm_De_runningCount rfl rfl rfl (Or.inl ⟨rfl, Nat.le_of_ble_eq_true rfl⟩) (Nat.le_of_ble_eq_true rfl) (Nat.le_of_ble_eq_true rfl) (Nat.le_refl _) (Nat.le_refl _) (Nat.le_of_ble_eq_true rfl) (De_runningCount_ok _ _ (by rw [hup_i (by decide), e2]; exact hN)) rfl ?_
        rintro rv h3 r ⟨rfl, rfl, rfl⟩ -
        refine wq_callV (q := 83) (m' := m_Lt_answer) (R' := rm 1) (As := [_]) rfl rfl l_Lt_113 vm_Lt_answer rfl rfl rfl (Or.inl ⟨rfl, Nat.le_of_ble_eq_true rfl⟩) (Nat.le_of_ble_eq_true rfl) (Nat.le_of_ble_eq_true rfl) (Nat.le_refl _) (Nat.le_refl _) (Nat.le_of_ble_eq_true rfl) (Lt_answer_ok _ _ _) rfl ?_
        rintro rv h4 r ⟨rfl, rfl, rfl⟩ -
        refine wq_iret rfl rfl (Nat.le_refl _) (Nat.le_refl _) ⟨_, rfl, rfl, Or.inr ⟨by unfold kS; rw [if_pos c8, if_neg (by omega)], ⟨h2, hn, rfl⟩, rfl⟩⟩
    · skip
      refine wq_aload_n (kk := 0) (q := 31) rfl rfl rfl ?_
      refine wq_iconst (n := 5) (q := 32) rfl rfl rfl ?_
      refine wq_callV (q := 35) (m' := m_Lt_refuse) (R' := rm 1) (As := [_]) rfl rfl l_Lt_87 vm_Lt_refuse rfl rfl rfl (Or.inl ⟨rfl, Nat.le_of_ble_eq_true rfl⟩) (Nat.le_of_ble_eq_true rfl) (Nat.le_of_ble_eq_true rfl) (Nat.le_refl _) (Nat.le_refl _) (Nat.le_of_ble_eq_true rfl) (Lt_refuse_ok _ _ _) rfl ?_
      rintro rv h1 r ⟨rfl, rfl, rfl⟩ -
      exact wq_iret rfl rfl (Nat.le_refl _) (Nat.le_refl _) (acQ.no (by unfold kS; rw [if_pos c8, if_pos (by omega)]) (by decide))
  · skip
    refine wq_aload_n (kk := 0) (q := 12) rfl rfl rfl ?_
    refine wq_iconst (n := 1) (q := 13) rfl rfl rfl ?_
    refine wq_callV (q := 16) (m' := m_Lt_refuse) (R' := rm 1) (As := [_]) rfl rfl l_Lt_87 vm_Lt_refuse rfl rfl rfl (Or.inl ⟨rfl, Nat.le_of_ble_eq_true rfl⟩) (Nat.le_of_ble_eq_true rfl) (Nat.le_of_ble_eq_true rfl) (Nat.le_refl _) (Nat.le_refl _) (Nat.le_of_ble_eq_true rfl) (Lt_refuse_ok _ _ _) rfl ?_
    rintro rv h1 r ⟨rfl, rfl, rfl⟩ -
    exact wq_iret rfl rfl (Nat.le_refl _) (Nat.le_refl _) (acQ.no (by unfold kS; rw [if_neg c8]) (by decide))
set_option maxRecDepth 100000 in
theorem Lt_cancel_ok (d : Int) (h : mH) (r : mR) (hI : IQ h r) (hL : 0 ≤ h 27 0 ∧ h 27 0 ≤ 10) : Meets true (rm 4) m_Lt_cancel [vR 0, vI d] h r (acQ h r (kS (h 2 4) (h 12 d) 1 d) (fun v h1 => put1 h 0 12 d 1 h1 ∧ v = cn (fun d => h1 12 d == 0) (h1 2 4).toNat)) := by
  refine ⟨ok_Lt_cancel, Nat.le_of_ble_eq_true rfl, ?_⟩
  refine wq_aload_n (kk := 0) (q := 1) rfl rfl rfl ?_
  refine wq_iload_n (kk := 1) (q := 2) rfl rfl rfl ?_
  refine wq_iconst (n := 1) (q := 3) rfl rfl rfl ?_
  refine wq_callV (q := 6) (m' := m_Lt_setOff) (R' := rm 3) (As := [_, _]) rfl rfl l_Lt_330 vm_Lt_setOff rfl rfl rfl (Or.inl ⟨rfl, Nat.le_of_ble_eq_true rfl⟩) (Nat.le_of_ble_eq_true rfl) (Nat.le_of_ble_eq_true rfl) (Nat.le_refl _) (Nat.le_refl _) (Nat.le_of_ble_eq_true rfl) (Lt_setOff_ok d 1 (Or.inr rfl) h r hI hL) rfl ?_
  rintro rv h1 r1 ⟨v, rfl, hp⟩ -
  exact wq_iret rfl rfl (Nat.le_refl _) (Nat.le_refl _) ⟨v, rfl, hp⟩
set_option maxRecDepth 100000 in
theorem Lt_run_ok (d : Int) (h : mH) (r : mR) (hI : IQ h r) (hL : 0 ≤ h 27 0 ∧ h 27 0 ≤ 10) : Meets true (rm 4) m_Lt_run [vR 0, vI d] h r (acQ h r (kS (h 2 4) (h 12 d) 0 d) (fun v h1 => put1 h 0 12 d 0 h1 ∧ v = cn (fun d => h1 12 d == 0) (h1 2 4).toNat)) := by
  refine ⟨ok_Lt_run, Nat.le_of_ble_eq_true rfl, ?_⟩
  refine wq_aload_n (kk := 0) (q := 1) rfl rfl rfl ?_
  refine wq_iload_n (kk := 1) (q := 2) rfl rfl rfl ?_
  refine wq_iconst (n := 0) (q := 3) rfl rfl rfl ?_
  refine wq_callV (q := 6) (m' := m_Lt_setOff) (R' := rm 3) (As := [_, _]) rfl rfl l_Lt_330 vm_Lt_setOff rfl rfl rfl (Or.inl ⟨rfl, Nat.le_of_ble_eq_true rfl⟩) (Nat.le_of_ble_eq_true rfl) (Nat.le_of_ble_eq_true rfl) (Nat.le_refl _) (Nat.le_refl _) (Nat.le_of_ble_eq_true rfl) (Lt_setOff_ok d 0 (Or.inl rfl) h r hI hL) rfl ?_
  rintro rv h1 r1 ⟨v, rfl, hp⟩ -
  exact wq_iret rfl rfl (Nat.le_refl _) (Nat.le_refl _) ⟨v, rfl, hp⟩
set_option maxRecDepth 100000 in
set_option maxHeartbeats 1000000 in
theorem Lt_delay_ok (d w : Int) (h : mH) (r : mR) (hI : IQ h r) (hL : 0 ≤ h 27 0 ∧ h 27 0 ≤ 10) : Meets true (rm 3) m_Lt_delay [vR 0, vI d, vI w] h r (acQ h r (kW (0 ≤ d ∧ d < h 2 4) (0 ≤ w ∧ w ≤ 99)) (fun v h1 => put1 h 1 10 d w h1 ∧ v = h 10 d)) := by
  have hcur := hI.2.2.2.1
  have hN := hI.1.1
  refine ⟨ok_Lt_delay, Nat.le_of_ble_eq_true rfl, ?_⟩
  refine wq_aload_n (kk := 0) (q := 1) rfl rfl rfl ?_
  refine wq_getR (q := 4) f_Lt_16 rfl rfl (Or.inl ⟨rfl, Nat.le_of_ble_eq_true rfl⟩) hcur rfl rfl ?_
  refine wq_iload_n (kk := 1) (q := 5) rfl rfl rfl ?_
  refine wq_callV (q := 8) (m' := m_De_hasDeparture) (R' := rm 1) (As := [_]) rfl rfl l_Lt_156 vm_De_hasDeparture rfl rfl rfl (Or.inl ⟨rfl, Nat.le_of_ble_eq_true rfl⟩) (Nat.le_of_ble_eq_true rfl) (Nat.le_of_ble_eq_true rfl) (Nat.le_refl _) (Nat.le_refl _) (Nat.le_of_ble_eq_true rfl) (De_hasDeparture_ok d h r) rfl ?_
  rintro rv h r ⟨rfl, rfl, rfl⟩ -
  refine wq_cif_ne (tgt := 17) (q := 11) rfl rfl rfl (fun c8 => ?_) (fun c8 => ?_)
  · skip
    refine wq_iload_n (kk := 2) (q := 18) rfl rfl rfl ?_
    refine wq_if_lt (tgt := 27) (q := 21) rfl rfl rfl (fun c18 => ?_) (fun c18 => ?_)
    · skip
      refine wq_aload_n (kk := 0) (q := 28) rfl rfl rfl ?_
      refine wq_iconst (n := 2) (q := 29) rfl rfl rfl ?_
      refine wq_callV (q := 32) (m' := m_Lt_refuse) (R' := rm 1) (As := [_]) rfl rfl l_Lt_87 vm_Lt_refuse rfl rfl rfl (Or.inl ⟨rfl, Nat.le_of_ble_eq_true rfl⟩) (Nat.le_of_ble_eq_true rfl) (Nat.le_of_ble_eq_true rfl) (Nat.le_refl _) (Nat.le_refl _) (Nat.le_of_ble_eq_true rfl) (Lt_refuse_ok _ _ _) rfl ?_
      rintro rv h1 r ⟨rfl, rfl, rfl⟩ -
      exact wq_iret rfl rfl (Nat.le_refl _) (Nat.le_refl _) (acQ.no (kW_2 c8 (by omega)) (by decide))
    · skip
      refine wq_iload_n (kk := 2) (q := 22) rfl rfl rfl ?_
      refine wq_bipush (n := 99) (q := 24) rfl rfl rfl ?_
      refine wq_icmp_le (tgt := 33) (q := 27) rfl rfl rfl (fun c24 => ?_) (fun c24 => ?_)
      · skip
        refine wq_aload_n (kk := 0) (q := 34) rfl rfl rfl ?_
        refine wq_getR (q := 37) f_Lt_16 rfl rfl (Or.inl ⟨rfl, Nat.le_of_ble_eq_true rfl⟩) hcur rfl rfl ?_
        refine wq_getF (q := 40) f_Lt_171 rfl rfl (Nat.le_of_ble_eq_true rfl) rfl rfl rfl ?_
        refine wq_iload_n (kk := 1) (q := 41) rfl rfl rfl ?_
        refine wq_iald (q := 42) rfl (Or.inl ⟨rfl, Nat.le_of_ble_eq_true rfl⟩) rfl rfl (by first | omega | (simp [hup]; omega)) (by first | omega | (simp [hup]; omega)) ?_
        refine wq_istore_n (kk := 3) (q := 43) rfl rfl (Nat.le_of_ble_eq_true rfl) rfl ?_
        refine wq_aload_n (kk := 0) (q := 44) rfl rfl rfl ?_
        refine wq_getF (q := 47) f_Lt_35 rfl rfl (Nat.le_of_ble_eq_true rfl) rfl rfl rfl ?_
        refine wq_iconst (n := 1) (q := 48) rfl rfl rfl ?_
        refine wq_iload_n (kk := 1) (q := 49) rfl rfl rfl ?_
        refine wq_iload_n (kk := 3) (q := 50) rfl rfl rfl ?_
        refine wq_callV (q := 53) (m' := m_Lo_note) (R' := rm 2) (As := [_, _, _]) rfl rfl l_Lt_334 vm_Lo_note rfl rfl rfl (Or.inl ⟨rfl, Nat.le_of_ble_eq_true rfl⟩) (Nat.le_of_ble_eq_true rfl) (Nat.le_of_ble_eq_true rfl) (Nat.le_refl _) (Nat.le_refl _) (Nat.le_of_ble_eq_true rfl) (Lo_note_ok 1 d (h 10 d) h r hL) rfl ?_
        rintro rv h2 r ⟨rfl, rfl, hn⟩ -
        refine wq_aload_n (kk := 0) (q := 54) rfl rfl rfl ?_
        refine wq_getR (q := 57) f_Lt_16 rfl rfl (Or.inl ⟨rfl, Nat.le_of_ble_eq_true rfl⟩) hcur rfl rfl ?_
        refine wq_getF (q := 60) f_Lt_171 rfl rfl (Nat.le_of_ble_eq_true rfl) rfl rfl rfl ?_
        refine wq_iload_n (kk := 1) (q := 61) rfl rfl rfl ?_
        refine wq_iload_n (kk := 2) (q := 62) rfl rfl rfl ?_
        refine wq_iast (q := 63) rfl (Or.inl ⟨rfl, Nat.le_of_ble_eq_true rfl⟩) rfl rfl (by first | omega | (simp [hup]; omega)) (by first | omega | (simp [hup]; omega)) ?_
        refine wq_aload_n (kk := 0) (q := 64) rfl rfl rfl ?_
        refine wq_iload_n (kk := 3) (q := 65) rfl rfl rfl ?_
        refine wq_callV (q := 68) (m' := m_Lt_answer) (R' := rm 1) (As := [_]) rfl rfl l_Lt_113 vm_Lt_answer rfl rfl rfl (Or.inl ⟨rfl, Nat.le_of_ble_eq_true rfl⟩) (Nat.le_of_ble_eq_true rfl) (Nat.le_of_ble_eq_true rfl) (Nat.le_refl _) (Nat.le_refl _) (Nat.le_of_ble_eq_true rfl) (Lt_answer_ok _ _ _) rfl ?_
        rintro rv h4 r ⟨rfl, rfl, rfl⟩ -
        exact wq_iret rfl rfl (Nat.le_refl _) (Nat.le_refl _) ⟨_, rfl, rfl, Or.inr ⟨kW_0 c8 (by omega), ⟨h2, hn, rfl⟩, rfl⟩⟩
      · skip
        refine wq_aload_n (kk := 0) (q := 28) rfl rfl rfl ?_
        refine wq_iconst (n := 2) (q := 29) rfl rfl rfl ?_
        refine wq_callV (q := 32) (m' := m_Lt_refuse) (R' := rm 1) (As := [_]) rfl rfl l_Lt_87 vm_Lt_refuse rfl rfl rfl (Or.inl ⟨rfl, Nat.le_of_ble_eq_true rfl⟩) (Nat.le_of_ble_eq_true rfl) (Nat.le_of_ble_eq_true rfl) (Nat.le_refl _) (Nat.le_refl _) (Nat.le_of_ble_eq_true rfl) (Lt_refuse_ok _ _ _) rfl ?_
        rintro rv h1 r ⟨rfl, rfl, rfl⟩ -
        exact wq_iret rfl rfl (Nat.le_refl _) (Nat.le_refl _) (acQ.no (kW_2 c8 (by omega)) (by decide))
  · skip
    refine wq_aload_n (kk := 0) (q := 12) rfl rfl rfl ?_
    refine wq_iconst (n := 1) (q := 13) rfl rfl rfl ?_
    refine wq_callV (q := 16) (m' := m_Lt_refuse) (R' := rm 1) (As := [_]) rfl rfl l_Lt_87 vm_Lt_refuse rfl rfl rfl (Or.inl ⟨rfl, Nat.le_of_ble_eq_true rfl⟩) (Nat.le_of_ble_eq_true rfl) (Nat.le_of_ble_eq_true rfl) (Nat.le_refl _) (Nat.le_refl _) (Nat.le_of_ble_eq_true rfl) (Lt_refuse_ok _ _ _) rfl ?_
    rintro rv h1 r ⟨rfl, rfl, rfl⟩ -
    exact wq_iret rfl rfl (Nat.le_refl _) (Nat.le_refl _) (acQ.no (kW_1 c8) (by decide))
set_option maxRecDepth 100000 in
set_option maxHeartbeats 1000000 in
theorem Lt_change_ok (s w : Int) (h : mH) (r : mR) (hI : IQ h r) (hL : 0 ≤ h 27 0 ∧ h 27 0 ≤ 10) : Meets true (rm 3) m_Lt_change [vR 0, vI s, vI w] h r (acQ h r (kW (0 ≤ s ∧ s < h 2 1) (0 ≤ w ∧ w ≤ 99)) (fun v h1 => put1 h 2 3 s w h1 ∧ v = h 3 s)) := by
  have hcur := hI.2.2.2.1
  have hN := hI.1.2.1
  refine ⟨ok_Lt_change, Nat.le_of_ble_eq_true rfl, ?_⟩
  refine wq_aload_n (kk := 0) (q := 1) rfl rfl rfl ?_
  refine wq_getR (q := 4) f_Lt_16 rfl rfl (Or.inl ⟨rfl, Nat.le_of_ble_eq_true rfl⟩) hcur rfl rfl ?_
  refine wq_iload_n (kk := 1) (q := 5) rfl rfl rfl ?_
  refine wq_callV (q := 8) (m' := m_De_hasSpot) (R' := rm 1) (As := [_]) rfl rfl l_Lt_139 vm_De_hasSpot rfl rfl rfl (Or.inl ⟨rfl, Nat.le_of_ble_eq_true rfl⟩) (Nat.le_of_ble_eq_true rfl) (Nat.le_of_ble_eq_true rfl) (Nat.le_refl _) (Nat.le_refl _) (Nat.le_of_ble_eq_true rfl) (De_hasSpot_ok s h r) rfl ?_
  rintro rv h r ⟨rfl, rfl, rfl⟩ -
  refine wq_cif_ne (tgt := 17) (q := 11) rfl rfl rfl (fun c8 => ?_) (fun c8 => ?_)
  · skip
    refine wq_iload_n (kk := 2) (q := 18) rfl rfl rfl ?_
    refine wq_if_lt (tgt := 27) (q := 21) rfl rfl rfl (fun c18 => ?_) (fun c18 => ?_)
    · skip
      refine wq_aload_n (kk := 0) (q := 28) rfl rfl rfl ?_
      refine wq_iconst (n := 2) (q := 29) rfl rfl rfl ?_
      refine wq_callV (q := 32) (m' := m_Lt_refuse) (R' := rm 1) (As := [_]) rfl rfl l_Lt_87 vm_Lt_refuse rfl rfl rfl (Or.inl ⟨rfl, Nat.le_of_ble_eq_true rfl⟩) (Nat.le_of_ble_eq_true rfl) (Nat.le_of_ble_eq_true rfl) (Nat.le_refl _) (Nat.le_refl _) (Nat.le_of_ble_eq_true rfl) (Lt_refuse_ok _ _ _) rfl ?_
      rintro rv h1 r ⟨rfl, rfl, rfl⟩ -
      exact wq_iret rfl rfl (Nat.le_refl _) (Nat.le_refl _) (acQ.no (kW_2 c8 (by omega)) (by decide))
    · skip
      refine wq_iload_n (kk := 2) (q := 22) rfl rfl rfl ?_
      refine wq_bipush (n := 99) (q := 24) rfl rfl rfl ?_
      refine wq_icmp_le (tgt := 33) (q := 27) rfl rfl rfl (fun c24 => ?_) (fun c24 => ?_)
      · skip
        refine wq_aload_n (kk := 0) (q := 34) rfl rfl rfl ?_
        refine wq_getR (q := 37) f_Lt_16 rfl rfl (Or.inl ⟨rfl, Nat.le_of_ble_eq_true rfl⟩) hcur rfl rfl ?_
        refine wq_getF (q := 40) f_Lt_143 rfl rfl (Nat.le_of_ble_eq_true rfl) rfl rfl rfl ?_
        refine wq_iload_n (kk := 1) (q := 41) rfl rfl rfl ?_
        refine wq_iald (q := 42) rfl (Or.inl ⟨rfl, Nat.le_of_ble_eq_true rfl⟩) rfl rfl (by first | omega | (simp [hup]; omega)) (by first | omega | (simp [hup]; omega)) ?_
        refine wq_istore_n (kk := 3) (q := 43) rfl rfl (Nat.le_of_ble_eq_true rfl) rfl ?_
        refine wq_aload_n (kk := 0) (q := 44) rfl rfl rfl ?_
        refine wq_getF (q := 47) f_Lt_35 rfl rfl (Nat.le_of_ble_eq_true rfl) rfl rfl rfl ?_
        refine wq_iconst (n := 2) (q := 48) rfl rfl rfl ?_
        refine wq_iload_n (kk := 1) (q := 49) rfl rfl rfl ?_
        refine wq_iload_n (kk := 3) (q := 50) rfl rfl rfl ?_
        refine wq_callV (q := 53) (m' := m_Lo_note) (R' := rm 2) (As := [_, _, _]) rfl rfl l_Lt_334 vm_Lo_note rfl rfl rfl (Or.inl ⟨rfl, Nat.le_of_ble_eq_true rfl⟩) (Nat.le_of_ble_eq_true rfl) (Nat.le_of_ble_eq_true rfl) (Nat.le_refl _) (Nat.le_refl _) (Nat.le_of_ble_eq_true rfl) (Lo_note_ok 2 s (h 3 s) h r hL) rfl ?_
        rintro rv h2 r ⟨rfl, rfl, hn⟩ -
        refine wq_aload_n (kk := 0) (q := 54) rfl rfl rfl ?_
        refine wq_getR (q := 57) f_Lt_16 rfl rfl (Or.inl ⟨rfl, Nat.le_of_ble_eq_true rfl⟩) hcur rfl rfl ?_
        refine wq_getF (q := 60) f_Lt_143 rfl rfl (Nat.le_of_ble_eq_true rfl) rfl rfl rfl ?_
        refine wq_iload_n (kk := 1) (q := 61) rfl rfl rfl ?_
        refine wq_iload_n (kk := 2) (q := 62) rfl rfl rfl ?_
        refine wq_iast (q := 63) rfl (Or.inl ⟨rfl, Nat.le_of_ble_eq_true rfl⟩) rfl rfl (by first | omega | (simp [hup]; omega)) (by first | omega | (simp [hup]; omega)) ?_
        refine wq_aload_n (kk := 0) (q := 64) rfl rfl rfl ?_
        refine wq_iload_n (kk := 3) (q := 65) rfl rfl rfl ?_
        refine wq_callV (q := 68) (m' := m_Lt_answer) (R' := rm 1) (As := [_]) rfl rfl l_Lt_113 vm_Lt_answer rfl rfl rfl (Or.inl ⟨rfl, Nat.le_of_ble_eq_true rfl⟩) (Nat.le_of_ble_eq_true rfl) (Nat.le_of_ble_eq_true rfl) (Nat.le_refl _) (Nat.le_refl _) (Nat.le_of_ble_eq_true rfl) (Lt_answer_ok _ _ _) rfl ?_
        rintro rv h4 r ⟨rfl, rfl, rfl⟩ -
        exact wq_iret rfl rfl (Nat.le_refl _) (Nat.le_refl _) ⟨_, rfl, rfl, Or.inr ⟨kW_0 c8 (by omega), ⟨h2, hn, rfl⟩, rfl⟩⟩
      · skip
        refine wq_aload_n (kk := 0) (q := 28) rfl rfl rfl ?_
        refine wq_iconst (n := 2) (q := 29) rfl rfl rfl ?_
        refine wq_callV (q := 32) (m' := m_Lt_refuse) (R' := rm 1) (As := [_]) rfl rfl l_Lt_87 vm_Lt_refuse rfl rfl rfl (Or.inl ⟨rfl, Nat.le_of_ble_eq_true rfl⟩) (Nat.le_of_ble_eq_true rfl) (Nat.le_of_ble_eq_true rfl) (Nat.le_refl _) (Nat.le_refl _) (Nat.le_of_ble_eq_true rfl) (Lt_refuse_ok _ _ _) rfl ?_
        rintro rv h1 r ⟨rfl, rfl, rfl⟩ -
        exact wq_iret rfl rfl (Nat.le_refl _) (Nat.le_refl _) (acQ.no (kW_2 c8 (by omega)) (by decide))
  · skip
    refine wq_aload_n (kk := 0) (q := 12) rfl rfl rfl ?_
    refine wq_iconst (n := 1) (q := 13) rfl rfl rfl ?_
    refine wq_callV (q := 16) (m' := m_Lt_refuse) (R' := rm 1) (As := [_]) rfl rfl l_Lt_87 vm_Lt_refuse rfl rfl rfl (Or.inl ⟨rfl, Nat.le_of_ble_eq_true rfl⟩) (Nat.le_of_ble_eq_true rfl) (Nat.le_of_ble_eq_true rfl) (Nat.le_refl _) (Nat.le_refl _) (Nat.le_of_ble_eq_true rfl) (Lt_refuse_ok _ _ _) rfl ?_
    rintro rv h1 r ⟨rfl, rfl, rfl⟩ -
    exact wq_iret rfl rfl (Nat.le_refl _) (Nat.le_refl _) (acQ.no (kW_1 c8) (by decide))
set_option maxRecDepth 100000 in
set_option maxHeartbeats 1000000 in
theorem Lt_hold_ok (s w : Int) (h : mH) (r : mR) (hI : IQ h r) (hL : 0 ≤ h 27 0 ∧ h 27 0 ≤ 10) : Meets true (rm 3) m_Lt_hold [vR 0, vI s, vI w] h r (acQ h r (kW (0 ≤ s ∧ s < h 2 1) (-1 ≤ w ∧ w ≤ 999)) (fun v h1 => put1 h 3 4 s (if w = -1 then -2 else w) h1 ∧ v = h 4 s)) := by
  have hcur := hI.2.2.2.1
  have hN := hI.1.2.1
  refine ⟨ok_Lt_hold, Nat.le_of_ble_eq_true rfl, ?_⟩
  refine wq_aload_n (kk := 0) (q := 1) rfl rfl rfl ?_
  refine wq_getR (q := 4) f_Lt_16 rfl rfl (Or.inl ⟨rfl, Nat.le_of_ble_eq_true rfl⟩) hcur rfl rfl ?_
  refine wq_iload_n (kk := 1) (q := 5) rfl rfl rfl ?_
  refine wq_callV (q := 8) (m' := m_De_hasSpot) (R' := rm 1) (As := [_]) rfl rfl l_Lt_139 vm_De_hasSpot rfl rfl rfl (Or.inl ⟨rfl, Nat.le_of_ble_eq_true rfl⟩) (Nat.le_of_ble_eq_true rfl) (Nat.le_of_ble_eq_true rfl) (Nat.le_refl _) (Nat.le_refl _) (Nat.le_of_ble_eq_true rfl) (De_hasSpot_ok s h r) rfl ?_
  rintro rv h r ⟨rfl, rfl, rfl⟩ -
  refine wq_cif_ne (tgt := 17) (q := 11) rfl rfl rfl (fun c8 => ?_) (fun c8 => ?_)
  · skip
    refine wq_iload_n (kk := 2) (q := 18) rfl rfl rfl ?_
    refine wq_iconst (n := -1) (q := 19) rfl rfl rfl ?_
    refine wq_icmp_lt (tgt := 29) (q := 22) rfl rfl rfl (fun c19 => ?_) (fun c19 => ?_)
    · skip
      refine wq_aload_n (kk := 0) (q := 30) rfl rfl rfl ?_
      refine wq_iconst (n := 2) (q := 31) rfl rfl rfl ?_
      refine wq_callV (q := 34) (m' := m_Lt_refuse) (R' := rm 1) (As := [_]) rfl rfl l_Lt_87 vm_Lt_refuse rfl rfl rfl (Or.inl ⟨rfl, Nat.le_of_ble_eq_true rfl⟩) (Nat.le_of_ble_eq_true rfl) (Nat.le_of_ble_eq_true rfl) (Nat.le_refl _) (Nat.le_refl _) (Nat.le_of_ble_eq_true rfl) (Lt_refuse_ok _ _ _) rfl ?_
      rintro rv h1 r ⟨rfl, rfl, rfl⟩ -
      exact wq_iret rfl rfl (Nat.le_refl _) (Nat.le_refl _) (acQ.no (kW_2 c8 (by omega)) (by decide))
    · skip
      refine wq_iload_n (kk := 2) (q := 23) rfl rfl rfl ?_
      refine wq_sipush (n := 999) (q := 26) rfl rfl rfl ?_
      refine wq_icmp_le (tgt := 35) (q := 29) rfl rfl rfl (fun c26 => ?_) (fun c26 => ?_)
      · skip
        refine wq_aload_n (kk := 0) (q := 36) rfl rfl rfl ?_
        refine wq_getR (q := 39) f_Lt_16 rfl rfl (Or.inl ⟨rfl, Nat.le_of_ble_eq_true rfl⟩) hcur rfl rfl ?_
        refine wq_getF (q := 42) f_Lt_147 rfl rfl (Nat.le_of_ble_eq_true rfl) rfl rfl rfl ?_
        refine wq_iload_n (kk := 1) (q := 43) rfl rfl rfl ?_
        refine wq_iald (q := 44) rfl (Or.inl ⟨rfl, Nat.le_of_ble_eq_true rfl⟩) rfl rfl (by first | omega | (simp [hup]; omega)) (by first | omega | (simp [hup]; omega)) ?_
        refine wq_istore_n (kk := 3) (q := 45) rfl rfl (Nat.le_of_ble_eq_true rfl) rfl ?_
        refine wq_aload_n (kk := 0) (q := 46) rfl rfl rfl ?_
        refine wq_getF (q := 49) f_Lt_35 rfl rfl (Nat.le_of_ble_eq_true rfl) rfl rfl rfl ?_
        refine wq_iconst (n := 3) (q := 50) rfl rfl rfl ?_
        refine wq_iload_n (kk := 1) (q := 51) rfl rfl rfl ?_
        refine wq_iload_n (kk := 3) (q := 52) rfl rfl rfl ?_
        refine wq_callV (q := 55) (m' := m_Lo_note) (R' := rm 2) (As := [_, _, _]) rfl rfl l_Lt_334 vm_Lo_note rfl rfl rfl (Or.inl ⟨rfl, Nat.le_of_ble_eq_true rfl⟩) (Nat.le_of_ble_eq_true rfl) (Nat.le_of_ble_eq_true rfl) (Nat.le_refl _) (Nat.le_refl _) (Nat.le_of_ble_eq_true rfl) (Lo_note_ok 3 s (h 4 s) h r hL) rfl ?_
        rintro rv h2 r ⟨rfl, rfl, hn⟩ -
        refine wq_aload_n (kk := 0) (q := 56) rfl rfl rfl ?_
        refine wq_getR (q := 59) f_Lt_16 rfl rfl (Or.inl ⟨rfl, Nat.le_of_ble_eq_true rfl⟩) hcur rfl rfl ?_
        refine wq_getF (q := 62) f_Lt_147 rfl rfl (Nat.le_of_ble_eq_true rfl) rfl rfl rfl ?_
        refine wq_iload_n (kk := 1) (q := 63) rfl rfl rfl ?_
        refine wq_iload_n (kk := 2) (q := 64) rfl rfl rfl ?_
        refine wq_iconst (n := -1) (q := 65) rfl rfl rfl ?_
        refine wq_icmp_ne (tgt := 73) (q := 68) rfl rfl rfl (fun c65 => ?_) (fun c65 => ?_)
        · skip
          refine wq_iload_n (kk := 2) (q := 74) rfl rfl rfl ?_
          refine wq_iast (q := 75) rfl (Or.inl ⟨rfl, Nat.le_of_ble_eq_true rfl⟩) rfl rfl (by first | omega | (simp [hup]; omega)) (by first | omega | (simp [hup]; omega)) ?_
          refine wq_aload_n (kk := 0) (q := 76) rfl rfl rfl ?_
          refine wq_iload_n (kk := 3) (q := 77) rfl rfl rfl ?_
          refine wq_callV (q := 80) (m' := m_Lt_answer) (R' := rm 1) (As := [_]) rfl rfl l_Lt_113 vm_Lt_answer rfl rfl rfl (Or.inl ⟨rfl, Nat.le_of_ble_eq_true rfl⟩) (Nat.le_of_ble_eq_true rfl) (Nat.le_of_ble_eq_true rfl) (Nat.le_refl _) (Nat.le_refl _) (Nat.le_of_ble_eq_true rfl) (Lt_answer_ok _ _ _) rfl ?_
          rintro rv h4 r ⟨rfl, rfl, rfl⟩ -
          refine wq_iret rfl rfl (Nat.le_refl _) (Nat.le_refl _) ⟨_, rfl, rfl, Or.inr ⟨kW_0 c8 (by omega), ⟨h2, hn, ?_⟩, rfl⟩⟩
          first | (rw [if_pos c65]) | (rw [if_neg c65])
        · skip
          refine wq_bipush (n := -2) (q := 70) rfl rfl rfl ?_
          refine wq_goto (tgt := 74) rfl rfl ?_
          refine wq_iast (q := 75) rfl (Or.inl ⟨rfl, Nat.le_of_ble_eq_true rfl⟩) rfl rfl (by first | omega | (simp [hup]; omega)) (by first | omega | (simp [hup]; omega)) ?_
          refine wq_aload_n (kk := 0) (q := 76) rfl rfl rfl ?_
          refine wq_iload_n (kk := 3) (q := 77) rfl rfl rfl ?_
          refine wq_callV (q := 80) (m' := m_Lt_answer) (R' := rm 1) (As := [_]) rfl rfl l_Lt_113 vm_Lt_answer rfl rfl rfl (Or.inl ⟨rfl, Nat.le_of_ble_eq_true rfl⟩) (Nat.le_of_ble_eq_true rfl) (Nat.le_of_ble_eq_true rfl) (Nat.le_refl _) (Nat.le_refl _) (Nat.le_of_ble_eq_true rfl) (Lt_answer_ok _ _ _) rfl ?_
          rintro rv h4 r ⟨rfl, rfl, rfl⟩ -
          refine wq_iret rfl rfl (Nat.le_refl _) (Nat.le_refl _) ⟨_, rfl, rfl, Or.inr ⟨kW_0 c8 (by omega), ⟨h2, hn, ?_⟩, rfl⟩⟩
          first | (rw [if_pos c65]) | (rw [if_neg c65])
      · skip
        refine wq_aload_n (kk := 0) (q := 30) rfl rfl rfl ?_
        refine wq_iconst (n := 2) (q := 31) rfl rfl rfl ?_
        refine wq_callV (q := 34) (m' := m_Lt_refuse) (R' := rm 1) (As := [_]) rfl rfl l_Lt_87 vm_Lt_refuse rfl rfl rfl (Or.inl ⟨rfl, Nat.le_of_ble_eq_true rfl⟩) (Nat.le_of_ble_eq_true rfl) (Nat.le_of_ble_eq_true rfl) (Nat.le_refl _) (Nat.le_refl _) (Nat.le_of_ble_eq_true rfl) (Lt_refuse_ok _ _ _) rfl ?_
        rintro rv h1 r ⟨rfl, rfl, rfl⟩ -
        exact wq_iret rfl rfl (Nat.le_refl _) (Nat.le_refl _) (acQ.no (kW_2 c8 (by omega)) (by decide))
  · skip
    refine wq_aload_n (kk := 0) (q := 12) rfl rfl rfl ?_
    refine wq_iconst (n := 1) (q := 13) rfl rfl rfl ?_
    refine wq_callV (q := 16) (m' := m_Lt_refuse) (R' := rm 1) (As := [_]) rfl rfl l_Lt_87 vm_Lt_refuse rfl rfl rfl (Or.inl ⟨rfl, Nat.le_of_ble_eq_true rfl⟩) (Nat.le_of_ble_eq_true rfl) (Nat.le_of_ble_eq_true rfl) (Nat.le_refl _) (Nat.le_refl _) (Nat.le_of_ble_eq_true rfl) (Lt_refuse_ok _ _ _) rfl ?_
    rintro rv h1 r ⟨rfl, rfl, rfl⟩ -
    exact wq_iret rfl rfl (Nat.le_refl _) (Nat.le_refl _) (acQ.no (kW_1 c8) (by decide))
noncomputable def kE (h : mH) (l a b t w : Int) : Int := if bI ((0 ≤ l ∧ l < h 2 2) ∧ kU (h 2 1) a b) = 0 then 1 else if bI ((0 ≤ t ∧ t ≤ h 2 0) ∧ 1 ≤ w ∧ w ≤ 99) = 0 then 2 else if 120 ≤ h 2 4 then 3 else 0
set_option maxRecDepth 100000 in
set_option maxHeartbeats 1000000 in
theorem Lt_extra_ok (l a b t w : Int) (h : mH) (r : mR) (hI : IQ h r) (hL : 0 ≤ h 27 0 ∧ h 27 0 ≤ 10) : Meets true (rm 3) m_Lt_extra [vR 0, vI l, vI a, vI b, vI t, vI w] h r (acQ h r (kE h l a b t w) (fun v h1 => (∃ h2, noted (x_addDep 2 h l a b t w (-2)) h2 4 (h 2 4) 0 ∧ h1 = hup h2 0 12 0) ∧ v = h 2 4)) := by
  have hcur := hI.2.2.2.1
  have hN := hI.1.1
  refine ⟨ok_Lt_extra, Nat.le_of_ble_eq_true rfl, ?_⟩
  refine wq_aload_n (kk := 0) (q := 1) rfl rfl rfl ?_
  refine wq_getR (q := 4) f_Lt_16 rfl rfl (Or.inl ⟨rfl, Nat.le_of_ble_eq_true rfl⟩) hcur rfl rfl ?_
  refine wq_iload_n (kk := 1) (q := 5) rfl rfl rfl ?_
  refine wq_callV (q := 8) (m' := m_De_hasLine) (R' := rm 1) (As := [_]) rfl rfl l_Lt_338 vm_De_hasLine rfl rfl rfl (Or.inl ⟨rfl, Nat.le_of_ble_eq_true rfl⟩) (Nat.le_of_ble_eq_true rfl) (Nat.le_of_ble_eq_true rfl) (Nat.le_refl _) (Nat.le_refl _) (Nat.le_of_ble_eq_true rfl) (De_hasLine_ok l h r) rfl ?_
  rintro rv h r ⟨rfl, rfl, rfl⟩ -
  refine wq_cif_eq (tgt := 20) (q := 11) rfl rfl rfl (fun c8 => ?_) (fun c8 => ?_)
  · skip
    refine wq_aload_n (kk := 0) (q := 21) rfl rfl rfl ?_
    refine wq_iconst (n := 1) (q := 22) rfl rfl rfl ?_
    refine wq_callV (q := 25) (m' := m_Lt_refuse) (R' := rm 1) (As := [_]) rfl rfl l_Lt_87 vm_Lt_refuse rfl rfl rfl (Or.inl ⟨rfl, Nat.le_of_ble_eq_true rfl⟩) (Nat.le_of_ble_eq_true rfl) (Nat.le_of_ble_eq_true rfl) (Nat.le_refl _) (Nat.le_refl _) (Nat.le_of_ble_eq_true rfl) (Lt_refuse_ok _ _ _) rfl ?_
    rintro rv h1 r ⟨rfl, rfl, rfl⟩ -
    refine wq_iret rfl rfl (Nat.le_refl _) (Nat.le_refl _) (acQ.no ?_ (by decide))
    unfold kE
    first | rw [bI_f (fun z => c8 z.1), if_pos rfl] | rw [bI_f (fun z => c17 z.2), if_pos rfl]
  · skip
    refine wq_aload_n (kk := 0) (q := 12) rfl rfl rfl ?_
    refine wq_iload_n (kk := 2) (q := 13) rfl rfl rfl ?_
    refine wq_iload_n (kk := 3) (q := 14) rfl rfl rfl ?_
    refine wq_callV (q := 17) (m' := m_Lt_hasUnlikeSpots) (R' := rm 2) (As := [_, _]) rfl rfl l_Lt_267 vm_Lt_hasUnlikeSpots rfl rfl rfl (Or.inl ⟨rfl, Nat.le_of_ble_eq_true rfl⟩) (Nat.le_of_ble_eq_true rfl) (Nat.le_of_ble_eq_true rfl) (Nat.le_refl _) (Nat.le_refl _) (Nat.le_of_ble_eq_true rfl) (Lt_hasUnlikeSpots_ok a b h r hcur) rfl ?_
    rintro rv h r ⟨rfl, rfl, rfl⟩ -
    refine wq_cif_ne (tgt := 26) (q := 20) rfl rfl rfl (fun c17 => ?_) (fun c17 => ?_)
    · skip
      refine wq_iload (i := 4) (q := 28) rfl rfl rfl ?_
      refine wq_if_lt (tgt := 56) (q := 31) rfl rfl rfl (fun c28 => ?_) (fun c28 => ?_)
      · skip
        refine wq_aload_n (kk := 0) (q := 57) rfl rfl rfl ?_
        refine wq_iconst (n := 2) (q := 58) rfl rfl rfl ?_
        refine wq_callV (q := 61) (m' := m_Lt_refuse) (R' := rm 1) (As := [_]) rfl rfl l_Lt_87 vm_Lt_refuse rfl rfl rfl (Or.inl ⟨rfl, Nat.le_of_ble_eq_true rfl⟩) (Nat.le_of_ble_eq_true rfl) (Nat.le_of_ble_eq_true rfl) (Nat.le_refl _) (Nat.le_refl _) (Nat.le_of_ble_eq_true rfl) (Lt_refuse_ok _ _ _) rfl ?_
        rintro rv h1 r ⟨rfl, rfl, rfl⟩ -
        refine wq_iret rfl rfl (Nat.le_refl _) (Nat.le_refl _) (acQ.no ?_ (by decide))
        unfold kE
        rw [bI_t ⟨c8, c17⟩, if_neg (by decide), bI_f (by omega), if_pos rfl]
      · skip
        refine wq_iload (i := 4) (q := 33) rfl rfl rfl ?_
        refine wq_aload_n (kk := 0) (q := 34) rfl rfl rfl ?_
        refine wq_getR (q := 37) f_Lt_16 rfl rfl (Or.inl ⟨rfl, Nat.le_of_ble_eq_true rfl⟩) hcur rfl rfl ?_
        refine wq_getI (kz := 0) (q := 40) rfl f_Lt_123 rfl rfl (Or.inl ⟨rfl, Nat.le_of_ble_eq_true rfl⟩) rfl rfl ?_
        refine wq_icmp_gt (tgt := 56) (q := 43) rfl rfl rfl (fun c40 => ?_) (fun c40 => ?_)
        · skip
          refine wq_aload_n (kk := 0) (q := 57) rfl rfl rfl ?_
          refine wq_iconst (n := 2) (q := 58) rfl rfl rfl ?_
          refine wq_callV (q := 61) (m' := m_Lt_refuse) (R' := rm 1) (As := [_]) rfl rfl l_Lt_87 vm_Lt_refuse rfl rfl rfl (Or.inl ⟨rfl, Nat.le_of_ble_eq_true rfl⟩) (Nat.le_of_ble_eq_true rfl) (Nat.le_of_ble_eq_true rfl) (Nat.le_refl _) (Nat.le_refl _) (Nat.le_of_ble_eq_true rfl) (Lt_refuse_ok _ _ _) rfl ?_
          rintro rv h1 r ⟨rfl, rfl, rfl⟩ -
          refine wq_iret rfl rfl (Nat.le_refl _) (Nat.le_refl _) (acQ.no ?_ (by decide))
          unfold kE
          rw [bI_t ⟨c8, c17⟩, if_neg (by decide), bI_f (by omega), if_pos rfl]
        · skip
          refine wq_iload (i := 5) (q := 45) rfl rfl rfl ?_
          refine wq_iconst (n := 1) (q := 46) rfl rfl rfl ?_
          refine wq_icmp_lt (tgt := 56) (q := 49) rfl rfl rfl (fun c46 => ?_) (fun c46 => ?_)
          · skip
            refine wq_aload_n (kk := 0) (q := 57) rfl rfl rfl ?_
            refine wq_iconst (n := 2) (q := 58) rfl rfl rfl ?_
            refine wq_callV (q := 61) (m' := m_Lt_refuse) (R' := rm 1) (As := [_]) rfl rfl l_Lt_87 vm_Lt_refuse rfl rfl rfl (Or.inl ⟨rfl, Nat.le_of_ble_eq_true rfl⟩) (Nat.le_of_ble_eq_true rfl) (Nat.le_of_ble_eq_true rfl) (Nat.le_refl _) (Nat.le_refl _) (Nat.le_of_ble_eq_true rfl) (Lt_refuse_ok _ _ _) rfl ?_
            rintro rv h1 r ⟨rfl, rfl, rfl⟩ -
            refine wq_iret rfl rfl (Nat.le_refl _) (Nat.le_refl _) (acQ.no ?_ (by decide))
            unfold kE
            rw [bI_t ⟨c8, c17⟩, if_neg (by decide), bI_f (by omega), if_pos rfl]
          · skip
            refine wq_iload (i := 5) (q := 51) rfl rfl rfl ?_
            refine wq_bipush (n := 99) (q := 53) rfl rfl rfl ?_
            refine wq_icmp_le (tgt := 62) (q := 56) rfl rfl rfl (fun c53 => ?_) (fun c53 => ?_)
            · skip
              refine wq_aload_n (kk := 0) (q := 63) rfl rfl rfl ?_
              refine wq_getR (q := 66) f_Lt_16 rfl rfl (Or.inl ⟨rfl, Nat.le_of_ble_eq_true rfl⟩) hcur rfl rfl ?_
              refine wq_getI (kz := 4) (q := 69) rfl f_Lt_110 rfl rfl (Or.inl ⟨rfl, Nat.le_of_ble_eq_true rfl⟩) rfl rfl ?_
              refine wq_bipush (n := 120) (q := 71) rfl rfl rfl ?_
              refine wq_icmp_lt (tgt := 80) (q := 74) rfl rfl rfl (fun c71 => ?_) (fun c71 => ?_)
              · skip
                refine wq_aload_n (kk := 0) (q := 81) rfl rfl rfl ?_
                refine wq_getR (q := 84) f_Lt_16 rfl rfl (Or.inl ⟨rfl, Nat.le_of_ble_eq_true rfl⟩) hcur rfl rfl ?_
                refine wq_iload_n (kk := 1) (q := 85) rfl rfl rfl ?_
                refine wq_iload_n (kk := 2) (q := 86) rfl rfl rfl ?_
                refine wq_iload_n (kk := 3) (q := 87) rfl rfl rfl ?_
                refine wq_iload (i := 4) (q := 89) rfl rfl rfl ?_
                refine wq_iload (i := 5) (q := 91) rfl rfl rfl ?_
                refine wq_bipush (n := -2) (q := 93) rfl rfl rfl ?_
                refine wq_callV (q := 96) (m' := m_De_addDeparture) (R' := rm 1) (As := [_, _, _, _, _, _]) rfl rfl l_Lt_341 vm_De_addDeparture rfl rfl rfl (Or.inl ⟨rfl, Nat.le_of_ble_eq_true rfl⟩) (Nat.le_of_ble_eq_true rfl) (Nat.le_of_ble_eq_true rfl) (Nat.le_refl _) (Nat.le_refl _) (Nat.le_of_ble_eq_true rfl) (De_addDep_ok 2 (Or.inl rfl) l a b t w (-2) h r hN.1 (by omega)) rfl ?_
                rintro rv h2 r ⟨rfl, rfl, rfl⟩ -
                have e4 : x_addDep 2 h l a b t w (-2) 2 4 = h 2 4 + 1 := by unfold x_addDep; rw [hup_s]
                have e27 : x_addDep 2 h l a b t w (-2) 27 0 = h 27 0 := by simp [x_addDep, hup]
                refine wq_aload_n (kk := 0) (q := 97) rfl rfl rfl ?_
                refine wq_getF (q := 100) f_Lt_35 rfl rfl (Nat.le_of_ble_eq_true rfl) rfl rfl rfl ?_
                refine wq_iconst (n := 4) (q := 101) rfl rfl rfl ?_
                refine wq_aload_n (kk := 0) (q := 102) rfl rfl rfl ?_
                refine wq_getR (q := 105) f_Lt_16 rfl rfl (Or.inl ⟨rfl, Nat.le_of_ble_eq_true rfl⟩) hcur rfl rfl ?_
                refine wq_getI (kz := 4) (q := 108) rfl f_Lt_110 rfl rfl (Or.inl ⟨rfl, Nat.le_of_ble_eq_true rfl⟩) rfl rfl ?_
                rw [e4]
                refine wq_iconst (n := 1) (q := 109) rfl rfl rfl ?_
                refine wq_isub (q := 110) rfl rfl (by first | omega | (simp [hup]; omega)) (by first | omega | (simp [hup]; omega)) ?_
                refine wq_iconst (n := 0) (q := 111) rfl rfl rfl ?_
                rw [show h 2 4 + 1 - 1 = h 2 4 by omega]
                refine wq_callV (q := 114) (m' := m_Lo_note) (R' := rm 2) (As := [_, _, _]) rfl rfl l_Lt_334 vm_Lo_note rfl rfl rfl (Or.inl ⟨rfl, Nat.le_of_ble_eq_true rfl⟩) (Nat.le_of_ble_eq_true rfl) (Nat.le_of_ble_eq_true rfl) (Nat.le_refl _) (Nat.le_refl _) (Nat.le_of_ble_eq_true rfl) (Lo_note_ok 4 (h 2 4) 0 _ r (by rw [e27]; exact hL)) rfl ?_
                rintro rv h3 r ⟨rfl, rfl, hn⟩ -
                have e5 : h3 2 4 = h 2 4 + 1 := by rw [hn.fr.at 2 4 (by decide), e4]
                refine wq_aload_n (kk := 0) (q := 115) rfl rfl rfl ?_
                refine wq_aload_n (kk := 0) (q := 116) rfl rfl rfl ?_
                refine wq_getR (q := 119) f_Lt_16 rfl rfl (Or.inl ⟨rfl, Nat.le_of_ble_eq_true rfl⟩) hcur rfl rfl ?_
                refine wq_getI (kz := 4) (q := 122) rfl f_Lt_110 rfl rfl (Or.inl ⟨rfl, Nat.le_of_ble_eq_true rfl⟩) rfl rfl ?_
                refine wq_iconst (n := 1) (q := 123) rfl rfl rfl ?_
                refine wq_isub (q := 124) rfl rfl (by first | omega | (simp [hup]; omega)) (by first | omega | (simp [hup]; omega)) ?_
                refine wq_callV (q := 127) (m' := m_Lt_answer) (R' := rm 1) (As := [_]) rfl rfl l_Lt_113 vm_Lt_answer rfl rfl rfl (Or.inl ⟨rfl, Nat.le_of_ble_eq_true rfl⟩) (Nat.le_of_ble_eq_true rfl) (Nat.le_of_ble_eq_true rfl) (Nat.le_refl _) (Nat.le_refl _) (Nat.le_of_ble_eq_true rfl) (Lt_answer_ok _ _ _) rfl ?_
                rintro rv h4 r ⟨rfl, rfl, rfl⟩ -
                refine wq_iret rfl rfl (Nat.le_refl _) (Nat.le_refl _) ⟨_, rfl, rfl, Or.inr ⟨?_, ⟨h3, hn, rfl⟩, by omega⟩⟩
                unfold kE
                rw [bI_t ⟨c8, c17⟩, if_neg (by decide), bI_t (by omega), if_neg (by decide), if_neg (by omega)]
              · skip
                refine wq_aload_n (kk := 0) (q := 75) rfl rfl rfl ?_
                refine wq_iconst (n := 3) (q := 76) rfl rfl rfl ?_
                refine wq_callV (q := 79) (m' := m_Lt_refuse) (R' := rm 1) (As := [_]) rfl rfl l_Lt_87 vm_Lt_refuse rfl rfl rfl (Or.inl ⟨rfl, Nat.le_of_ble_eq_true rfl⟩) (Nat.le_of_ble_eq_true rfl) (Nat.le_of_ble_eq_true rfl) (Nat.le_refl _) (Nat.le_refl _) (Nat.le_of_ble_eq_true rfl) (Lt_refuse_ok _ _ _) rfl ?_
                rintro rv h1 r ⟨rfl, rfl, rfl⟩ -
                refine wq_iret rfl rfl (Nat.le_refl _) (Nat.le_refl _) (acQ.no ?_ (by decide))
                unfold kE
                rw [bI_t ⟨c8, c17⟩, if_neg (by decide), bI_t (by omega), if_neg (by decide), if_pos (by omega)]
            · skip
              refine wq_aload_n (kk := 0) (q := 57) rfl rfl rfl ?_
              refine wq_iconst (n := 2) (q := 58) rfl rfl rfl ?_
              refine wq_callV (q := 61) (m' := m_Lt_refuse) (R' := rm 1) (As := [_]) rfl rfl l_Lt_87 vm_Lt_refuse rfl rfl rfl (Or.inl ⟨rfl, Nat.le_of_ble_eq_true rfl⟩) (Nat.le_of_ble_eq_true rfl) (Nat.le_of_ble_eq_true rfl) (Nat.le_refl _) (Nat.le_refl _) (Nat.le_of_ble_eq_true rfl) (Lt_refuse_ok _ _ _) rfl ?_
              rintro rv h1 r ⟨rfl, rfl, rfl⟩ -
              refine wq_iret rfl rfl (Nat.le_refl _) (Nat.le_refl _) (acQ.no ?_ (by decide))
              unfold kE
              rw [bI_t ⟨c8, c17⟩, if_neg (by decide), bI_f (by omega), if_pos rfl]
    · skip
      refine wq_aload_n (kk := 0) (q := 21) rfl rfl rfl ?_
      refine wq_iconst (n := 1) (q := 22) rfl rfl rfl ?_
      refine wq_callV (q := 25) (m' := m_Lt_refuse) (R' := rm 1) (As := [_]) rfl rfl l_Lt_87 vm_Lt_refuse rfl rfl rfl (Or.inl ⟨rfl, Nat.le_of_ble_eq_true rfl⟩) (Nat.le_of_ble_eq_true rfl) (Nat.le_of_ble_eq_true rfl) (Nat.le_refl _) (Nat.le_refl _) (Nat.le_of_ble_eq_true rfl) (Lt_refuse_ok _ _ _) rfl ?_
      rintro rv h1 r ⟨rfl, rfl, rfl⟩ -
      refine wq_iret rfl rfl (Nat.le_refl _) (Nat.le_refl _) (acQ.no ?_ (by decide))
      unfold kE
      first | rw [bI_f (fun z => c8 z.1), if_pos rfl] | rw [bI_f (fun z => c17 z.2), if_pos rfl]
/-- the entries of the log name departures and spots -/
def lgOK (h : mH) : Prop := (0 ≤ h 27 0 ∧ h 27 0 ≤ 10) ∧ ∀ j, 0 ≤ j → j < h 27 0 → 0 ≤ h 29 j ∧ (h 28 j = 0 ∨ h 28 j = 1 → h 29 j < 120) ∧ (h 28 j = 2 ∨ h 28 j = 3 → h 29 j < 10)
set_option maxRecDepth 100000 in
set_option maxHeartbeats 1000000 in
theorem Lt_undo_ok (h : mH) (r : mR) (hcur : r.1 0 2 = some 2) (hL : lgOK h) : Meets true (rm 2) m_Lt_undo [vR 0] h r (fun rv h1 r1 => r1 = r ∧ (h 27 0 = 0 ∧ rv = some (vI 0) ∧ h1 = hup h 0 12 1 ∨ 0 < h 27 0 ∧ rv = some (vI 1) ∧ h1 = hup (unl (hup h 27 0 (h 27 0 - 1)) (h 28 (h 27 0 - 1)) (h 29 (h 27 0 - 1)) (h 30 (h 27 0 - 1))) 0 12 0)) := by
  have hk := hL.1
  refine ⟨ok_Lt_undo, Nat.le_of_ble_eq_true rfl, ?_⟩
  refine wq_aload_n (kk := 0) (q := 1) rfl rfl rfl ?_
  refine wq_getF (q := 4) f_Lt_35 rfl rfl (Nat.le_of_ble_eq_true rfl) rfl rfl rfl ?_
  refine wq_getI (kz := 0) (q := 7) rfl f_Lt_345 rfl rfl (Or.inl ⟨rfl, Nat.le_of_ble_eq_true rfl⟩) rfl rfl ?_
  refine wq_if_ne (tgt := 17) (q := 10) rfl rfl rfl (fun c7 => ?_) (fun c7 => ?_)
  · skip
    have hj := hL.2 (h 27 0 - 1) (by omega) (by omega)
    refine wq_aload_n (kk := 0) (q := 18) rfl rfl rfl ?_
    refine wq_getF (q := 21) f_Lt_35 rfl rfl (Nat.le_of_ble_eq_true rfl) rfl rfl rfl ?_
    refine wq_aload_n (kk := 0) (q := 22) rfl rfl rfl ?_
    refine wq_getR (q := 25) f_Lt_16 rfl rfl (Or.inl ⟨rfl, Nat.le_of_ble_eq_true rfl⟩) hcur rfl rfl ?_
    refine wq_callV (q := 28) (m' := m_Lo_takeBack) (R' := rm 1) (As := [_]) rfl rfl l_Lt_348 vm_Lo_takeBack rfl rfl rfl (Or.inl ⟨rfl, Nat.le_of_ble_eq_true rfl⟩) (Nat.le_of_ble_eq_true rfl) (Nat.le_of_ble_eq_true rfl) (Nat.le_refl _) (Nat.le_refl _) (Nat.le_of_ble_eq_true rfl) (Lo_takeBack_ok h r (by omega) hj.1 hj.2.1 hj.2.2) rfl ?_
    rintro rv h2 r ⟨rfl, rfl, rfl⟩ -
    refine wq_aload_n (kk := 0) (q := 29) rfl rfl rfl ?_
    refine wq_iconst (n := 0) (q := 30) rfl rfl rfl ?_
    refine wq_putI (kz := 12) (q := 33) rfl f_Lt_116 rfl rfl rfl (Or.inl ⟨rfl, Nat.le_of_ble_eq_true rfl⟩) rfl rfl ?_
    refine wq_iconst (n := 1) (q := 34) rfl rfl rfl ?_
    exact wq_zret rfl rfl (Nat.le_refl _) (Nat.le_refl _) (by omega) ⟨rfl, Or.inr ⟨by omega, rfl, rfl⟩⟩
  · skip
    refine wq_aload_n (kk := 0) (q := 11) rfl rfl rfl ?_
    refine wq_iconst (n := 1) (q := 12) rfl rfl rfl ?_
    refine wq_putI (kz := 12) (q := 15) rfl f_Lt_116 rfl rfl rfl (Or.inl ⟨rfl, Nat.le_of_ble_eq_true rfl⟩) rfl rfl ?_
    refine wq_iconst (n := 0) (q := 16) rfl rfl rfl ?_
    exact wq_zret rfl rfl (Nat.le_refl _) (Nat.le_refl _) (by omega) ⟨rfl, Or.inl ⟨by omega, rfl, rfl⟩⟩

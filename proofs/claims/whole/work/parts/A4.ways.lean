/-! LinkTimesModel: best, begins, the BEST WAY's questions -/
/-- what questions of the reference need -/
def mI (h : mH) (N : mN) : Prop := isM h N ∧ (h 64 11 = 1 ∧ 0 < nS N ∨ h 64 11 = 0 ∧ nS N = 0 ∧ nN N = 0)
abbrev qF : List Int := [0, 1, 3, 28, 32, 36, 38, 40, 41]
abbrev qK : List Nat := [64, 68, 73, 74, 75, 76, 77, 78, 79, 80, 81, 82, 83, 84, 85]
theorem mI_f {h h1 : mH} {N : mN} {S : List Int} {C : List Nat} (hI : mI h N) (f : f64 S C h h1) (h11 : (11 : Int) ∉ S) (h66 : 66 ∉ C) : mI h1 N := by
  refine ⟨isM_f hI.1 f.1 h66, ?_⟩
  rw [f.2 11 h11]
  exact hI.2
theorem x_ref_f {S : List Int} {C : List Nat} {h : mH} {k : Int} (h64 : 64 ∈ C) (h0 : (0 : Int) ∈ S) (h3 : (3 : Int) ∈ S) (h1 : (1 : Int) ∈ S) : f64 S C h (x_ref h k) := ((f64.rf.up h64 h0).up h64 h3).up h64 h1
theorem x_ref_1 {h : mH} {k : Int} : x_ref h k 64 1 = k := hup_s
theorem kP_b {n a b g : Int} : 0 ≤ kP n a b g ∧ kP n a b g ≤ 2 := by
  unfold kP
  split
  · split <;> omega
  · omega
abbrev rqQ (h : mH) (r : mR) (P : Int → Int → Prop) : mP := fun rv h1 r1 => ∃ v, rv = some (vI v) ∧ r1 = r ∧ P v (h1 64 1) ∧ h1 64 1 ≠ 4 ∧ f64 qF qK h h1
set_option maxRecDepth 100000 in
set_option maxHeartbeats 1000000 in
theorem Mo_wayWhy_ok (a b t : Int) (N : mN) (h : mH) (r : mR) (hI : mI h N) : Meets true (rm 3) m_Mo_wayWhy [vR 64, vI a, vI b, vI t] h r (pI (kP (nS N) a b (bI (isT t))) h r) := by
  have e1 := hI.1.2.2.1
  have hS := hI.1.1.2.1
  have hT := hI.2
  refine ⟨ok_Mo_wayWhy, Nat.le_of_ble_eq_true rfl, ?_⟩
  refine wq_aload_n (kk := 0) (q := 1) rfl rfl rfl ?_
  refine wq_iload_n (kk := 1) (q := 2) rfl rfl rfl ?_
  refine wq_callV (q := 5) (m' := m_Mo_isSpot) (R' := rm 2) (As := [_]) rfl rfl l_Mo_263 vm_Mo_isSpot rfl rfl rfl (Or.inl ⟨rfl, Nat.le_of_ble_eq_true rfl⟩) (Nat.le_of_ble_eq_true rfl) (Nat.le_of_ble_eq_true rfl) (Nat.le_refl _) (Nat.le_refl _) (Nat.le_of_ble_eq_true rfl) (Mo_isSpot_ok a h r (by omega) (by omega) (by omega)) rfl ?_
  rintro rv h r ⟨rfl, rfl, rfl⟩ -
  refine wq_cif_eq (tgt := 20) (q := 8) rfl rfl rfl (fun c5 => ?_) (fun c5 => ?_)
  · skip
    refine wq_iconst (n := 0) (q := 21) rfl rfl rfl ?_
    refine wq_iload_n (kk := 3) (q := 22) rfl rfl rfl ?_
    refine wq_iconst (n := 0) (q := 23) rfl rfl rfl ?_
    refine wq_sipush (n := 1999) (q := 26) rfl rfl rfl ?_
    refine wq_callS (q := 29) (m' := m_Mo_in) (R' := rm 1) (As := [_, _, _]) rfl rfl l_Mo_107 sm_Mo_in rfl (Nat.le_of_ble_eq_true rfl) (Nat.le_of_ble_eq_true rfl) (Nat.le_refl _) (Nat.le_refl _) (Nat.le_of_ble_eq_true rfl) (Mo_in_ok _ _ _ h r) rfl ?_
    rintro rv h r ⟨rfl, rfl, rfl⟩ -
    refine wq_callS (q := 32) (m' := m_Mo_unless_) (R' := rm 1) (As := [_, _]) rfl rfl l_Mo_304 sm_Mo_unless_ rfl (Nat.le_of_ble_eq_true rfl) (Nat.le_of_ble_eq_true rfl) (Nat.le_refl _) (Nat.le_refl _) (Nat.le_of_ble_eq_true rfl) (Mo_unless2_ok _ _ h r) rfl ?_
    rintro rv h r ⟨rfl, rfl, rfl⟩ -
    refine wq_iret rfl rfl (Nat.le_refl _) (Nat.le_refl _) ⟨?_, rfl, rfl⟩
    congr 2
    unfold kP
    first
    | (rw [if_neg (show ¬ (1 : Int) = 0 by decide), if_pos (show (0 ≤ a ∧ a < nS N) ∧ 0 ≤ b ∧ b < nS N by omega)])
    | (rw [if_pos rfl, if_neg (show ¬ ((0 ≤ a ∧ a < nS N) ∧ 0 ≤ b ∧ b < nS N) by omega)])
  · skip
    refine wq_aload_n (kk := 0) (q := 9) rfl rfl rfl ?_
    refine wq_iload_n (kk := 2) (q := 10) rfl rfl rfl ?_
    refine wq_callV (q := 13) (m' := m_Mo_isSpot) (R' := rm 2) (As := [_]) rfl rfl l_Mo_263 vm_Mo_isSpot rfl rfl rfl (Or.inl ⟨rfl, Nat.le_of_ble_eq_true rfl⟩) (Nat.le_of_ble_eq_true rfl) (Nat.le_of_ble_eq_true rfl) (Nat.le_refl _) (Nat.le_refl _) (Nat.le_of_ble_eq_true rfl) (Mo_isSpot_ok b h r (by omega) (by omega) (by omega)) rfl ?_
    rintro rv h r ⟨rfl, rfl, rfl⟩ -
    refine wq_cif_eq (tgt := 20) (q := 16) rfl rfl rfl (fun c13 => ?_) (fun c13 => ?_)
    · skip
      refine wq_iconst (n := 0) (q := 21) rfl rfl rfl ?_
      refine wq_iload_n (kk := 3) (q := 22) rfl rfl rfl ?_
      refine wq_iconst (n := 0) (q := 23) rfl rfl rfl ?_
      refine wq_sipush (n := 1999) (q := 26) rfl rfl rfl ?_
      refine wq_callS (q := 29) (m' := m_Mo_in) (R' := rm 1) (As := [_, _, _]) rfl rfl l_Mo_107 sm_Mo_in rfl (Nat.le_of_ble_eq_true rfl) (Nat.le_of_ble_eq_true rfl) (Nat.le_refl _) (Nat.le_refl _) (Nat.le_of_ble_eq_true rfl) (Mo_in_ok _ _ _ h r) rfl ?_
      rintro rv h r ⟨rfl, rfl, rfl⟩ -
      refine wq_callS (q := 32) (m' := m_Mo_unless_) (R' := rm 1) (As := [_, _]) rfl rfl l_Mo_304 sm_Mo_unless_ rfl (Nat.le_of_ble_eq_true rfl) (Nat.le_of_ble_eq_true rfl) (Nat.le_refl _) (Nat.le_refl _) (Nat.le_of_ble_eq_true rfl) (Mo_unless2_ok _ _ h r) rfl ?_
      rintro rv h r ⟨rfl, rfl, rfl⟩ -
      refine wq_iret rfl rfl (Nat.le_refl _) (Nat.le_refl _) ⟨?_, rfl, rfl⟩
      congr 2
      unfold kP
      first
      | (rw [if_neg (show ¬ (1 : Int) = 0 by decide), if_pos (show (0 ≤ a ∧ a < nS N) ∧ 0 ≤ b ∧ b < nS N by omega)])
      | (rw [if_pos rfl, if_neg (show ¬ ((0 ≤ a ∧ a < nS N) ∧ 0 ≤ b ∧ b < nS N) by omega)])
    · skip
      refine wq_iconst (n := 1) (q := 17) rfl rfl rfl ?_
      refine wq_goto (tgt := 21) rfl rfl ?_
      refine wq_iload_n (kk := 3) (q := 22) rfl rfl rfl ?_
      refine wq_iconst (n := 0) (q := 23) rfl rfl rfl ?_
      refine wq_sipush (n := 1999) (q := 26) rfl rfl rfl ?_
      refine wq_callS (q := 29) (m' := m_Mo_in) (R' := rm 1) (As := [_, _, _]) rfl rfl l_Mo_107 sm_Mo_in rfl (Nat.le_of_ble_eq_true rfl) (Nat.le_of_ble_eq_true rfl) (Nat.le_refl _) (Nat.le_refl _) (Nat.le_of_ble_eq_true rfl) (Mo_in_ok _ _ _ h r) rfl ?_
      rintro rv h r ⟨rfl, rfl, rfl⟩ -
      refine wq_callS (q := 32) (m' := m_Mo_unless_) (R' := rm 1) (As := [_, _]) rfl rfl l_Mo_304 sm_Mo_unless_ rfl (Nat.le_of_ble_eq_true rfl) (Nat.le_of_ble_eq_true rfl) (Nat.le_refl _) (Nat.le_refl _) (Nat.le_of_ble_eq_true rfl) (Mo_unless2_ok _ _ h r) rfl ?_
      rintro rv h r ⟨rfl, rfl, rfl⟩ -
      refine wq_iret rfl rfl (Nat.le_refl _) (Nat.le_refl _) ⟨?_, rfl, rfl⟩
      congr 2
      unfold kP
      first
      | (rw [if_neg (show ¬ (1 : Int) = 0 by decide), if_pos (show (0 ≤ a ∧ a < nS N) ∧ 0 ≤ b ∧ b < nS N by omega)])
      | (rw [if_pos rfl, if_neg (show ¬ ((0 ≤ a ∧ a < nS N) ∧ 0 ≤ b ∧ b < nS N) by omega)])
/-- what best() leaves -/
abbrev beQ (N : mN) (a b t : Int) (h : mH) (r : mR) : mP := fun rv h1 r1 => r1 = r ∧ f64 [28] lgC h h1 ∧ rv = some (vI (bb N a t b)) ∧ (a = b ∧ bb N a t b = t ∨ a ≠ b ∧ goal N b h1 ∧ ∃ f, Bst N a b t 9999 (h1 73) (h1 74) (h1 75) (h1 76) f ∧ (f = -1 ∧ bb N a t b = -2 ∨ f ≠ -1 ∧ bb N a t b = h1 73 f ∧ 0 ≤ h1 73 f ∧ h1 73 f ≤ 1700))
set_option maxRecDepth 100000 in
set_option maxHeartbeats 1000000 in
theorem Mo_best_ok (N : mN) (a b t : Int) (h : mH) (r : mR) (hM : isM h N) (hb : 0 ≤ b ∧ b < nS N) (ht : t < 1000000) : Meets true (rm 7) m_Mo_best [vR 64, vI a, vI b, vI t] h r (beQ N a b t h r) := by
  have hV := hM.1
  have hn := hV.1
  refine ⟨ok_Mo_best, Nat.le_of_ble_eq_true rfl, ?_⟩
  refine wq_iload_n (kk := 1) (q := 1) rfl rfl rfl ?_
  refine wq_iload_n (kk := 2) (q := 2) rfl rfl rfl ?_
  refine wq_icmp_ne (tgt := 7) (q := 5) rfl rfl rfl (fun c2 => ?_) (fun c2 => ?_)
  · skip
    refine wq_aload_n (kk := 0) (q := 8) rfl rfl rfl ?_
    refine wq_iload_n (kk := 2) (q := 9) rfl rfl rfl ?_
    refine wq_callV (q := 12) (m' := m_Mo_laysGoal) (R' := rm 6) (As := [_]) rfl rfl l_Mo_298 vm_Mo_laysGoal rfl rfl rfl (Or.inl ⟨rfl, Nat.le_of_ble_eq_true rfl⟩) (Nat.le_of_ble_eq_true rfl) (Nat.le_of_ble_eq_true rfl) (Nat.le_refl _) (Nat.le_refl _) (Nat.le_of_ble_eq_true rfl) (Mo_laysGoal_ok N b h r hM) rfl ?_
    rintro rv h1 r ⟨rfl, rfl, f1, hG⟩ -
    have hM1 := isM_f hM f1.1 (by decide)
    refine wq_aload_n (kk := 0) (q := 13) rfl rfl rfl ?_
    refine wq_iload_n (kk := 1) (q := 14) rfl rfl rfl ?_
    refine wq_iload_n (kk := 3) (q := 15) rfl rfl rfl ?_
    refine wq_callV (q := 18) (m' := m_Mo_firstOf) (R' := rm 4) (As := [_, _]) rfl rfl l_Mo_301 vm_Mo_firstOf rfl rfl rfl (Or.inl ⟨rfl, Nat.le_of_ble_eq_true rfl⟩) (Nat.le_of_ble_eq_true rfl) (Nat.le_of_ble_eq_true rfl) (Nat.le_refl _) (Nat.le_refl _) (Nat.le_of_ble_eq_true rfl) (Mo_firstOf_ok N a t b h1 r hM1 hG) rfl ?_
    rintro rv h1 r ⟨f, rfl, rfl, rfl, hF⟩ -
    have hB : Bst N a b t 9999 (h1 73) (h1 74) (h1 75) (h1 76) f := ⟨hG.1, by decide, hF⟩
    have hs := hB.sn hV hb c2
    have hfd : f ≠ -1 → 0 ≤ f ∧ f < nN N := fun z => (hB.fc z).1
    refine wq_istore (i := 4) (q := 20) rfl rfl (Nat.le_of_ble_eq_true rfl) rfl ?_
    refine wq_iload (i := 4) (q := 22) rfl rfl rfl ?_
    refine wq_iconst (n := -1) (q := 23) rfl rfl rfl ?_
    refine wq_icmp_ne (tgt := 31) (q := 26) rfl rfl rfl (fun c23 => ?_) (fun c23 => ?_)
    · skip
      refine wq_aload_n (kk := 0) (q := 32) rfl rfl rfl ?_
      refine wq_getF (q := 35) f_Mo_39 rfl rfl (Nat.le_of_ble_eq_true rfl) rfl rfl rfl ?_
      refine wq_iload (i := 4) (q := 37) rfl rfl rfl ?_
      refine wq_iald (q := 38) rfl (Or.inl ⟨rfl, Nat.le_of_ble_eq_true rfl⟩) rfl rfl (by first | omega | (have := hfd (by omega); omega)) (by first | omega | (have := hfd (by omega); omega)) ?_
      first
      | (have e : bb N a t b = -2 := by unfold bb; rw [if_pos (by omega)]
         exact wq_iret rfl rfl (Nat.le_refl _) (Nat.le_refl _) ⟨rfl, f1, by rw [e], Or.inr ⟨c2, hG, f, hB, Or.inl ⟨by omega, e⟩⟩⟩)
      | (have e : bb N a t b = h1 73 f := by unfold bb; rw [if_neg (by omega)]; omega
         exact wq_iret rfl rfl (Nat.le_refl _) (Nat.le_refl _) ⟨rfl, f1, by rw [e], Or.inr ⟨c2, hG, f, hB, Or.inr ⟨by omega, e, by omega, by omega⟩⟩⟩)
    · skip
      refine wq_bipush (n := -2) (q := 28) rfl rfl rfl ?_
      refine wq_goto (tgt := 38) rfl rfl ?_
      first
      | (have e : bb N a t b = -2 := by unfold bb; rw [if_pos (by omega)]
         exact wq_iret rfl rfl (Nat.le_refl _) (Nat.le_refl _) ⟨rfl, f1, by rw [e], Or.inr ⟨c2, hG, f, hB, Or.inl ⟨by omega, e⟩⟩⟩)
      | (have e : bb N a t b = h1 73 f := by unfold bb; rw [if_neg (by omega)]; omega
         exact wq_iret rfl rfl (Nat.le_refl _) (Nat.le_refl _) ⟨rfl, f1, by rw [e], Or.inr ⟨c2, hG, f, hB, Or.inr ⟨by omega, e, by omega, by omega⟩⟩⟩)
  · skip
    refine wq_iload_n (kk := 3) (q := 6) rfl rfl rfl ?_
    have e : bb N a t b = t := by subst c2; unfold bb; rw [sn_a, if_neg (by omega)]
    exact wq_iret rfl rfl (Nat.le_refl _) (Nat.le_refl _) ⟨rfl, f64.rf, by rw [e], Or.inl ⟨c2, e⟩⟩
/-- what begins() leaves -/
abbrev bgQ (N : mN) (a b t : Int) (h : mH) (r : mR) : mP := fun rv h1 r1 => r1 = r ∧ f64 [28] lgC h h1 ∧ ∃ f, rv = some (vI f) ∧ (a = b ∧ f = -1 ∨ a ≠ b ∧ goal N b h1 ∧ Bst N a b t 9999 (h1 73) (h1 74) (h1 75) (h1 76) f)
set_option maxRecDepth 100000 in
set_option maxHeartbeats 1000000 in
theorem Mo_begins_ok (N : mN) (a b t : Int) (h : mH) (r : mR) (hM : isM h N) (hb : 0 ≤ b ∧ b < nS N) (ht : t < 1000000) : Meets true (rm 8) m_Mo_begins_ [vR 64, vI a, vI b, vI t] h r (bgQ N a b t h r) := by
  refine ⟨ok_Mo_begins_, Nat.le_of_ble_eq_true rfl, ?_⟩
  refine wq_aload_n (kk := 0) (q := 1) rfl rfl rfl ?_
  refine wq_iload_n (kk := 1) (q := 2) rfl rfl rfl ?_
  refine wq_iload_n (kk := 2) (q := 3) rfl rfl rfl ?_
  refine wq_iload_n (kk := 3) (q := 4) rfl rfl rfl ?_
  refine wq_callV (q := 7) (m' := m_Mo_best) (R' := rm 7) (As := [_, _, _]) rfl rfl l_Mo_311 vm_Mo_best rfl rfl rfl (Or.inl ⟨rfl, Nat.le_of_ble_eq_true rfl⟩) (Nat.le_of_ble_eq_true rfl) (Nat.le_of_ble_eq_true rfl) (Nat.le_refl _) (Nat.le_refl _) (Nat.le_of_ble_eq_true rfl) (Mo_best_ok N a b t h r hM hb ht) rfl ?_
  rintro rv h1 r ⟨rfl, f1, rfl, hc⟩ -
  have hM1 := isM_f hM f1.1 (by decide)
  refine wq_istore (i := 4) (q := 9) rfl rfl (Nat.le_of_ble_eq_true rfl) rfl ?_
  refine wq_iload_n (kk := 1) (q := 10) rfl rfl rfl ?_
  refine wq_iload_n (kk := 2) (q := 11) rfl rfl rfl ?_
  refine wq_icmp_eq (tgt := 21) (q := 14) rfl rfl rfl (fun c11 => ?_) (fun c11 => ?_)
  · skip
    refine wq_iconst (n := -1) (q := 22) rfl rfl rfl ?_
    refine wq_goto (tgt := 31) rfl rfl ?_
    first
    | exact wq_iret rfl rfl (Nat.le_refl _) (Nat.le_refl _) ⟨rfl, f1, -1, rfl, Or.inl ⟨c11, rfl⟩⟩
    | (obtain ⟨y, -⟩ | ⟨-, hG, f, hB, ⟨rfl, -⟩ | ⟨y, e, y1, y2⟩⟩ := hc
       · exact absurd y c11
       · exact wq_iret rfl rfl (Nat.le_refl _) (Nat.le_refl _) ⟨rfl, f1, -1, rfl, Or.inr ⟨c11, hG, hB⟩⟩
       · exfalso; omega)
  · skip
    refine wq_iload (i := 4) (q := 16) rfl rfl rfl ?_
    refine wq_bipush (n := -2) (q := 18) rfl rfl rfl ?_
    refine wq_icmp_ne (tgt := 25) (q := 21) rfl rfl rfl (fun c18 => ?_) (fun c18 => ?_)
    · skip
      obtain ⟨y, -⟩ | ⟨-, hG, f, hB, hf⟩ := hc
      · exact absurd y c11
      refine wq_aload_n (kk := 0) (q := 26) rfl rfl rfl ?_
      refine wq_iload_n (kk := 1) (q := 27) rfl rfl rfl ?_
      refine wq_iload_n (kk := 3) (q := 28) rfl rfl rfl ?_
      refine wq_callV (q := 31) (m' := m_Mo_firstOf) (R' := rm 4) (As := [_, _]) rfl rfl l_Mo_301 vm_Mo_firstOf rfl rfl rfl (Or.inl ⟨rfl, Nat.le_of_ble_eq_true rfl⟩) (Nat.le_of_ble_eq_true rfl) (Nat.le_of_ble_eq_true rfl) (Nat.le_refl _) (Nat.le_refl _) (Nat.le_of_ble_eq_true rfl) (Mo_firstOf_ok N a t b h1 r hM1 hG) rfl ?_
      rintro rv h1 r ⟨f', rfl, rfl, rfl, hF⟩ -
      exact wq_iret rfl rfl (Nat.le_refl _) (Nat.le_refl _) ⟨rfl, f1, f', rfl, Or.inr ⟨c11, hG, hG.1, by decide, hF⟩⟩
    · skip
      refine wq_iconst (n := -1) (q := 22) rfl rfl rfl ?_
      refine wq_goto (tgt := 31) rfl rfl ?_
      first
      | exact wq_iret rfl rfl (Nat.le_refl _) (Nat.le_refl _) ⟨rfl, f1, -1, rfl, Or.inl ⟨c11, rfl⟩⟩
      | (obtain ⟨y, -⟩ | ⟨-, hG, f, hB, ⟨rfl, -⟩ | ⟨y, e, y1, y2⟩⟩ := hc
         · exact absurd y c11
         · exact wq_iret rfl rfl (Nat.le_refl _) (Nat.le_refl _) ⟨rfl, f1, -1, rfl, Or.inr ⟨c11, hG, hB⟩⟩
         · exfalso; omega)
theorem lgq {h h1 : mH} (f : f64 [28] lgC h h1) : f64 qF qK h h1 := f.mono (by decide) (by decide)
set_option maxRecDepth 100000 in
set_option maxHeartbeats 1000000 in
theorem Mo_arrives_ok (a b t : Int) (N : mN) (h : mH) (r : mR) (hI : mI h N) : Meets true (rm 8) m_Mo_arrives [vR 64, vI a, vI b, vI t] h r (rqQ h r (Ans (kP (nS N) a b (bI (isT t))) (Bq N a b t t (fun e c l x f => e f)))) := by
  refine ⟨ok_Mo_arrives, Nat.le_of_ble_eq_true rfl, ?_⟩
  refine wq_aload_n (kk := 0) (q := 1) rfl rfl rfl ?_
  refine wq_aload_n (kk := 0) (q := 2) rfl rfl rfl ?_
  refine wq_iload_n (kk := 1) (q := 3) rfl rfl rfl ?_
  refine wq_iload_n (kk := 2) (q := 4) rfl rfl rfl ?_
  refine wq_iload_n (kk := 3) (q := 5) rfl rfl rfl ?_
  refine wq_callV (q := 8) (m' := m_Mo_wayWhy) (R' := rm 3) (As := [_, _, _]) rfl rfl l_Mo_307 vm_Mo_wayWhy rfl rfl rfl (Or.inl ⟨rfl, Nat.le_of_ble_eq_true rfl⟩) (Nat.le_of_ble_eq_true rfl) (Nat.le_of_ble_eq_true rfl) (Nat.le_refl _) (Nat.le_refl _) (Nat.le_of_ble_eq_true rfl) (Mo_wayWhy_ok a b t N h r hI) rfl ?_
  rintro rv h r ⟨rfl, rfl, rfl⟩ -
  generalize hk : kP (nS N) a b (bI (isT t)) = k
  refine wq_callV (q := 11) (m' := m_Mo_isRefused) (R' := rm 1) (As := [_]) rfl rfl l_Mo_228 vm_Mo_isRefused rfl rfl rfl (Or.inl ⟨rfl, Nat.le_of_ble_eq_true rfl⟩) (Nat.le_of_ble_eq_true rfl) (Nat.le_of_ble_eq_true rfl) (Nat.le_refl _) (Nat.le_refl _) (Nat.le_of_ble_eq_true rfl) (Mo_isRefused_ok k h r) rfl ?_
  rintro rv h1 r ⟨rfl, rfl, rfl⟩ -
  have f1 := x_ref_f (S := qF) (C := qK) (h := h) (k := k) (by decide) (by decide) (by decide) (by decide)
  have I1 := mI_f hI f1 (by decide) (by decide)
  refine wq_cif_eq (tgt := 18) (q := 14) rfl rfl rfl (fun c11 => ?_) (fun c11 => ?_)
  · skip
    have k0 : k = 0 := by simpa using c11
    subst k0
    have hab := kP_0 hk
    have ht := bI_ne hab.2
    refine wq_aload_n (kk := 0) (q := 19) rfl rfl rfl ?_
    refine wq_iload_n (kk := 1) (q := 20) rfl rfl rfl ?_
    refine wq_iload_n (kk := 2) (q := 21) rfl rfl rfl ?_
    refine wq_iload_n (kk := 3) (q := 22) rfl rfl rfl ?_
    refine wq_callV (q := 25) (m' := m_Mo_best) (R' := rm 7) (As := [_, _, _]) rfl rfl l_Mo_311 vm_Mo_best rfl rfl rfl (Or.inl ⟨rfl, Nat.le_of_ble_eq_true rfl⟩) (Nat.le_of_ble_eq_true rfl) (Nat.le_of_ble_eq_true rfl) (Nat.le_refl _) (Nat.le_refl _) (Nat.le_of_ble_eq_true rfl) (Mo_best_ok N a b t _ r I1.1 hab.1.2 (by omega)) rfl ?_
    rintro rv h2 r ⟨rfl, f2, rfl, hc⟩ -
    have e1 : h2 64 1 = 0 := by rw [f2.2 1 (by decide)]; exact hup_s
    refine wq_iret rfl rfl (Nat.le_refl _) (Nat.le_refl _) ⟨_, rfl, rfl, Or.inr ⟨rfl, e1, ?_⟩, by omega, f1.tr (lgq f2) (fun _ y => y) (fun _ y => y)⟩
    rcases hc with z | ⟨z, hG, f, hB, hf⟩
    · exact Or.inl z
    · exact Or.inr ⟨z, _, _, _, _, _, f, hB, hf.imp id (fun y => ⟨y.1, y.2.1⟩)⟩
  · skip
    refine wq_iconst (n := -1) (q := 15) rfl rfl rfl ?_
    refine wq_goto (tgt := 25) rfl rfl ?_
    exact wq_iret rfl rfl (Nat.le_refl _) (Nat.le_refl _) ⟨_, rfl, rfl, Or.inl ⟨c11, rfl, hup_s⟩, by rw [x_ref_1]; have := kP_b (n := nS N) (a := a) (b := b) (g := bI (isT t)); omega, f1⟩
set_option maxRecDepth 100000 in
set_option maxHeartbeats 1000000 in
theorem Mo_changes_ok (a b t : Int) (N : mN) (h : mH) (r : mR) (hI : mI h N) : Meets true (rm 9) m_Mo_changes [vR 64, vI a, vI b, vI t] h r (rqQ h r (Ans (kP (nS N) a b (bI (isT t))) (Bq N a b t 0 (fun e c l x f => c f)))) := by
  refine ⟨ok_Mo_changes, Nat.le_of_ble_eq_true rfl, ?_⟩
  refine wq_aload_n (kk := 0) (q := 1) rfl rfl rfl ?_
  refine wq_aload_n (kk := 0) (q := 2) rfl rfl rfl ?_
  refine wq_iload_n (kk := 1) (q := 3) rfl rfl rfl ?_
  refine wq_iload_n (kk := 2) (q := 4) rfl rfl rfl ?_
  refine wq_iload_n (kk := 3) (q := 5) rfl rfl rfl ?_
  refine wq_callV (q := 8) (m' := m_Mo_wayWhy) (R' := rm 3) (As := [_, _, _]) rfl rfl l_Mo_307 vm_Mo_wayWhy rfl rfl rfl (Or.inl ⟨rfl, Nat.le_of_ble_eq_true rfl⟩) (Nat.le_of_ble_eq_true rfl) (Nat.le_of_ble_eq_true rfl) (Nat.le_refl _) (Nat.le_refl _) (Nat.le_of_ble_eq_true rfl) (Mo_wayWhy_ok a b t N h r hI) rfl ?_
  rintro rv h r ⟨rfl, rfl, rfl⟩ -
  generalize hk : kP (nS N) a b (bI (isT t)) = k
  refine wq_callV (q := 11) (m' := m_Mo_isRefused) (R' := rm 1) (As := [_]) rfl rfl l_Mo_228 vm_Mo_isRefused rfl rfl rfl (Or.inl ⟨rfl, Nat.le_of_ble_eq_true rfl⟩) (Nat.le_of_ble_eq_true rfl) (Nat.le_of_ble_eq_true rfl) (Nat.le_refl _) (Nat.le_refl _) (Nat.le_of_ble_eq_true rfl) (Mo_isRefused_ok k h r) rfl ?_
  rintro rv h1 r ⟨rfl, rfl, rfl⟩ -
  have f1 := x_ref_f (S := qF) (C := qK) (h := h) (k := k) (by decide) (by decide) (by decide) (by decide)
  have I1 := mI_f hI f1 (by decide) (by decide)
  refine wq_cif_eq (tgt := 16) (q := 14) rfl rfl rfl (fun c11 => ?_) (fun c11 => ?_)
  · skip
    have k0 : k = 0 := by simpa using c11
    subst k0
    have hab := kP_0 hk
    have ht := bI_ne hab.2
    refine wq_aload_n (kk := 0) (q := 17) rfl rfl rfl ?_
    refine wq_iload_n (kk := 1) (q := 18) rfl rfl rfl ?_
    refine wq_iload_n (kk := 2) (q := 19) rfl rfl rfl ?_
    refine wq_iload_n (kk := 3) (q := 20) rfl rfl rfl ?_
    refine wq_callV (q := 23) (m' := m_Mo_begins_) (R' := rm 8) (As := [_, _, _]) rfl rfl l_Mo_314 vm_Mo_begins_ rfl rfl rfl (Or.inl ⟨rfl, Nat.le_of_ble_eq_true rfl⟩) (Nat.le_of_ble_eq_true rfl) (Nat.le_of_ble_eq_true rfl) (Nat.le_refl _) (Nat.le_refl _) (Nat.le_of_ble_eq_true rfl) (Mo_begins_ok N a b t _ r I1.1 hab.1.2 (by omega)) rfl ?_
    rintro rv h2 r ⟨rfl, f2, f, rfl, hc⟩ -
    have hM2 := isM_f I1.1 f2.1 (by decide)
    have hV := hM2.1
    have hn := hV.1
    have e1 : h2 64 1 = 0 := by rw [f2.2 1 (by decide)]; exact hup_s
    have f3 := f1.tr (lgq f2) (fun _ y => y) (fun _ y => y)
    have hfd : f ≠ -1 → a ≠ b ∧ (0 ≤ f ∧ f < nN N) := fun z => hc.elim (fun y => absurd y.2 z) (fun y => ⟨y.1, (y.2.2.fc z).1⟩)
    refine wq_istore (i := 4) (q := 25) rfl rfl (Nat.le_of_ble_eq_true rfl) rfl ?_
    refine wq_iload (i := 4) (q := 27) rfl rfl rfl ?_
    refine wq_iconst (n := -1) (q := 28) rfl rfl rfl ?_
    refine wq_icmp_ne (tgt := 45) (q := 31) rfl rfl rfl (fun c28 => ?_) (fun c28 => ?_)
    · skip
      refine wq_aload_n (kk := 0) (q := 46) rfl rfl rfl ?_
      refine wq_getF (q := 49) f_Mo_42 rfl rfl (Nat.le_of_ble_eq_true rfl) rfl rfl rfl ?_
      refine wq_iload (i := 4) (q := 51) rfl rfl rfl ?_
      refine wq_iald (q := 52) rfl (Or.inl ⟨rfl, Nat.le_of_ble_eq_true rfl⟩) rfl rfl (by first | omega | (have := hfd (by omega); omega)) (by first | omega | (have := hfd (by omega); omega)) ?_
      refine wq_iret rfl rfl (Nat.le_refl _) (Nat.le_refl _) ⟨_, rfl, rfl, Or.inr ⟨rfl, e1, ?_⟩, by omega, f3⟩
      rcases hc with z | ⟨z, hG, hB⟩
      · first | exact Or.inl ⟨z.1, rfl⟩ | (exfalso; omega)
      · refine Or.inr ⟨z, _, _, _, _, _, f, hB, ?_⟩
        first | exact Or.inl ⟨by omega, rfl⟩ | exact Or.inr ⟨by omega, rfl⟩ | (exfalso; omega)
    · skip
      refine wq_iload_n (kk := 1) (q := 32) rfl rfl rfl ?_
      refine wq_iload_n (kk := 2) (q := 33) rfl rfl rfl ?_
      refine wq_icmp_ne (tgt := 40) (q := 36) rfl rfl rfl (fun c33 => ?_) (fun c33 => ?_)
      · skip
        refine wq_bipush (n := -2) (q := 42) rfl rfl rfl ?_
        refine wq_goto (tgt := 52) rfl rfl ?_
        refine wq_iret rfl rfl (Nat.le_refl _) (Nat.le_refl _) ⟨_, rfl, rfl, Or.inr ⟨rfl, e1, ?_⟩, by omega, f3⟩
        rcases hc with z | ⟨z, hG, hB⟩
        · first | exact Or.inl ⟨z.1, rfl⟩ | (exfalso; omega)
        · refine Or.inr ⟨z, _, _, _, _, _, f, hB, ?_⟩
          first | exact Or.inl ⟨by omega, rfl⟩ | exact Or.inr ⟨by omega, rfl⟩ | (exfalso; omega)
      · skip
        refine wq_iconst (n := 0) (q := 37) rfl rfl rfl ?_
        refine wq_goto (tgt := 52) rfl rfl ?_
        refine wq_iret rfl rfl (Nat.le_refl _) (Nat.le_refl _) ⟨_, rfl, rfl, Or.inr ⟨rfl, e1, ?_⟩, by omega, f3⟩
        rcases hc with z | ⟨z, hG, hB⟩
        · first | exact Or.inl ⟨z.1, rfl⟩ | (exfalso; omega)
        · refine Or.inr ⟨z, _, _, _, _, _, f, hB, ?_⟩
          first | exact Or.inl ⟨by omega, rfl⟩ | exact Or.inr ⟨by omega, rfl⟩ | (exfalso; omega)
  · skip
    refine wq_iconst (n := -1) (q := 15) rfl rfl rfl ?_
    exact wq_iret rfl rfl (Nat.le_refl _) (Nat.le_refl _) ⟨_, rfl, rfl, Or.inl ⟨c11, rfl, hup_s⟩, by rw [x_ref_1]; have := kP_b (n := nS N) (a := a) (b := b) (g := bI (isT t)); omega, f1⟩
set_option maxRecDepth 100000 in
set_option maxHeartbeats 1000000 in
theorem Mo_rides_ok (a b t : Int) (N : mN) (h : mH) (r : mR) (hI : mI h N) : Meets true (rm 9) m_Mo_rides [vR 64, vI a, vI b, vI t] h r (rqQ h r (Ans (kP (nS N) a b (bI (isT t))) (Bq N a b t 0 (fun e c l x f => l f)))) := by
  refine ⟨ok_Mo_rides, Nat.le_of_ble_eq_true rfl, ?_⟩
  refine wq_aload_n (kk := 0) (q := 1) rfl rfl rfl ?_
  refine wq_aload_n (kk := 0) (q := 2) rfl rfl rfl ?_
  refine wq_iload_n (kk := 1) (q := 3) rfl rfl rfl ?_
  refine wq_iload_n (kk := 2) (q := 4) rfl rfl rfl ?_
  refine wq_iload_n (kk := 3) (q := 5) rfl rfl rfl ?_
  refine wq_callV (q := 8) (m' := m_Mo_wayWhy) (R' := rm 3) (As := [_, _, _]) rfl rfl l_Mo_307 vm_Mo_wayWhy rfl rfl rfl (Or.inl ⟨rfl, Nat.le_of_ble_eq_true rfl⟩) (Nat.le_of_ble_eq_true rfl) (Nat.le_of_ble_eq_true rfl) (Nat.le_refl _) (Nat.le_refl _) (Nat.le_of_ble_eq_true rfl) (Mo_wayWhy_ok a b t N h r hI) rfl ?_
  rintro rv h r ⟨rfl, rfl, rfl⟩ -
  generalize hk : kP (nS N) a b (bI (isT t)) = k
  refine wq_callV (q := 11) (m' := m_Mo_isRefused) (R' := rm 1) (As := [_]) rfl rfl l_Mo_228 vm_Mo_isRefused rfl rfl rfl (Or.inl ⟨rfl, Nat.le_of_ble_eq_true rfl⟩) (Nat.le_of_ble_eq_true rfl) (Nat.le_of_ble_eq_true rfl) (Nat.le_refl _) (Nat.le_refl _) (Nat.le_of_ble_eq_true rfl) (Mo_isRefused_ok k h r) rfl ?_
  rintro rv h1 r ⟨rfl, rfl, rfl⟩ -
  have f1 := x_ref_f (S := qF) (C := qK) (h := h) (k := k) (by decide) (by decide) (by decide) (by decide)
  have I1 := mI_f hI f1 (by decide) (by decide)
  refine wq_cif_eq (tgt := 16) (q := 14) rfl rfl rfl (fun c11 => ?_) (fun c11 => ?_)
  · skip
    have k0 : k = 0 := by simpa using c11
    subst k0
    have hab := kP_0 hk
    have ht := bI_ne hab.2
    refine wq_aload_n (kk := 0) (q := 17) rfl rfl rfl ?_
    refine wq_iload_n (kk := 1) (q := 18) rfl rfl rfl ?_
    refine wq_iload_n (kk := 2) (q := 19) rfl rfl rfl ?_
    refine wq_iload_n (kk := 3) (q := 20) rfl rfl rfl ?_
    refine wq_callV (q := 23) (m' := m_Mo_begins_) (R' := rm 8) (As := [_, _, _]) rfl rfl l_Mo_314 vm_Mo_begins_ rfl rfl rfl (Or.inl ⟨rfl, Nat.le_of_ble_eq_true rfl⟩) (Nat.le_of_ble_eq_true rfl) (Nat.le_of_ble_eq_true rfl) (Nat.le_refl _) (Nat.le_refl _) (Nat.le_of_ble_eq_true rfl) (Mo_begins_ok N a b t _ r I1.1 hab.1.2 (by omega)) rfl ?_
    rintro rv h2 r ⟨rfl, f2, f, rfl, hc⟩ -
    have hM2 := isM_f I1.1 f2.1 (by decide)
    have hV := hM2.1
    have hn := hV.1
    have e1 : h2 64 1 = 0 := by rw [f2.2 1 (by decide)]; exact hup_s
    have f3 := f1.tr (lgq f2) (fun _ y => y) (fun _ y => y)
    have hfd : f ≠ -1 → a ≠ b ∧ (0 ≤ f ∧ f < nN N) := fun z => hc.elim (fun y => absurd y.2 z) (fun y => ⟨y.1, (y.2.2.fc z).1⟩)
    refine wq_istore (i := 4) (q := 25) rfl rfl (Nat.le_of_ble_eq_true rfl) rfl ?_
    refine wq_iload (i := 4) (q := 27) rfl rfl rfl ?_
    refine wq_iconst (n := -1) (q := 28) rfl rfl rfl ?_
    refine wq_icmp_ne (tgt := 45) (q := 31) rfl rfl rfl (fun c28 => ?_) (fun c28 => ?_)
    · skip
      refine wq_aload_n (kk := 0) (q := 46) rfl rfl rfl ?_
      refine wq_getF (q := 49) f_Mo_45 rfl rfl (Nat.le_of_ble_eq_true rfl) rfl rfl rfl ?_
      refine wq_iload (i := 4) (q := 51) rfl rfl rfl ?_
      refine wq_iald (q := 52) rfl (Or.inl ⟨rfl, Nat.le_of_ble_eq_true rfl⟩) rfl rfl (by first | omega | (have := hfd (by omega); omega)) (by first | omega | (have := hfd (by omega); omega)) ?_
      refine wq_iret rfl rfl (Nat.le_refl _) (Nat.le_refl _) ⟨_, rfl, rfl, Or.inr ⟨rfl, e1, ?_⟩, by omega, f3⟩
      rcases hc with z | ⟨z, hG, hB⟩
      · first | exact Or.inl ⟨z.1, rfl⟩ | (exfalso; omega)
      · refine Or.inr ⟨z, _, _, _, _, _, f, hB, ?_⟩
        first | exact Or.inl ⟨by omega, rfl⟩ | exact Or.inr ⟨by omega, rfl⟩ | (exfalso; omega)
    · skip
      refine wq_iload_n (kk := 1) (q := 32) rfl rfl rfl ?_
      refine wq_iload_n (kk := 2) (q := 33) rfl rfl rfl ?_
      refine wq_icmp_ne (tgt := 40) (q := 36) rfl rfl rfl (fun c33 => ?_) (fun c33 => ?_)
      · skip
        refine wq_bipush (n := -2) (q := 42) rfl rfl rfl ?_
        refine wq_goto (tgt := 52) rfl rfl ?_
        refine wq_iret rfl rfl (Nat.le_refl _) (Nat.le_refl _) ⟨_, rfl, rfl, Or.inr ⟨rfl, e1, ?_⟩, by omega, f3⟩
        rcases hc with z | ⟨z, hG, hB⟩
        · first | exact Or.inl ⟨z.1, rfl⟩ | (exfalso; omega)
        · refine Or.inr ⟨z, _, _, _, _, _, f, hB, ?_⟩
          first | exact Or.inl ⟨by omega, rfl⟩ | exact Or.inr ⟨by omega, rfl⟩ | (exfalso; omega)
      · skip
        refine wq_iconst (n := 0) (q := 37) rfl rfl rfl ?_
        refine wq_goto (tgt := 52) rfl rfl ?_
        refine wq_iret rfl rfl (Nat.le_refl _) (Nat.le_refl _) ⟨_, rfl, rfl, Or.inr ⟨rfl, e1, ?_⟩, by omega, f3⟩
        rcases hc with z | ⟨z, hG, hB⟩
        · first | exact Or.inl ⟨z.1, rfl⟩ | (exfalso; omega)
        · refine Or.inr ⟨z, _, _, _, _, _, f, hB, ?_⟩
          first | exact Or.inl ⟨by omega, rfl⟩ | exact Or.inr ⟨by omega, rfl⟩ | (exfalso; omega)
  · skip
    refine wq_iconst (n := -1) (q := 15) rfl rfl rfl ?_
    exact wq_iret rfl rfl (Nat.le_refl _) (Nat.le_refl _) ⟨_, rfl, rfl, Or.inl ⟨c11, rfl, hup_s⟩, by rw [x_ref_1]; have := kP_b (n := nS N) (a := a) (b := b) (g := bI (isT t)); omega, f1⟩
set_option maxRecDepth 100000 in
set_option maxHeartbeats 1000000 in
theorem Mo_leaves_ok (a b t : Int) (N : mN) (h : mH) (r : mR) (hI : mI h N) : Meets true (rm 9) m_Mo_leaves [vR 64, vI a, vI b, vI t] h r (rqQ h r (Ans (kP (nS N) a b (bI (isT t))) (Bq N a b t t (fun e c l x f => lv N f)))) := by
  refine ⟨ok_Mo_leaves, Nat.le_of_ble_eq_true rfl, ?_⟩
  refine wq_aload_n (kk := 0) (q := 1) rfl rfl rfl ?_
  refine wq_aload_n (kk := 0) (q := 2) rfl rfl rfl ?_
  refine wq_iload_n (kk := 1) (q := 3) rfl rfl rfl ?_
  refine wq_iload_n (kk := 2) (q := 4) rfl rfl rfl ?_
  refine wq_iload_n (kk := 3) (q := 5) rfl rfl rfl ?_
  refine wq_callV (q := 8) (m' := m_Mo_wayWhy) (R' := rm 3) (As := [_, _, _]) rfl rfl l_Mo_307 vm_Mo_wayWhy rfl rfl rfl (Or.inl ⟨rfl, Nat.le_of_ble_eq_true rfl⟩) (Nat.le_of_ble_eq_true rfl) (Nat.le_of_ble_eq_true rfl) (Nat.le_refl _) (Nat.le_refl _) (Nat.le_of_ble_eq_true rfl) (Mo_wayWhy_ok a b t N h r hI) rfl ?_
  rintro rv h r ⟨rfl, rfl, rfl⟩ -
  generalize hk : kP (nS N) a b (bI (isT t)) = k
  refine wq_callV (q := 11) (m' := m_Mo_isRefused) (R' := rm 1) (As := [_]) rfl rfl l_Mo_228 vm_Mo_isRefused rfl rfl rfl (Or.inl ⟨rfl, Nat.le_of_ble_eq_true rfl⟩) (Nat.le_of_ble_eq_true rfl) (Nat.le_of_ble_eq_true rfl) (Nat.le_refl _) (Nat.le_refl _) (Nat.le_of_ble_eq_true rfl) (Mo_isRefused_ok k h r) rfl ?_
  rintro rv h1 r ⟨rfl, rfl, rfl⟩ -
  have f1 := x_ref_f (S := qF) (C := qK) (h := h) (k := k) (by decide) (by decide) (by decide) (by decide)
  have I1 := mI_f hI f1 (by decide) (by decide)
  refine wq_cif_eq (tgt := 16) (q := 14) rfl rfl rfl (fun c11 => ?_) (fun c11 => ?_)
  · skip
    have k0 : k = 0 := by simpa using c11
    subst k0
    have hab := kP_0 hk
    have ht := bI_ne hab.2
    refine wq_aload_n (kk := 0) (q := 17) rfl rfl rfl ?_
    refine wq_iload_n (kk := 1) (q := 18) rfl rfl rfl ?_
    refine wq_iload_n (kk := 2) (q := 19) rfl rfl rfl ?_
    refine wq_iload_n (kk := 3) (q := 20) rfl rfl rfl ?_
    refine wq_callV (q := 23) (m' := m_Mo_begins_) (R' := rm 8) (As := [_, _, _]) rfl rfl l_Mo_314 vm_Mo_begins_ rfl rfl rfl (Or.inl ⟨rfl, Nat.le_of_ble_eq_true rfl⟩) (Nat.le_of_ble_eq_true rfl) (Nat.le_of_ble_eq_true rfl) (Nat.le_refl _) (Nat.le_refl _) (Nat.le_of_ble_eq_true rfl) (Mo_begins_ok N a b t _ r I1.1 hab.1.2 (by omega)) rfl ?_
    rintro rv h2 r ⟨rfl, f2, f, rfl, hc⟩ -
    have hM2 := isM_f I1.1 f2.1 (by decide)
    have hV := hM2.1
    have hn := hV.1
    have e1 : h2 64 1 = 0 := by rw [f2.2 1 (by decide)]; exact hup_s
    have f3 := f1.tr (lgq f2) (fun _ y => y) (fun _ y => y)
    have hfd : f ≠ -1 → a ≠ b ∧ (0 ≤ f ∧ f < nN N) := fun z => hc.elim (fun y => absurd y.2 z) (fun y => ⟨y.1, (y.2.2.fc z).1⟩)
    refine wq_istore (i := 4) (q := 25) rfl rfl (Nat.le_of_ble_eq_true rfl) rfl ?_
    refine wq_iload (i := 4) (q := 27) rfl rfl rfl ?_
    refine wq_iconst (n := -1) (q := 28) rfl rfl rfl ?_
    refine wq_icmp_ne (tgt := 45) (q := 31) rfl rfl rfl (fun c28 => ?_) (fun c28 => ?_)
    · skip
      refine wq_aload_n (kk := 0) (q := 46) rfl rfl rfl ?_
      refine wq_iload (i := 4) (q := 48) rfl rfl rfl ?_
      refine wq_callV (q := 51) (m' := m_Mo_leavesAt) (R' := rm 2) (As := [_]) rfl rfl l_Mo_250 vm_Mo_leavesAt rfl rfl rfl (Or.inl ⟨rfl, Nat.le_of_ble_eq_true rfl⟩) (Nat.le_of_ble_eq_true rfl) (Nat.le_of_ble_eq_true rfl) (Nat.le_refl _) (Nat.le_refl _) (Nat.le_of_ble_eq_true rfl) (Mo_leavesAt_ok N f h2 r hM2 (hfd c28).2) rfl ?_
      rintro rv h2 r ⟨rfl, rfl, rfl⟩ -
      refine wq_iret rfl rfl (Nat.le_refl _) (Nat.le_refl _) ⟨_, rfl, rfl, Or.inr ⟨rfl, e1, ?_⟩, by omega, f3⟩
      rcases hc with z | ⟨z, hG, hB⟩
      · first | exact Or.inl ⟨z.1, rfl⟩ | (exfalso; omega)
      · refine Or.inr ⟨z, _, _, _, _, _, f, hB, ?_⟩
        first | exact Or.inl ⟨by omega, rfl⟩ | exact Or.inr ⟨by omega, rfl⟩ | (exfalso; omega)
    · skip
      refine wq_iload_n (kk := 1) (q := 32) rfl rfl rfl ?_
      refine wq_iload_n (kk := 2) (q := 33) rfl rfl rfl ?_
      refine wq_icmp_ne (tgt := 40) (q := 36) rfl rfl rfl (fun c33 => ?_) (fun c33 => ?_)
      · skip
        refine wq_bipush (n := -2) (q := 42) rfl rfl rfl ?_
        refine wq_goto (tgt := 51) rfl rfl ?_
        refine wq_iret rfl rfl (Nat.le_refl _) (Nat.le_refl _) ⟨_, rfl, rfl, Or.inr ⟨rfl, e1, ?_⟩, by omega, f3⟩
        rcases hc with z | ⟨z, hG, hB⟩
        · first | exact Or.inl ⟨z.1, rfl⟩ | (exfalso; omega)
        · refine Or.inr ⟨z, _, _, _, _, _, f, hB, ?_⟩
          first | exact Or.inl ⟨by omega, rfl⟩ | exact Or.inr ⟨by omega, rfl⟩ | (exfalso; omega)
      · skip
        refine wq_iload_n (kk := 3) (q := 37) rfl rfl rfl ?_
        refine wq_goto (tgt := 51) rfl rfl ?_
        refine wq_iret rfl rfl (Nat.le_refl _) (Nat.le_refl _) ⟨_, rfl, rfl, Or.inr ⟨rfl, e1, ?_⟩, by omega, f3⟩
        rcases hc with z | ⟨z, hG, hB⟩
        · first | exact Or.inl ⟨z.1, rfl⟩ | (exfalso; omega)
        · refine Or.inr ⟨z, _, _, _, _, _, f, hB, ?_⟩
          first | exact Or.inl ⟨by omega, rfl⟩ | exact Or.inr ⟨by omega, rfl⟩ | (exfalso; omega)
  · skip
    refine wq_iconst (n := -1) (q := 15) rfl rfl rfl ?_
    exact wq_iret rfl rfl (Nat.le_refl _) (Nat.le_refl _) ⟨_, rfl, rfl, Or.inl ⟨c11, rfl, hup_s⟩, by rw [x_ref_1]; have := kP_b (n := nS N) (a := a) (b := b) (g := bI (isT t)); omega, f1⟩
set_option maxRecDepth 100000 in
set_option maxHeartbeats 1000000 in
theorem Mo_rideL (a b t i f : Int) (N : mN) (h : mH) (r : mR) (h1 : mH) (e1 : h1 64 1 = 0) (f1 : f64 qF qK h h1) (hV : NV N) (hab : a ≠ b) (hB : Bst N a b t 9999 (h1 73) (h1 74) (h1 75) (h1 76) f) (hf : f ≠ -1) (hl : h1 75 f ≤ 120) (P : Int → Int → Prop) (K : ∀ v tr, Rq N a b t i v tr → P v tr) : ∀ (M : Nat) (k : Int), (h1 75 f - k).toNat = M → 0 ≤ k → k ≤ h1 75 f → (k ≤ i ∨ k = 0) → WP (true, rm 9) m_Mo_ride (rt m_Mo_ride (rm 9) (rqQ h r P)) 42 [some (vR 64), some (vI a), some (vI b), some (vI t), some (vI i), some (vI (itr (h1 76) k.toNat f)), some (vI k)] [] h1 r (0, 0) := by
  intro M
  induction M using Nat.strongRecOn with
  | ind M ih =>
    intro k hM k0 k1 ki
    have hc := hB.fc hf
    have hn := hV.1
    have hk : k < h1 75 f → (0 ≤ itr (h1 76) k.toNat f ∧ itr (h1 76) k.toNat f < nN N) := fun z => (Lab.it hV hB.2.1 hB.1 hc.1 hc.2.1 hc.2.2.2.2 k.toNat (by omega)).1
    have he : k = h1 75 f → itr (h1 76) k.toNat f = -1 := fun z => Lab.ie hV hB.2.1 hB.1 hc.1 hc.2.1 hc.2.2.2.2 k.toNat (by omega)
    have hlt : itr (h1 76) k.toNat f ≠ -1 → k < h1 75 f := fun z => by
      by_cases y : k = h1 75 f
      · exact absurd (he y) z
      · omega
    refine wq_iload (i := 6) (q := 44) rfl rfl rfl ?_
    refine wq_iload (i := 4) (q := 46) rfl rfl rfl ?_
    refine wq_icmp_ge (tgt := 70) (q := 49) rfl rfl rfl (fun c46 => ?_) (fun c46 => ?_)
    · skip
      refine wq_iload (i := 4) (q := 72) rfl rfl rfl ?_
      refine wq_if_lt (tgt := 81) (q := 75) rfl rfl rfl (fun c72 => ?_) (fun c72 => ?_)
      · skip
        refine wq_aload_n (kk := 0) (q := 82) rfl rfl rfl ?_
        refine wq_iconst (n := 1) (q := 83) rfl rfl rfl ?_
        refine wq_callV (q := 86) (m' := m_Mo_no) (R' := rm 1) (As := [_]) rfl rfl l_Mo_237 vm_Mo_no rfl rfl rfl (Or.inl ⟨rfl, Nat.le_of_ble_eq_true rfl⟩) (Nat.le_of_ble_eq_true rfl) (Nat.le_of_ble_eq_true rfl) (Nat.le_refl _) (Nat.le_refl _) (Nat.le_of_ble_eq_true rfl) (Mo_no_ok 1 h1 r) rfl ?_
        rintro rv h2 r ⟨rfl, rfl, rfl⟩ -
        refine wq_goto (tgt := 91) rfl rfl ?_
        refine wq_iret rfl rfl (Nat.le_refl _) (Nat.le_refl _) ⟨_, rfl, rfl, K _ _ (Or.inr ⟨hab, _, _, _, _, _, f, hB, Or.inr ⟨hf, Or.inr ⟨fun z => ?_, rfl, hup_s⟩⟩⟩), by rw [hup_s]; decide, f1.up (by decide) (by decide)⟩
        first
        | omega
        | (have y : k < h1 75 f := by omega
           have := hk y
           omega)
      · skip
        refine wq_iload (i := 5) (q := 77) rfl rfl rfl ?_
        refine wq_iconst (n := -1) (q := 78) rfl rfl rfl ?_
        refine wq_icmp_ne (tgt := 89) (q := 81) rfl rfl rfl (fun c78 => ?_) (fun c78 => ?_)
        · skip
          refine wq_iload (i := 5) (q := 91) rfl rfl rfl ?_
          refine wq_iret rfl rfl (Nat.le_refl _) (Nat.le_refl _) ⟨_, rfl, rfl, K _ _ (Or.inr ⟨hab, _, _, _, _, _, f, hB, Or.inr ⟨hf, Or.inl ⟨by omega, ?_, ?_, e1⟩⟩⟩), by omega, f1⟩
          · have := hlt c78
            first | omega | (exfalso; omega)
          · have ek : k = i := by have := hlt c78; first | omega | (exfalso; omega)
            rw [ek]
        · skip
          refine wq_aload_n (kk := 0) (q := 82) rfl rfl rfl ?_
          refine wq_iconst (n := 1) (q := 83) rfl rfl rfl ?_
          refine wq_callV (q := 86) (m' := m_Mo_no) (R' := rm 1) (As := [_]) rfl rfl l_Mo_237 vm_Mo_no rfl rfl rfl (Or.inl ⟨rfl, Nat.le_of_ble_eq_true rfl⟩) (Nat.le_of_ble_eq_true rfl) (Nat.le_of_ble_eq_true rfl) (Nat.le_refl _) (Nat.le_refl _) (Nat.le_of_ble_eq_true rfl) (Mo_no_ok 1 h1 r) rfl ?_
          rintro rv h2 r ⟨rfl, rfl, rfl⟩ -
          refine wq_goto (tgt := 91) rfl rfl ?_
          refine wq_iret rfl rfl (Nat.le_refl _) (Nat.le_refl _) ⟨_, rfl, rfl, K _ _ (Or.inr ⟨hab, _, _, _, _, _, f, hB, Or.inr ⟨hf, Or.inr ⟨fun z => ?_, rfl, hup_s⟩⟩⟩), by rw [hup_s]; decide, f1.up (by decide) (by decide)⟩
          first
          | omega
          | (have y : k < h1 75 f := by omega
             have := hk y
             omega)
    · skip
      refine wq_iload (i := 5) (q := 51) rfl rfl rfl ?_
      refine wq_iconst (n := -1) (q := 52) rfl rfl rfl ?_
      refine wq_icmp_eq (tgt := 70) (q := 55) rfl rfl rfl (fun c52 => ?_) (fun c52 => ?_)
      · skip
        refine wq_iload (i := 4) (q := 72) rfl rfl rfl ?_
        refine wq_if_lt (tgt := 81) (q := 75) rfl rfl rfl (fun c72 => ?_) (fun c72 => ?_)
        · skip
          refine wq_aload_n (kk := 0) (q := 82) rfl rfl rfl ?_
          refine wq_iconst (n := 1) (q := 83) rfl rfl rfl ?_
          refine wq_callV (q := 86) (m' := m_Mo_no) (R' := rm 1) (As := [_]) rfl rfl l_Mo_237 vm_Mo_no rfl rfl rfl (Or.inl ⟨rfl, Nat.le_of_ble_eq_true rfl⟩) (Nat.le_of_ble_eq_true rfl) (Nat.le_of_ble_eq_true rfl) (Nat.le_refl _) (Nat.le_refl _) (Nat.le_of_ble_eq_true rfl) (Mo_no_ok 1 h1 r) rfl ?_
          rintro rv h2 r ⟨rfl, rfl, rfl⟩ -
          refine wq_goto (tgt := 91) rfl rfl ?_
          refine wq_iret rfl rfl (Nat.le_refl _) (Nat.le_refl _) ⟨_, rfl, rfl, K _ _ (Or.inr ⟨hab, _, _, _, _, _, f, hB, Or.inr ⟨hf, Or.inr ⟨fun z => ?_, rfl, hup_s⟩⟩⟩), by rw [hup_s]; decide, f1.up (by decide) (by decide)⟩
          first
          | omega
          | (have y : k < h1 75 f := by omega
             have := hk y
             omega)
        · skip
          refine wq_iload (i := 5) (q := 77) rfl rfl rfl ?_
          refine wq_iconst (n := -1) (q := 78) rfl rfl rfl ?_
          refine wq_icmp_ne (tgt := 89) (q := 81) rfl rfl rfl (fun c78 => ?_) (fun c78 => ?_)
          · skip
            refine wq_iload (i := 5) (q := 91) rfl rfl rfl ?_
            refine wq_iret rfl rfl (Nat.le_refl _) (Nat.le_refl _) ⟨_, rfl, rfl, K _ _ (Or.inr ⟨hab, _, _, _, _, _, f, hB, Or.inr ⟨hf, Or.inl ⟨by omega, ?_, ?_, e1⟩⟩⟩), by omega, f1⟩
            · have := hlt c78
              first | omega | (exfalso; omega)
            · have ek : k = i := by have := hlt c78; first | omega | (exfalso; omega)
              rw [ek]
          · skip
            refine wq_aload_n (kk := 0) (q := 82) rfl rfl rfl ?_
            refine wq_iconst (n := 1) (q := 83) rfl rfl rfl ?_
            refine wq_callV (q := 86) (m' := m_Mo_no) (R' := rm 1) (As := [_]) rfl rfl l_Mo_237 vm_Mo_no rfl rfl rfl (Or.inl ⟨rfl, Nat.le_of_ble_eq_true rfl⟩) (Nat.le_of_ble_eq_true rfl) (Nat.le_of_ble_eq_true rfl) (Nat.le_refl _) (Nat.le_refl _) (Nat.le_of_ble_eq_true rfl) (Mo_no_ok 1 h1 r) rfl ?_
            rintro rv h2 r ⟨rfl, rfl, rfl⟩ -
            refine wq_goto (tgt := 91) rfl rfl ?_
            refine wq_iret rfl rfl (Nat.le_refl _) (Nat.le_refl _) ⟨_, rfl, rfl, K _ _ (Or.inr ⟨hab, _, _, _, _, _, f, hB, Or.inr ⟨hf, Or.inr ⟨fun z => ?_, rfl, hup_s⟩⟩⟩), by rw [hup_s]; decide, f1.up (by decide) (by decide)⟩
            first
            | omega
            | (have y : k < h1 75 f := by omega
               have := hk y
               omega)
      · skip
        refine wq_aload_n (kk := 0) (q := 56) rfl rfl rfl ?_
        refine wq_getF (q := 59) f_Mo_48 rfl rfl (Nat.le_of_ble_eq_true rfl) rfl rfl rfl ?_
        refine wq_iload (i := 5) (q := 61) rfl rfl rfl ?_
        refine wq_iald (q := 62) rfl (Or.inl ⟨rfl, Nat.le_of_ble_eq_true rfl⟩) rfl rfl (by first | omega | (have := hk (hlt c52); omega)) (by first | omega | (have := hk (hlt c52); omega)) ?_
        refine wq_istore (i := 5) (q := 64) rfl rfl (Nat.le_of_ble_eq_true rfl) rfl ?_
        refine wq_iinc (i := 6) (n := 1) (q := 67) rfl rfl rfl (Nat.le_of_ble_eq_true rfl) rfl (by first | omega | (have := hk (hlt c52); omega)) (by first | omega | (have := hk (hlt c52); omega)) ?_
        refine wq_goto (tgt := 42) rfl rfl ?_
        have e2 : h1 76 (itr (h1 76) k.toNat f) = itr (h1 76) (k + 1).toNat f := by
          rw [show (k + 1).toNat = k.toNat + 1 by omega]; rfl
        rw [e2]
        have := hlt c52
        exact ih _ (by omega) (k + 1) rfl (by omega) (by omega) (by omega)
set_option maxRecDepth 100000 in
set_option maxHeartbeats 1000000 in
theorem Mo_ride0 (a b t i : Int) (h : mH) (r : mR) (h1 : mH) (e1 : h1 64 1 = 0) (f1 : f64 qF qK h h1) (P : Int → Int → Prop) (K : P (-1) 1) : WP (true, rm 9) m_Mo_ride (rt m_Mo_ride (rm 9) (rqQ h r P)) 42 [some (vR 64), some (vI a), some (vI b), some (vI t), some (vI i), some (vI (-1)), some (vI 0)] [] h1 r (0, 0) := by
  refine wq_iload (i := 6) (q := 44) rfl rfl rfl ?_
  refine wq_iload (i := 4) (q := 46) rfl rfl rfl ?_
  refine wq_icmp_ge (tgt := 70) (q := 49) rfl rfl rfl (fun c46 => ?_) (fun c46 => ?_)
  · skip
    refine wq_iload (i := 4) (q := 72) rfl rfl rfl ?_
    refine wq_if_lt (tgt := 81) (q := 75) rfl rfl rfl (fun c72 => ?_) (fun c72 => ?_)
    · skip
      refine wq_aload_n (kk := 0) (q := 82) rfl rfl rfl ?_
      refine wq_iconst (n := 1) (q := 83) rfl rfl rfl ?_
      refine wq_callV (q := 86) (m' := m_Mo_no) (R' := rm 1) (As := [_]) rfl rfl l_Mo_237 vm_Mo_no rfl rfl rfl (Or.inl ⟨rfl, Nat.le_of_ble_eq_true rfl⟩) (Nat.le_of_ble_eq_true rfl) (Nat.le_of_ble_eq_true rfl) (Nat.le_refl _) (Nat.le_refl _) (Nat.le_of_ble_eq_true rfl) (Mo_no_ok 1 h1 r) rfl ?_
      rintro rv h2 r ⟨rfl, rfl, rfl⟩ -
      refine wq_goto (tgt := 91) rfl rfl ?_
      exact wq_iret rfl rfl (Nat.le_refl _) (Nat.le_refl _) ⟨_, rfl, rfl, by rw [hup_s]; exact K, by rw [hup_s]; decide, f1.up (by decide) (by decide)⟩
    · skip
      refine wq_iload (i := 5) (q := 77) rfl rfl rfl ?_
      refine wq_iconst (n := -1) (q := 78) rfl rfl rfl ?_
      refine wq_icmp_ne (tgt := 89) (q := 81) rfl rfl rfl (fun c78 => ?_) (fun c78 => ?_)
      · skip
        refine wq_iload (i := 5) (q := 91) rfl rfl rfl ?_
        exact absurd rfl c78
      · skip
        refine wq_aload_n (kk := 0) (q := 82) rfl rfl rfl ?_
        refine wq_iconst (n := 1) (q := 83) rfl rfl rfl ?_
        refine wq_callV (q := 86) (m' := m_Mo_no) (R' := rm 1) (As := [_]) rfl rfl l_Mo_237 vm_Mo_no rfl rfl rfl (Or.inl ⟨rfl, Nat.le_of_ble_eq_true rfl⟩) (Nat.le_of_ble_eq_true rfl) (Nat.le_of_ble_eq_true rfl) (Nat.le_refl _) (Nat.le_refl _) (Nat.le_of_ble_eq_true rfl) (Mo_no_ok 1 h1 r) rfl ?_
        rintro rv h2 r ⟨rfl, rfl, rfl⟩ -
        refine wq_goto (tgt := 91) rfl rfl ?_
        exact wq_iret rfl rfl (Nat.le_refl _) (Nat.le_refl _) ⟨_, rfl, rfl, by rw [hup_s]; exact K, by rw [hup_s]; decide, f1.up (by decide) (by decide)⟩
  · skip
    refine wq_iload (i := 5) (q := 51) rfl rfl rfl ?_
    refine wq_iconst (n := -1) (q := 52) rfl rfl rfl ?_
    refine wq_icmp_eq (tgt := 70) (q := 55) rfl rfl rfl (fun c52 => ?_) (fun c52 => ?_)
    · skip
      refine wq_iload (i := 4) (q := 72) rfl rfl rfl ?_
      refine wq_if_lt (tgt := 81) (q := 75) rfl rfl rfl (fun c72 => ?_) (fun c72 => ?_)
      · skip
        refine wq_aload_n (kk := 0) (q := 82) rfl rfl rfl ?_
        refine wq_iconst (n := 1) (q := 83) rfl rfl rfl ?_
        refine wq_callV (q := 86) (m' := m_Mo_no) (R' := rm 1) (As := [_]) rfl rfl l_Mo_237 vm_Mo_no rfl rfl rfl (Or.inl ⟨rfl, Nat.le_of_ble_eq_true rfl⟩) (Nat.le_of_ble_eq_true rfl) (Nat.le_of_ble_eq_true rfl) (Nat.le_refl _) (Nat.le_refl _) (Nat.le_of_ble_eq_true rfl) (Mo_no_ok 1 h1 r) rfl ?_
        rintro rv h2 r ⟨rfl, rfl, rfl⟩ -
        refine wq_goto (tgt := 91) rfl rfl ?_
        exact wq_iret rfl rfl (Nat.le_refl _) (Nat.le_refl _) ⟨_, rfl, rfl, by rw [hup_s]; exact K, by rw [hup_s]; decide, f1.up (by decide) (by decide)⟩
      · skip
        refine wq_iload (i := 5) (q := 77) rfl rfl rfl ?_
        refine wq_iconst (n := -1) (q := 78) rfl rfl rfl ?_
        refine wq_icmp_ne (tgt := 89) (q := 81) rfl rfl rfl (fun c78 => ?_) (fun c78 => ?_)
        · skip
          refine wq_iload (i := 5) (q := 91) rfl rfl rfl ?_
          exact absurd rfl c78
        · skip
          refine wq_aload_n (kk := 0) (q := 82) rfl rfl rfl ?_
          refine wq_iconst (n := 1) (q := 83) rfl rfl rfl ?_
          refine wq_callV (q := 86) (m' := m_Mo_no) (R' := rm 1) (As := [_]) rfl rfl l_Mo_237 vm_Mo_no rfl rfl rfl (Or.inl ⟨rfl, Nat.le_of_ble_eq_true rfl⟩) (Nat.le_of_ble_eq_true rfl) (Nat.le_of_ble_eq_true rfl) (Nat.le_refl _) (Nat.le_refl _) (Nat.le_of_ble_eq_true rfl) (Mo_no_ok 1 h1 r) rfl ?_
          rintro rv h2 r ⟨rfl, rfl, rfl⟩ -
          refine wq_goto (tgt := 91) rfl rfl ?_
          exact wq_iret rfl rfl (Nat.le_refl _) (Nat.le_refl _) ⟨_, rfl, rfl, by rw [hup_s]; exact K, by rw [hup_s]; decide, f1.up (by decide) (by decide)⟩
    · skip
      exact absurd rfl c52
set_option maxRecDepth 100000 in
set_option maxHeartbeats 1000000 in
theorem Mo_ride_ok (a b t i : Int) (N : mN) (h : mH) (r : mR) (hI : mI h N) : Meets true (rm 9) m_Mo_ride [vR 64, vI a, vI b, vI t, vI i] h r (rqQ h r (Ans (kP (nS N) a b (bI (isT t))) (Rq N a b t i))) := by
  refine ⟨ok_Mo_ride, Nat.le_of_ble_eq_true rfl, ?_⟩
  refine wq_aload_n (kk := 0) (q := 1) rfl rfl rfl ?_
  refine wq_aload_n (kk := 0) (q := 2) rfl rfl rfl ?_
  refine wq_iload_n (kk := 1) (q := 3) rfl rfl rfl ?_
  refine wq_iload_n (kk := 2) (q := 4) rfl rfl rfl ?_
  refine wq_iload_n (kk := 3) (q := 5) rfl rfl rfl ?_
  refine wq_callV (q := 8) (m' := m_Mo_wayWhy) (R' := rm 3) (As := [_, _, _]) rfl rfl l_Mo_307 vm_Mo_wayWhy rfl rfl rfl (Or.inl ⟨rfl, Nat.le_of_ble_eq_true rfl⟩) (Nat.le_of_ble_eq_true rfl) (Nat.le_of_ble_eq_true rfl) (Nat.le_refl _) (Nat.le_refl _) (Nat.le_of_ble_eq_true rfl) (Mo_wayWhy_ok a b t N h r hI) rfl ?_
  rintro rv h r ⟨rfl, rfl, rfl⟩ -
  generalize hk : kP (nS N) a b (bI (isT t)) = k
  refine wq_callV (q := 11) (m' := m_Mo_isRefused) (R' := rm 1) (As := [_]) rfl rfl l_Mo_228 vm_Mo_isRefused rfl rfl rfl (Or.inl ⟨rfl, Nat.le_of_ble_eq_true rfl⟩) (Nat.le_of_ble_eq_true rfl) (Nat.le_of_ble_eq_true rfl) (Nat.le_refl _) (Nat.le_refl _) (Nat.le_of_ble_eq_true rfl) (Mo_isRefused_ok k h r) rfl ?_
  rintro rv h1 r ⟨rfl, rfl, rfl⟩ -
  have f1 := x_ref_f (S := qF) (C := qK) (h := h) (k := k) (by decide) (by decide) (by decide) (by decide)
  have I1 := mI_f hI f1 (by decide) (by decide)
  refine wq_cif_eq (tgt := 16) (q := 14) rfl rfl rfl (fun c11 => ?_) (fun c11 => ?_)
  · skip
    have k0 : k = 0 := by simpa using c11
    subst k0
    have hab := kP_0 hk
    have ht := bI_ne hab.2
    refine wq_aload_n (kk := 0) (q := 17) rfl rfl rfl ?_
    refine wq_iload_n (kk := 1) (q := 18) rfl rfl rfl ?_
    refine wq_iload_n (kk := 2) (q := 19) rfl rfl rfl ?_
    refine wq_iload_n (kk := 3) (q := 20) rfl rfl rfl ?_
    refine wq_callV (q := 23) (m' := m_Mo_begins_) (R' := rm 8) (As := [_, _, _]) rfl rfl l_Mo_314 vm_Mo_begins_ rfl rfl rfl (Or.inl ⟨rfl, Nat.le_of_ble_eq_true rfl⟩) (Nat.le_of_ble_eq_true rfl) (Nat.le_of_ble_eq_true rfl) (Nat.le_refl _) (Nat.le_refl _) (Nat.le_of_ble_eq_true rfl) (Mo_begins_ok N a b t _ r I1.1 hab.1.2 (by omega)) rfl ?_
    rintro rv h2 r ⟨rfl, f2, f, rfl, hc⟩ -
    have hM2 := isM_f I1.1 f2.1 (by decide)
    have hV := hM2.1
    have hn := hV.1
    have e1 : h2 64 1 = 0 := by rw [f2.2 1 (by decide)]; exact hup_s
    have f3 := f1.tr (lgq f2) (fun _ y => y) (fun _ y => y)
    have hfd : f ≠ -1 → a ≠ b ∧ (0 ≤ f ∧ f < nN N) := fun z => hc.elim (fun y => absurd y.2 z) (fun y => ⟨y.1, (y.2.2.fc z).1⟩)
    refine wq_istore (i := 5) (q := 25) rfl rfl (Nat.le_of_ble_eq_true rfl) rfl ?_
    refine wq_iload (i := 5) (q := 27) rfl rfl rfl ?_
    refine wq_iconst (n := -1) (q := 28) rfl rfl rfl ?_
    refine wq_icmp_ne (tgt := 39) (q := 31) rfl rfl rfl (fun c28 => ?_) (fun c28 => ?_)
    · skip
      refine wq_iconst (n := 0) (q := 40) rfl rfl rfl ?_
      refine wq_istore (i := 6) (q := 42) rfl rfl (Nat.le_of_ble_eq_true rfl) rfl ?_
      by_cases hf : f = -1
      · have z : a = b := by omega
        subst hf
        exact Mo_ride0 a b t i h r h2 e1 f3 _ (Or.inr ⟨rfl, Or.inl ⟨z, rfl, rfl⟩⟩)
      · rcases hc with z | ⟨z, hG, hB⟩
        · exact absurd z.2 hf
        · have hcf := hB.fc hf
          have lb1 := (hG.2.1 f hcf.1 hcf.2.1).resolve_left hcf.2.2.2.2
          have hl := Lab.l2 hV hB.2.1 hB.1 hcf.1 hcf.2.1 hcf.2.2.2.2
          exact Mo_rideL a b t i f N h r h2 e1 f3 hV z hB hf (by omega) _ (fun v tr hv => Or.inr ⟨rfl, hv⟩) _ 0 rfl (by omega) (by omega) (Or.inr rfl)
    · skip
      refine wq_iload_n (kk := 1) (q := 32) rfl rfl rfl ?_
      refine wq_iload_n (kk := 2) (q := 33) rfl rfl rfl ?_
      refine wq_icmp_eq (tgt := 39) (q := 36) rfl rfl rfl (fun c33 => ?_) (fun c33 => ?_)
      · skip
        refine wq_iconst (n := 0) (q := 40) rfl rfl rfl ?_
        refine wq_istore (i := 6) (q := 42) rfl rfl (Nat.le_of_ble_eq_true rfl) rfl ?_
        by_cases hf : f = -1
        · have z : a = b := by omega
          subst hf
          exact Mo_ride0 a b t i h r h2 e1 f3 _ (Or.inr ⟨rfl, Or.inl ⟨z, rfl, rfl⟩⟩)
        · rcases hc with z | ⟨z, hG, hB⟩
          · exact absurd z.2 hf
          · have hcf := hB.fc hf
            have lb1 := (hG.2.1 f hcf.1 hcf.2.1).resolve_left hcf.2.2.2.2
            have hl := Lab.l2 hV hB.2.1 hB.1 hcf.1 hcf.2.1 hcf.2.2.2.2
            exact Mo_rideL a b t i f N h r h2 e1 f3 hV z hB hf (by omega) _ (fun v tr hv => Or.inr ⟨rfl, hv⟩) _ 0 rfl (by omega) (by omega) (Or.inr rfl)
      · skip
        refine wq_bipush (n := -2) (q := 38) rfl rfl rfl ?_
        rcases hc with z | ⟨z, hG, hB⟩
        · exact absurd z.1 c33
        · exact wq_iret rfl rfl (Nat.le_refl _) (Nat.le_refl _) ⟨_, rfl, rfl, Or.inr ⟨rfl, Or.inr ⟨z, _, _, _, _, _, f, hB, Or.inl ⟨by omega, rfl, e1⟩⟩⟩, by omega, f3⟩
  · skip
    refine wq_iconst (n := -1) (q := 15) rfl rfl rfl ?_
    exact wq_iret rfl rfl (Nat.le_refl _) (Nat.le_refl _) ⟨_, rfl, rfl, Or.inl ⟨c11, rfl, hup_s⟩, by rw [x_ref_1]; have := kP_b (n := nS N) (a := a) (b := b) (g := bI (isT t)); omega, f1⟩
theorem idl_s {N : mN} {x : mF} {f k : Int} (k0 : 0 ≤ k) : idl N x f (k + 1) = idl N x f k + (lv N (itr x (k.toNat + 1) f) - ar N (itr x k.toNat f)) := by
  unfold idl
  rw [sm_s k0]
set_option maxRecDepth 100000 in
set_option maxHeartbeats 1000000 in
theorem Mo_standsL (a b t f : Int) (N : mN) (h : mH) (r : mR) (h1 : mH) (e1 : h1 64 1 = 0) (f1 : f64 qF qK h h1) (hM : isM h1 N) (hab : a ≠ b) (hB : Bst N a b t 9999 (h1 73) (h1 74) (h1 75) (h1 76) f) (hf : f ≠ -1) (hl : h1 75 f ≤ 120) (P : Int → Int → Prop) (K : P (idl N (h1 76) f (h1 75 f - 1)) 0) : ∀ (M : Nat) (k : Int), (h1 75 f - k).toNat = M → 0 ≤ k → k < h1 75 f → WP (true, rm 9) m_Mo_stands (rt m_Mo_stands (rm 9) (rqQ h r P)) 46 [some (vR 64), some (vI a), some (vI b), some (vI t), some (vI (itr (h1 76) k.toNat f)), some (vI (idl N (h1 76) f k))] [] h1 r (0, 0) := by
  intro M
  induction M using Nat.strongRecOn with
  | ind M ih =>
    intro k hN k0 k1
    have hV := hM.1
    have hc := hB.fc hf
    have hn := hV.1
    have it : ∀ j : Int, 0 ≤ j → j < h1 75 f → (0 ≤ itr (h1 76) j.toNat f ∧ itr (h1 76) j.toNat f < nN N) ∧ rn N (itr (h1 76) j.toNat f) = 1 ∧ h1 73 (itr (h1 76) j.toNat f) = h1 73 f ∧ h1 75 (itr (h1 76) j.toNat f) = h1 75 f - j := fun j j0 j1 => by
      have := Lab.it hV hB.2.1 hB.1 hc.1 hc.2.1 hc.2.2.2.2 j.toNat (by omega)
      exact ⟨this.1, this.2.1, this.2.2.1, by rw [this.2.2.2]; omega⟩
    obtain ⟨i1, i2, i3, i4⟩ := it k k0 k1
    have nx := Lab.nx hV hB.2.1 hB.1 i1 i2 (by rw [i3]; exact hc.2.2.2.2)
    have e2 : h1 76 (itr (h1 76) k.toNat f) = itr (h1 76) (k.toNat + 1) f := rfl
    have e3 : itr (h1 76) (k.toNat + 1) f = itr (h1 76) (k + 1).toNat f := by rw [show (k + 1).toNat = k.toNat + 1 by omega]
    have bd : -(1700 * (k.toNat : Int)) ≤ idl N (h1 76) f k ∧ idl N (h1 76) f k ≤ 1700 * (k.toNat : Int) := sm_b (by decide) (fun d d0 d1 => by
      obtain ⟨j1, -⟩ := it d d0 (by omega)
      obtain ⟨j2, -⟩ := it (d + 1) (by omega) (by omega)
      rw [show (d + 1).toNat = d.toNat + 1 by omega] at j2
      have a1 := hV.2.2.1 _ j1
      have a2 := hV.2.2.1 _ j2
      omega)
    have v1 := hV.2.2.1 _ i1
    refine wq_aload_n (kk := 0) (q := 47) rfl rfl rfl ?_
    refine wq_getF (q := 50) f_Mo_48 rfl rfl (Nat.le_of_ble_eq_true rfl) rfl rfl rfl ?_
    refine wq_iload (i := 4) (q := 52) rfl rfl rfl ?_
    refine wq_iald (q := 53) rfl (Or.inl ⟨rfl, Nat.le_of_ble_eq_true rfl⟩) rfl rfl (by first | omega | (simp [hup]; omega)) (by first | omega | (simp [hup]; omega)) ?_
    refine wq_iconst (n := -1) (q := 54) rfl rfl rfl ?_
    refine wq_icmp_eq (tgt := 92) (q := 57) rfl rfl rfl (fun c54 => ?_) (fun c54 => ?_)
    · skip
      refine wq_iload (i := 5) (q := 94) rfl rfl rfl ?_
      have ek : k = h1 75 f - 1 := by
        rcases nx with ⟨-, y, -⟩ | ⟨y, -⟩
        · omega
        · have := y.1.1; omega
      refine wq_iret rfl rfl (Nat.le_refl _) (Nat.le_refl _) ⟨_, rfl, rfl, ?_, by omega, f1⟩
      rw [e1, ek]
      exact K
    · skip
      have k2 : k + 1 < h1 75 f := by
        rcases nx with ⟨y, -⟩ | ⟨y, y2, -⟩
        · exact absurd y c54
        · have := Lab.l2 hV hB.2.1 hB.1 y.1 y.2.1 y.2.2.2.2
          omega
      obtain ⟨j1, -⟩ := it (k + 1) (by omega) k2
      have v2 := hV.2.2.1 _ j1
      rw [← e3] at j1 v2
      refine wq_iload (i := 5) (q := 59) rfl rfl rfl ?_
      refine wq_aload_n (kk := 0) (q := 60) rfl rfl rfl ?_
      refine wq_aload_n (kk := 0) (q := 61) rfl rfl rfl ?_
      refine wq_getF (q := 64) f_Mo_48 rfl rfl (Nat.le_of_ble_eq_true rfl) rfl rfl rfl ?_
      refine wq_iload (i := 4) (q := 66) rfl rfl rfl ?_
      refine wq_iald (q := 67) rfl (Or.inl ⟨rfl, Nat.le_of_ble_eq_true rfl⟩) rfl rfl (by first | omega | (simp [hup]; omega)) (by first | omega | (simp [hup]; omega)) ?_
      refine wq_callV (q := 70) (m' := m_Mo_leavesAt) (R' := rm 2) (As := [_]) rfl rfl l_Mo_250 vm_Mo_leavesAt rfl rfl rfl (Or.inl ⟨rfl, Nat.le_of_ble_eq_true rfl⟩) (Nat.le_of_ble_eq_true rfl) (Nat.le_of_ble_eq_true rfl) (Nat.le_refl _) (Nat.le_refl _) (Nat.le_of_ble_eq_true rfl) (Mo_leavesAt_ok N _ h1 r hM (by rw [e2]; exact j1)) rfl ?_
      rintro rv h1 r ⟨rfl, rfl, rfl⟩ -
      rw [e2]
      refine wq_aload_n (kk := 0) (q := 71) rfl rfl rfl ?_
      refine wq_iload (i := 4) (q := 73) rfl rfl rfl ?_
      refine wq_callV (q := 76) (m' := m_Mo_arrivesAt) (R' := rm 3) (As := [_]) rfl rfl l_Mo_272 vm_Mo_arrivesAt rfl rfl rfl (Or.inl ⟨rfl, Nat.le_of_ble_eq_true rfl⟩) (Nat.le_of_ble_eq_true rfl) (Nat.le_of_ble_eq_true rfl) (Nat.le_refl _) (Nat.le_refl _) (Nat.le_of_ble_eq_true rfl) (Mo_arrivesAt_ok N _ h1 r hM i1) rfl ?_
      rintro rv h1 r ⟨rfl, rfl, rfl⟩ -
      refine wq_isub (q := 77) rfl rfl (by first | omega | (simp [hup]; omega)) (by first | omega | (simp [hup]; omega)) ?_
      refine wq_iadd (q := 78) rfl rfl (by first | omega | (simp [hup]; omega)) (by first | omega | (simp [hup]; omega)) ?_
      refine wq_istore (i := 5) (q := 80) rfl rfl (Nat.le_of_ble_eq_true rfl) rfl ?_
      refine wq_aload_n (kk := 0) (q := 81) rfl rfl rfl ?_
      refine wq_getF (q := 84) f_Mo_48 rfl rfl (Nat.le_of_ble_eq_true rfl) rfl rfl rfl ?_
      refine wq_iload (i := 4) (q := 86) rfl rfl rfl ?_
      refine wq_iald (q := 87) rfl (Or.inl ⟨rfl, Nat.le_of_ble_eq_true rfl⟩) rfl rfl (by first | omega | (simp [hup]; omega)) (by first | omega | (simp [hup]; omega)) ?_
      refine wq_istore (i := 4) (q := 89) rfl rfl (Nat.le_of_ble_eq_true rfl) rfl ?_
      refine wq_goto (tgt := 46) rfl rfl ?_
      rw [e2, e3, ← e3, ← idl_s k0, e3]
      exact ih _ (by omega) (k + 1) rfl (by omega) k2
set_option maxRecDepth 100000 in
set_option maxHeartbeats 1000000 in
theorem Mo_stands_ok (a b t : Int) (N : mN) (h : mH) (r : mR) (hI : mI h N) : Meets true (rm 9) m_Mo_stands [vR 64, vI a, vI b, vI t] h r (rqQ h r (Ans (kP (nS N) a b (bI (isT t))) (Bq N a b t 0 (fun e c l x f => idl N x f (l f - 1))))) := by
  refine ⟨ok_Mo_stands, Nat.le_of_ble_eq_true rfl, ?_⟩
  refine wq_aload_n (kk := 0) (q := 1) rfl rfl rfl ?_
  refine wq_aload_n (kk := 0) (q := 2) rfl rfl rfl ?_
  refine wq_iload_n (kk := 1) (q := 3) rfl rfl rfl ?_
  refine wq_iload_n (kk := 2) (q := 4) rfl rfl rfl ?_
  refine wq_iload_n (kk := 3) (q := 5) rfl rfl rfl ?_
  refine wq_callV (q := 8) (m' := m_Mo_wayWhy) (R' := rm 3) (As := [_, _, _]) rfl rfl l_Mo_307 vm_Mo_wayWhy rfl rfl rfl (Or.inl ⟨rfl, Nat.le_of_ble_eq_true rfl⟩) (Nat.le_of_ble_eq_true rfl) (Nat.le_of_ble_eq_true rfl) (Nat.le_refl _) (Nat.le_refl _) (Nat.le_of_ble_eq_true rfl) (Mo_wayWhy_ok a b t N h r hI) rfl ?_
  rintro rv h r ⟨rfl, rfl, rfl⟩ -
  generalize hk : kP (nS N) a b (bI (isT t)) = k
  refine wq_callV (q := 11) (m' := m_Mo_isRefused) (R' := rm 1) (As := [_]) rfl rfl l_Mo_228 vm_Mo_isRefused rfl rfl rfl (Or.inl ⟨rfl, Nat.le_of_ble_eq_true rfl⟩) (Nat.le_of_ble_eq_true rfl) (Nat.le_of_ble_eq_true rfl) (Nat.le_refl _) (Nat.le_refl _) (Nat.le_of_ble_eq_true rfl) (Mo_isRefused_ok k h r) rfl ?_
  rintro rv h1 r ⟨rfl, rfl, rfl⟩ -
  have f1 := x_ref_f (S := qF) (C := qK) (h := h) (k := k) (by decide) (by decide) (by decide) (by decide)
  have I1 := mI_f hI f1 (by decide) (by decide)
  refine wq_cif_eq (tgt := 16) (q := 14) rfl rfl rfl (fun c11 => ?_) (fun c11 => ?_)
  · skip
    have k0 : k = 0 := by simpa using c11
    subst k0
    have hab := kP_0 hk
    have ht := bI_ne hab.2
    refine wq_aload_n (kk := 0) (q := 17) rfl rfl rfl ?_
    refine wq_iload_n (kk := 1) (q := 18) rfl rfl rfl ?_
    refine wq_iload_n (kk := 2) (q := 19) rfl rfl rfl ?_
    refine wq_iload_n (kk := 3) (q := 20) rfl rfl rfl ?_
    refine wq_callV (q := 23) (m' := m_Mo_begins_) (R' := rm 8) (As := [_, _, _]) rfl rfl l_Mo_314 vm_Mo_begins_ rfl rfl rfl (Or.inl ⟨rfl, Nat.le_of_ble_eq_true rfl⟩) (Nat.le_of_ble_eq_true rfl) (Nat.le_of_ble_eq_true rfl) (Nat.le_refl _) (Nat.le_refl _) (Nat.le_of_ble_eq_true rfl) (Mo_begins_ok N a b t _ r I1.1 hab.1.2 (by omega)) rfl ?_
    rintro rv h2 r ⟨rfl, f2, f, rfl, hc⟩ -
    have hM2 := isM_f I1.1 f2.1 (by decide)
    have hV := hM2.1
    have hn := hV.1
    have e1 : h2 64 1 = 0 := by rw [f2.2 1 (by decide)]; exact hup_s
    have f3 := f1.tr (lgq f2) (fun _ y => y) (fun _ y => y)
    have hfd : f ≠ -1 → a ≠ b ∧ (0 ≤ f ∧ f < nN N) := fun z => hc.elim (fun y => absurd y.2 z) (fun y => ⟨y.1, (y.2.2.fc z).1⟩)
    refine wq_istore (i := 4) (q := 25) rfl rfl (Nat.le_of_ble_eq_true rfl) rfl ?_
    refine wq_iload (i := 4) (q := 27) rfl rfl rfl ?_
    refine wq_iconst (n := -1) (q := 28) rfl rfl rfl ?_
    refine wq_icmp_ne (tgt := 43) (q := 31) rfl rfl rfl (fun c28 => ?_) (fun c28 => ?_)
    · skip
      refine wq_iconst (n := 0) (q := 44) rfl rfl rfl ?_
      refine wq_istore (i := 5) (q := 46) rfl rfl (Nat.le_of_ble_eq_true rfl) rfl ?_
      rcases hc with z | ⟨z, hG, hB⟩
      · exact absurd z.2 c28
      · have hcf := hB.fc c28
        have lb1 := (hG.2.1 f hcf.1 hcf.2.1).resolve_left hcf.2.2.2.2
        have hl := Lab.l2 hV hB.2.1 hB.1 hcf.1 hcf.2.1 hcf.2.2.2.2
        exact Mo_standsL a b t f N h r h2 e1 f3 hM2 z hB c28 (by omega) _ (Or.inr ⟨rfl, rfl, Or.inr ⟨z, _, _, _, _, _, f, hB, Or.inr ⟨c28, rfl⟩⟩⟩) _ 0 rfl (by omega) (by omega)
    · skip
      refine wq_iload_n (kk := 1) (q := 32) rfl rfl rfl ?_
      refine wq_iload_n (kk := 2) (q := 33) rfl rfl rfl ?_
      refine wq_icmp_ne (tgt := 40) (q := 36) rfl rfl rfl (fun c33 => ?_) (fun c33 => ?_)
      · skip
        refine wq_bipush (n := -2) (q := 42) rfl rfl rfl ?_
        refine wq_iret rfl rfl (Nat.le_refl _) (Nat.le_refl _) ⟨_, rfl, rfl, Or.inr ⟨rfl, e1, ?_⟩, by omega, f3⟩
        rcases hc with z | ⟨z, hG, hB⟩
        · first | exact Or.inl ⟨z.1, rfl⟩ | (exfalso; omega)
        · refine Or.inr ⟨z, _, _, _, _, _, f, hB, ?_⟩
          first | exact Or.inl ⟨by omega, rfl⟩ | (exfalso; omega)
      · skip
        refine wq_iconst (n := 0) (q := 37) rfl rfl rfl ?_
        refine wq_goto (tgt := 42) rfl rfl ?_
        refine wq_iret rfl rfl (Nat.le_refl _) (Nat.le_refl _) ⟨_, rfl, rfl, Or.inr ⟨rfl, e1, ?_⟩, by omega, f3⟩
        rcases hc with z | ⟨z, hG, hB⟩
        · first | exact Or.inl ⟨z.1, rfl⟩ | (exfalso; omega)
        · refine Or.inr ⟨z, _, _, _, _, _, f, hB, ?_⟩
          first | exact Or.inl ⟨by omega, rfl⟩ | (exfalso; omega)
  · skip
    refine wq_iconst (n := -1) (q := 15) rfl rfl rfl ?_
    exact wq_iret rfl rfl (Nat.le_refl _) (Nat.le_refl _) ⟨_, rfl, rfl, Or.inl ⟨c11, rfl, hup_s⟩, by rw [x_ref_1]; have := kP_b (n := nS N) (a := a) (b := b) (g := bI (isT t)); omega, f1⟩

def kX (n a b g : Int) : Int := if kU n a b then (if g = 0 then 2 else 0) else 1
set_option maxRecDepth 100000 in
theorem Lt_lookAtUnlike_ok (a b t : Int) (h : mH) (r : mR) (hcur : r.1 0 2 = some 2) : Meets true (rm 3) m_Lt_lookAtUnlike [vR 0, vI a, vI b, vI t] h r (pI (kX (h 2 1) a b (bI (isT t))) h r) := by
  refine ⟨ok_Lt_lookAtUnlike, Nat.le_of_ble_eq_true rfl, ?_⟩
  refine wq_aload_n (kk := 0) (q := 1) rfl rfl rfl ?_
  refine wq_iload_n (kk := 1) (q := 2) rfl rfl rfl ?_
  refine wq_iload_n (kk := 2) (q := 3) rfl rfl rfl ?_
  refine wq_callV (q := 6) (m' := m_Lt_hasUnlikeSpots) (R' := rm 2) (As := [_, _]) rfl rfl l_Lt_267 vm_Lt_hasUnlikeSpots rfl rfl rfl (Or.inl ⟨rfl, Nat.le_of_ble_eq_true rfl⟩) (Nat.le_of_ble_eq_true rfl) (Nat.le_of_ble_eq_true rfl) (Nat.le_refl _) (Nat.le_refl _) (Nat.le_of_ble_eq_true rfl) (Lt_hasUnlikeSpots_ok a b h r hcur) rfl ?_
  rintro rv h r ⟨rfl, rfl, rfl⟩ -
  refine wq_cif_ne (tgt := 11) (q := 9) rfl rfl rfl (fun c6 => ?_) (fun c6 => ?_)
  · skip
    refine wq_iload_n (kk := 3) (q := 12) rfl rfl rfl ?_
    refine wq_callS (q := 15) (m' := m_Lt_isTime) (R' := rm 1) (As := [_]) rfl rfl l_Lt_233 sm_Lt_isTime rfl (Nat.le_of_ble_eq_true rfl) (Nat.le_of_ble_eq_true rfl) (Nat.le_refl _) (Nat.le_refl _) (Nat.le_of_ble_eq_true rfl) (Lt_isTime_ok t h r) rfl ?_
    rintro rv h r ⟨rfl, rfl, rfl⟩ -
    refine wq_cif_eq (tgt := 22) (q := 18) rfl rfl rfl (fun c15 => ?_) (fun c15 => ?_)
    · skip
      refine wq_iconst (n := 2) (q := 23) rfl rfl rfl ?_
      refine wq_iret rfl rfl (Nat.le_refl _) (Nat.le_refl _) ?_
      refine ⟨?_, rfl, rfl⟩
      congr 2
      unfold kX
      first
      | (rw [if_neg (by assumption)])
      | (rw [if_pos (by assumption), bI_f (by assumption), if_pos rfl])
      | (rw [if_pos (by assumption), bI_t (by assumption), if_neg (by omega)])
    · skip
      refine wq_iconst (n := 0) (q := 19) rfl rfl rfl ?_
      refine wq_goto (tgt := 23) rfl rfl ?_
      refine wq_iret rfl rfl (Nat.le_refl _) (Nat.le_refl _) ?_
      refine ⟨?_, rfl, rfl⟩
      congr 2
      unfold kX
      first
      | (rw [if_neg (by assumption)])
      | (rw [if_pos (by assumption), bI_f (by assumption), if_pos rfl])
      | (rw [if_pos (by assumption), bI_t (by assumption), if_neg (by omega)])
  · skip
    refine wq_iconst (n := 1) (q := 10) rfl rfl rfl ?_
    refine wq_iret rfl rfl (Nat.le_refl _) (Nat.le_refl _) ?_
    refine ⟨?_, rfl, rfl⟩
    congr 2
    unfold kX
    first
    | (rw [if_neg (by assumption)])
    | (rw [if_pos (by assumption), bI_f (by assumption), if_pos rfl])
    | (rw [if_pos (by assumption), bI_t (by assumption), if_neg (by omega)])
def kD (n a b g m d : Int) : Int := if 0 ≤ d ∧ d < m then kP n a b g else 1
set_option maxRecDepth 100000 in
theorem Lt_lookAtHanging_ok (a b t d : Int) (h : mH) (r : mR) (hcur : r.1 0 2 = some 2) : Meets true (rm 3) m_Lt_lookAtHanging [vR 0, vI a, vI b, vI t, vI d] h r (pI (kD (h 2 1) a b (bI (isT t)) (h 2 4) d) h r) := by
  refine ⟨ok_Lt_lookAtHanging, Nat.le_of_ble_eq_true rfl, ?_⟩
  refine wq_aload_n (kk := 0) (q := 1) rfl rfl rfl ?_
  refine wq_getR (q := 4) f_Lt_16 rfl rfl (Or.inl ⟨rfl, Nat.le_of_ble_eq_true rfl⟩) hcur rfl rfl ?_
  refine wq_iload (i := 4) (q := 6) rfl rfl rfl ?_
  refine wq_callV (q := 9) (m' := m_De_hasDeparture) (R' := rm 1) (As := [_]) rfl rfl l_Lt_156 vm_De_hasDeparture rfl rfl rfl (Or.inl ⟨rfl, Nat.le_of_ble_eq_true rfl⟩) (Nat.le_of_ble_eq_true rfl) (Nat.le_of_ble_eq_true rfl) (Nat.le_refl _) (Nat.le_refl _) (Nat.le_of_ble_eq_true rfl) (De_hasDeparture_ok d h r) rfl ?_
  rintro rv h r ⟨rfl, rfl, rfl⟩ -
  refine wq_cif_ne (tgt := 14) (q := 12) rfl rfl rfl (fun c9 => ?_) (fun c9 => ?_)
  · skip
    refine wq_aload_n (kk := 0) (q := 15) rfl rfl rfl ?_
    refine wq_iload_n (kk := 1) (q := 16) rfl rfl rfl ?_
    refine wq_iload_n (kk := 2) (q := 17) rfl rfl rfl ?_
    refine wq_iload_n (kk := 3) (q := 18) rfl rfl rfl ?_
    refine wq_callS (q := 21) (m' := m_Lt_isTime) (R' := rm 1) (As := [_]) rfl rfl l_Lt_233 sm_Lt_isTime rfl (Nat.le_of_ble_eq_true rfl) (Nat.le_of_ble_eq_true rfl) (Nat.le_refl _) (Nat.le_refl _) (Nat.le_of_ble_eq_true rfl) (Lt_isTime_ok t h r) rfl ?_
    rintro rv h r ⟨rfl, rfl, rfl⟩ -
    refine wq_callV (q := 24) (m' := m_Lt_lookAtPair) (R' := rm 2) (As := [_, _, _]) rfl rfl l_Lt_236 vm_Lt_lookAtPair rfl rfl rfl (Or.inl ⟨rfl, Nat.le_of_ble_eq_true rfl⟩) (Nat.le_of_ble_eq_true rfl) (Nat.le_of_ble_eq_true rfl) (Nat.le_refl _) (Nat.le_refl _) (Nat.le_of_ble_eq_true rfl) (Lt_lookAtPair_ok a b _ h r hcur) rfl ?_
    rintro rv h r ⟨rfl, rfl, rfl⟩ -
    refine wq_iret rfl rfl (Nat.le_refl _) (Nat.le_refl _) ?_
    refine ⟨?_, rfl, rfl⟩
    congr 2
    unfold kD
    first
    | (rw [if_neg (by assumption)])
    | (rw [if_pos (by assumption)])
  · skip
    refine wq_iconst (n := 1) (q := 13) rfl rfl rfl ?_
    refine wq_iret rfl rfl (Nat.le_refl _) (Nat.le_refl _) ?_
    refine ⟨?_, rfl, rfl⟩
    congr 2
    unfold kD
    first
    | (rw [if_neg (by assumption)])
    | (rw [if_pos (by assumption)])
def kT (n g : Int) : Int := if 0 < n then (if g = 0 then 2 else 0) else 1
set_option maxRecDepth 100000 in
theorem Lt_lookAtDesk_ok (t : Int) (h : mH) (r : mR) (hcur : r.1 0 2 = some 2) : Meets true (rm 2) m_Lt_lookAtDesk [vR 0, vI t] h r (pI (kT (h 2 1) (bI (isT t))) h r) := by
  refine ⟨ok_Lt_lookAtDesk, Nat.le_of_ble_eq_true rfl, ?_⟩
  refine wq_aload_n (kk := 0) (q := 1) rfl rfl rfl ?_
  refine wq_getR (q := 4) f_Lt_16 rfl rfl (Or.inl ⟨rfl, Nat.le_of_ble_eq_true rfl⟩) hcur rfl rfl ?_
  refine wq_callV (q := 7) (m' := m_De_isTold) (R' := rm 1) (As := []) rfl rfl l_Lt_119 vm_De_isTold rfl rfl rfl (Or.inl ⟨rfl, Nat.le_of_ble_eq_true rfl⟩) (Nat.le_of_ble_eq_true rfl) (Nat.le_of_ble_eq_true rfl) (Nat.le_refl _) (Nat.le_refl _) (Nat.le_of_ble_eq_true rfl) (De_isTold_ok 2 (Or.inl rfl) h r) rfl ?_
  rintro rv h r ⟨rfl, rfl, rfl⟩ -
  refine wq_cif_ne (tgt := 12) (q := 10) rfl rfl rfl (fun c7 => ?_) (fun c7 => ?_)
  · skip
    refine wq_iload_n (kk := 1) (q := 13) rfl rfl rfl ?_
    refine wq_callS (q := 16) (m' := m_Lt_isTime) (R' := rm 1) (As := [_]) rfl rfl l_Lt_233 sm_Lt_isTime rfl (Nat.le_of_ble_eq_true rfl) (Nat.le_of_ble_eq_true rfl) (Nat.le_refl _) (Nat.le_refl _) (Nat.le_of_ble_eq_true rfl) (Lt_isTime_ok t h r) rfl ?_
    rintro rv h r ⟨rfl, rfl, rfl⟩ -
    refine wq_cif_eq (tgt := 23) (q := 19) rfl rfl rfl (fun c16 => ?_) (fun c16 => ?_)
    · skip
      refine wq_iconst (n := 2) (q := 24) rfl rfl rfl ?_
      refine wq_iret rfl rfl (Nat.le_refl _) (Nat.le_refl _) ?_
      refine ⟨?_, rfl, rfl⟩
      congr 2
      unfold kT
      first
      | (rw [if_neg (by assumption)])
      | (rw [if_pos (by assumption), bI_f (by assumption), if_pos rfl])
      | (rw [if_pos (by assumption), bI_t (by assumption), if_neg (by omega)])
    · skip
      refine wq_iconst (n := 0) (q := 20) rfl rfl rfl ?_
      refine wq_goto (tgt := 24) rfl rfl ?_
      refine wq_iret rfl rfl (Nat.le_refl _) (Nat.le_refl _) ?_
      refine ⟨?_, rfl, rfl⟩
      congr 2
      unfold kT
      first
      | (rw [if_neg (by assumption)])
      | (rw [if_pos (by assumption), bI_f (by assumption), if_pos rfl])
      | (rw [if_pos (by assumption), bI_t (by assumption), if_neg (by omega)])
  · skip
    refine wq_iconst (n := 1) (q := 11) rfl rfl rfl ?_
    refine wq_iret rfl rfl (Nat.le_refl _) (Nat.le_refl _) ?_
    refine ⟨?_, rfl, rfl⟩
    congr 2
    unfold kT
    first
    | (rw [if_neg (by assumption)])
    | (rw [if_pos (by assumption), bI_f (by assumption), if_pos rfl])
    | (rw [if_pos (by assumption), bI_t (by assumption), if_neg (by omega)])
theorem kP_0 {n a b g : Int} (h : kP n a b g = 0) : ((0 ≤ a ∧ a < n) ∧ 0 ≤ b ∧ b < n) ∧ g ≠ 0 := by
  unfold kP at h
  split at h
  · rename_i z; refine ⟨z, fun e => ?_⟩; simp [e] at h
  · omega
theorem kX_0 {n a b g : Int} (h : kX n a b g = 0) : kU n a b ∧ g ≠ 0 := by
  unfold kX at h
  split at h
  · rename_i z; refine ⟨z, fun e => ?_⟩; simp [e] at h
  · omega
theorem kT_0 {n g : Int} (h : kT n g = 0) : 0 < n ∧ g ≠ 0 := by
  unfold kT at h
  split at h
  · rename_i z; refine ⟨z, fun e => ?_⟩; simp [e] at h
  · omega
theorem kD_0 {n a b g m d : Int} (h : kD n a b g m d = 0) : (0 ≤ d ∧ d < m) ∧ ((0 ≤ a ∧ a < n) ∧ 0 ≤ b ∧ b < n) ∧ g ≠ 0 := by
  unfold kD at h
  split at h
  · rename_i z; exact ⟨z, kP_0 h⟩
  · omega
theorem bI_ne {P : Prop} (h : bI P ≠ 0) : P := Classical.byContradiction (fun z => h (bI_f z))
def Soa (N : mN) (a b t v : Int) : Prop := ∃ so, Soon N a t so ∧ v = so b
abbrev soQ (h : mH) (r : mR) (N : mN) (a b t : Int) : mP := fun rv h2 r2 => ∃ v, rv = some (vI v) ∧ Soa N a b t v ∧ r2 = r ∧ fr [49, 50] h h2
abbrev soQ2 (h : mH) (r : mR) (N : mN) (a b t : Int) : mP := fun rv h2 r2 => ∃ v, rv = some (vI v) ∧ Soa N a b t v ∧ r2 = r ∧ fr [49, 50] h h2 ∧ Ct N a t (h2 50)
set_option maxRecDepth 100000 in
theorem Lt_soonestAt2_ok (N : mN) (a b t : Int) (h : mH) (r : mR) (hw : netW h r N) (ha : 0 ≤ a ∧ a < nS N) (hb : 0 ≤ b ∧ b < nS N) : Meets true (rm 5) m_Lt_soonestAt [vR 0, vI a, vI b, vI t] h r (soQ2 h r N a b t) := by
  have hS := hw.2.1.2.1
  refine ⟨ok_Lt_soonestAt, Nat.le_of_ble_eq_true rfl, ?_⟩
  refine wq_aload_n (kk := 0) (q := 1) rfl rfl rfl ?_
  refine wq_getF (q := 4) f_Lt_58 rfl rfl (Nat.le_of_ble_eq_true rfl) rfl rfl rfl ?_
  refine wq_aload_n (kk := 0) (q := 5) rfl rfl rfl ?_
  refine wq_getF (q := 8) f_Lt_44 rfl rfl (Nat.le_of_ble_eq_true rfl) rfl rfl rfl ?_
  refine wq_iload_n (kk := 1) (q := 9) rfl rfl rfl ?_
  refine wq_iload_n (kk := 3) (q := 10) rfl rfl rfl ?_
  refine wq_callV (q := 13) (m' := m_Fl_spread) (R' := rm 4) (As := [_, _, _]) rfl rfl l_Lt_250 vm_Fl_spread rfl rfl rfl (Or.inl ⟨rfl, Nat.le_of_ble_eq_true rfl⟩) (Nat.le_of_ble_eq_true rfl) (Nat.le_of_ble_eq_true rfl) (Nat.le_refl _) (Nat.le_refl _) (Nat.le_of_ble_eq_true rfl) (Fl_spread2_ok 48 49 50 (Or.inl ⟨rfl, rfl, rfl⟩) N a t h r hw ha) rfl ?_
  rintro rv h1 r1 ⟨rfl, rfl, f1, hs, hc⟩ -
  refine wq_aload_n (kk := 0) (q := 14) rfl rfl rfl ?_
  refine wq_getF (q := 17) f_Lt_58 rfl rfl (Nat.le_of_ble_eq_true rfl) rfl rfl rfl ?_
  refine wq_getF (q := 20) f_Lt_254 rfl rfl (Nat.le_of_ble_eq_true rfl) rfl rfl rfl ?_
  refine wq_iload_n (kk := 2) (q := 21) rfl rfl rfl ?_
  refine wq_iald (q := 22) rfl (Or.inl ⟨rfl, Nat.le_of_ble_eq_true rfl⟩) rfl rfl (by first | omega | (simp [hup]; omega)) (by first | omega | (simp [hup]; omega)) ?_
  refine wq_iret rfl rfl (Nat.le_refl _) (Nat.le_refl _) ?_
  exact ⟨_, rfl, ⟨_, hs, rfl⟩, rfl, f1, hc⟩
theorem Lt_soonestAt_ok (N : mN) (a b t : Int) (h : mH) (r : mR) (hw : netW h r N) (ha : 0 ≤ a ∧ a < nS N) (hb : 0 ≤ b ∧ b < nS N) : Meets true (rm 5) m_Lt_soonestAt [vR 0, vI a, vI b, vI t] h r (soQ h r N a b t) :=
  (Lt_soonestAt2_ok N a b t h r hw ha hb).mono fun _ _ _ ⟨v, z⟩ => ⟨v, z.1, z.2.1, z.2.2.1, z.2.2.2.1⟩

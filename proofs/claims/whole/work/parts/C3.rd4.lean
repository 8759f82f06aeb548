/-! LinkTimesModel: names told, links' parts -/
/-- the places of a row that tell -/
def lvR (R : mF) (j : Int) : Prop := (1 ≤ j ∧ j ≤ 4) ∨ (5 ≤ j ∧ j < 5 + R 1) ∨ (15 ≤ j ∧ j < 15 + R 1) ∨ (25 ≤ j ∧ j < 25 + 8 * R 4)
/-- A tells what R tells -/
def eM (A R : mF) : Prop := (0 < R 0 → A 0 = R 0) ∧ ∀ j, lvR R j → A j = R j
theorem eM.n {A R : mF} (e : eM A R) : A 1 = R 1 ∧ A 2 = R 2 ∧ A 3 = R 3 ∧ A 4 = R 4 := ⟨e.2 1 (Or.inl (by decide)), e.2 2 (Or.inl (by decide)), e.2 3 (Or.inl (by decide)), e.2 4 (Or.inl (by decide))⟩
theorem up_c {A R : mF} {i v j : Int} (h : j ≠ i → A j = R j) : up A i v j = up R i v j := by
  by_cases e : j = i
  · subst e; rw [up_s, up_s]
  · rw [up_n e, up_n e]; exact h e
theorem up_up {A : mF} {i v w : Int} : up (up A i v) i w = up A i w := by
  funext j
  by_cases e : j = i
  · subst e; rw [up_s, up_s]
  · rw [up_n e, up_n e, up_n e]
theorem eM_0 {A R : mF} {v : Int} (e : eM A R) : eM (up A 0 v) (up R 0 v) := by
  refine ⟨fun _ => by rw [up_s, up_s], fun j hj => up_c (fun j0 => e.2 j ?_)⟩
  unfold lvR at *
  rw [up_n (by decide), up_n (by decide)] at hj
  exact hj
/-- one of the numbers 2, 3 changes -/
theorem eM_k {A R : mF} {i v : Int} (e : eM A R) (hi : i = 2 ∨ i = 3) : eM (up A i v) (up R i v) := by
  refine ⟨fun z => up_c (fun _ => e.1 ?_), fun j hj => up_c (fun j0 => e.2 j ?_)⟩
  · rw [up_n (by omega)] at z; exact z
  · unfold lvR at *
    rw [up_n (by omega), up_n (by omega)] at hj
    exact hj
theorem eM_sp {A R : mF} {g w : Int} (e : eM A R) (h1 : 0 ≤ R 1 ∧ R 1 < 10) : eM (up (up (up A (5 + R 1) g) (15 + R 1) w) 1 (R 1 + 1)) (up (up (up R (5 + R 1) g) (15 + R 1) w) 1 (R 1 + 1)) := by
  refine ⟨fun z => up_c (fun _ => up_c (fun _ => up_c (fun _ => e.1 ?_))), fun j hj => up_c (fun j0 => up_c (fun j1 => up_c (fun j2 => e.2 j ?_)))⟩
  · rw [up_n (by omega), up_n (by omega), up_n (by omega)] at z; exact z
  · unfold lvR at *
    rw [up_s, up_n (by omega), up_n (by omega), up_n (by omega)] at hj
    omega
theorem eM_add {A R : mF} {l a b t w k : Int} (e : eM A R) (h1 : 0 ≤ R 1 ∧ R 1 ≤ 10) (h4 : 0 ≤ R 4) : eM (add1 A l a b t w k) (add1 R l a b t w k) := by
  have e4 := e.n.2.2.2
  have x := (add1_e (R := R) (l := l) (a := a) (b := b) (t := t) (w := w) (k := k) h4)
  unfold add1
  rw [e4]
  refine ⟨fun z => up_c (fun _ => up_c (fun _ => up_c (fun _ => up_c (fun _ => up_c (fun _ => up_c (fun _ => up_c (fun _ => up_c (fun _ => up_c (fun _ => e.1 ?_))))))))), fun j hj => up_c (fun j0 => up_c (fun j1 => up_c (fun j2 => up_c (fun j3 => up_c (fun j4 => up_c (fun j5 => up_c (fun j6 => up_c (fun j7 => up_c (fun j8 => e.2 j ?_)))))))))⟩
  · have y := x.1 0 (by decide) (Or.inl (by omega))
    unfold add1 at y
    rw [y] at z; exact z
  · have y1 := x.1 1 (by decide) (Or.inl (by omega))
    have y4 := x.2.1
    unfold add1 at y1 y4
    unfold lvR at *
    rw [y1, y4] at hj
    omega
/-- what the reference has read -/
def mrR (T : mF) (n : Int) (h : mH) (st : pS) : Prop := h 64 19 = bI (0 < st.1 0) ∧ eM (h 67) st.1 ∧ (∀ s, 0 ≤ s → s < st.1 1 → h 70 s = c32 T n (st.2.1 s)) ∧ ∀ s, 0 ≤ s → s < st.1 2 → h 71 s = c32 T n (st.2.2 s)
theorem mrR_f {T : mF} {n : Int} {h h1 : mH} {st : pS} {S : List Int} {C : List Nat} (hM : mrR T n h st) (f : f64 S C h h1) (a : (19 : Int) ∉ S) (b : 67 ∉ C) (c : 70 ∉ C) (d : 71 ∉ C) : mrR T n h1 st := by
  unfold mrR
  rw [f.2 19 a, f.1 67 b, f.1 70 c, f.1 71 d]
  exact hM
theorem fdS_R {T : mF} {n p : Int} {h : mH} {st : pS} (hM : mrR T n h st) (hV : PV T n st) (p1 : p ≤ n) (h1 : tK T n p = 1) : fdx (h 70) (h 67 1) (c32 T n p) = fdS T n st p := by
  rw [hM.2.1.n.1]
  unfold fdS
  refine fdx_c (fun i i0 i1 => ?_)
  obtain ⟨a, b, c⟩ := hV.2.1 i i0 i1
  rw [hM.2.2.1 i i0 i1]
  exact (c_iff b p1 c h1).symm
theorem fdL_R {T : mF} {n p : Int} {h : mH} {st : pS} (hM : mrR T n h st) (hV : PV T n st) (p1 : p ≤ n) (h1 : tK T n p = 1) : fdx (h 71) (h 67 2) (c32 T n p) = fdL T n st p := by
  rw [hM.2.1.n.2.1]
  unfold fdL
  refine fdx_c (fun i i0 i1 => ?_)
  obtain ⟨a, b, c⟩ := hV.2.2 i i0 i1
  rw [hM.2.2.2 i i0 i1]
  exact (c_iff b p1 c h1).symm
theorem xA_1 {T : mF} {n p : Int} {st : pS} (h : ¬ Nm T n p) : xA T n st p = 1 := by unfold xA; rw [if_pos (bI_f h)]
theorem xA_3 {T : mF} {n p : Int} {st : pS} (h : Nm T n p) (z : ¬ (fdS T n st p = -1 ∧ fdL T n st p = -1)) : xA T n st p = 3 := by unfold xA; rw [if_neg (by rw [bI_t h]; decide), if_neg z]
theorem xA_y {T : mF} {n p : Int} {st : pS} (h : Nm T n p) (z : fdS T n st p = -1 ∧ fdL T n st p = -1) : xA T n st p = 0 := by unfold xA; rw [if_neg (by rw [bI_t h]; decide), if_pos z]
theorem xU_1 {T : mF} {n p f : Int} (h : ¬ Nm T n p) : xU T n p f = 1 := by unfold xU; rw [if_pos (bI_f h)]
theorem xU_2 {T : mF} {n p f : Int} (h : Nm T n p) (z : f = -1) : xU T n p f = 2 := by unfold xU; rw [if_neg (by rw [bI_t h]; decide), if_pos z]
theorem xU_y {T : mF} {n p f : Int} (h : Nm T n p) (z : ¬ f = -1) : xU T n p f = 0 := by unfold xU; rw [if_neg (by rw [bI_t h]; decide), if_neg z]
theorem okE_n {P : Prop} {h h1 : mH} (e : okE (1 - bI P) h h1) (z : ¬ P) : h1 = erd h 1 := by
  rw [bI_f z] at e
  exact e.2 (by decide)
theorem okE_y {P : Prop} {h h1 : mH} (e : okE (1 - bI P) h h1) (z : P) : h1 = h := by
  rw [bI_t z] at e
  exact e.1 rfl
set_option maxRecDepth 100000 in
set_option maxHeartbeats 1000000 in
theorem Mo_takes70_ok (T : mF) (n p : Int) (st : pS) (h : mH) (r : mR) (hS : rdR T n p h) (hk : tkR T n p h) (hM : mrR T n h st) (hV : PV T n st) (k : Int) (k0 : 0 ≤ k ∧ k < 10) : Meets true (rm 8) m_Mo_takesNew [vR 64, vR 70, vI k] h r (srQ (xA T n st p) (tS T n p) [64, 70] h r (fun h1 => tkR T n (tE T n p) h1 ∧ h1 70 = up (h 70) k (c32 T n p))) := by
  have e13 := hk.1
  have b1 := hV.1.2.1
  have b2 := hV.1.2.2.1
  have m1 := hM.2.1.n.1
  have m2 := hM.2.1.n.2.1
  refine ⟨ok_Mo_takesNew, Nat.le_of_ble_eq_true rfl, ?_⟩
  refine wq_aload_n (kk := 0) (q := 1) rfl rfl rfl ?_
  refine wq_callV (q := 4) (m' := m_Mo_isName) (R' := rm 7) (As := []) rfl rfl l_Mo_154 vm_Mo_isName rfl rfl rfl (Or.inl ⟨rfl, Nat.le_of_ble_eq_true rfl⟩) (Nat.le_of_ble_eq_true rfl) (Nat.le_of_ble_eq_true rfl) (Nat.le_refl _) (Nat.le_refl _) (Nat.le_of_ble_eq_true rfl) (Mo_isName_ok T n p h r hS hk) rfl ?_
  rintro rv h1 r ⟨rfl, rfl, e1⟩ -
  refine wq_cif_ne (tgt := 9) (q := 7) rfl rfl rfl (fun c4 => ?_) (fun c4 => ?_)
  · skip
    rw [okE_y e1 c4]
    have nx := tkR_nx hS hk (by rw [c4.1]; decide)
    have fS := fdS_R hM hV hS.2.2.2.2 c4.1
    have fL := fdL_R hM hV hS.2.2.2.2 c4.1
    refine wq_aload_n (kk := 0) (q := 10) rfl rfl rfl ?_
    refine wq_getF (q := 13) f_Mo_29 rfl rfl (Nat.le_of_ble_eq_true rfl) rfl rfl rfl ?_
    refine wq_aload_n (kk := 0) (q := 14) rfl rfl rfl ?_
    refine wq_getF (q := 17) f_Mo_20 rfl rfl (Nat.le_of_ble_eq_true rfl) rfl rfl rfl ?_
    refine wq_iconst (n := 1) (q := 18) rfl rfl rfl ?_
    refine wq_iald (q := 19) rfl (Or.inl ⟨rfl, Nat.le_of_ble_eq_true rfl⟩) rfl rfl (by first | omega | (simp [hup]; omega)) (by first | omega | (simp [hup]; omega)) ?_
    refine wq_aload_n (kk := 0) (q := 20) rfl rfl rfl ?_
    refine wq_callV (q := 23) (m' := m_Mo_spelt) (R' := rm 1) (As := []) rfl rfl l_Mo_158 vm_Mo_spelt rfl rfl rfl (Or.inl ⟨rfl, Nat.le_of_ble_eq_true rfl⟩) (Nat.le_of_ble_eq_true rfl) (Nat.le_of_ble_eq_true rfl) (Nat.le_refl _) (Nat.le_refl _) (Nat.le_of_ble_eq_true rfl) (Mo_spelt_ok T n p h r hS hk c4.1) rfl ?_
    rintro rv h r ⟨rfl, rfl, rfl⟩ -
    refine wq_callS (q := 26) (m' := m_Mo_placeOf) (R' := rm 1) (As := [_, _, _]) rfl rfl l_Mo_162 sm_Mo_placeOf rfl (Nat.le_of_ble_eq_true rfl) (Nat.le_of_ble_eq_true rfl) (Nat.le_refl _) (Nat.le_refl _) (Nat.le_of_ble_eq_true rfl) (Mo_placeOf_ok 70 10 _ _ (Or.inl ⟨rfl, rfl⟩) h r (by omega) (by omega)) rfl ?_
    rintro rv h r ⟨rfl, rfl, rfl⟩ -
    rw [fS]
    refine wq_iconst (n := -1) (q := 27) rfl rfl rfl ?_
    refine wq_icmp_ne (tgt := 51) (q := 30) rfl rfl rfl (fun c27 => ?_) (fun c27 => ?_)
    · skip
      refine wq_aload_n (kk := 0) (q := 52) rfl rfl rfl ?_
      refine wq_iconst (n := 3) (q := 53) rfl rfl rfl ?_
      refine wq_callV (q := 56) (m' := m_Mo_errs) (R' := rm 1) (As := [_]) rfl rfl l_Mo_130 vm_Mo_errs rfl rfl rfl (Or.inl ⟨rfl, Nat.le_of_ble_eq_true rfl⟩) (Nat.le_of_ble_eq_true rfl) (Nat.le_of_ble_eq_true rfl) (Nat.le_refl _) (Nat.le_refl _) (Nat.le_of_ble_eq_true rfl) (Mo_errs_ok 3 h r) rfl ?_
      rintro rv h2 r ⟨rfl, rfl, rfl⟩ -
      rw [xA_3 c4 (by omega)]
      exact wq_zret rfl rfl (Nat.le_refl _) (Nat.le_refl _) (by omega) (srQ.e (by decide) f64.rf (by decide) e13)
    · skip
      refine wq_aload_n (kk := 0) (q := 31) rfl rfl rfl ?_
      refine wq_getF (q := 34) f_Mo_33 rfl rfl (Nat.le_of_ble_eq_true rfl) rfl rfl rfl ?_
      refine wq_aload_n (kk := 0) (q := 35) rfl rfl rfl ?_
      refine wq_getF (q := 38) f_Mo_20 rfl rfl (Nat.le_of_ble_eq_true rfl) rfl rfl rfl ?_
      refine wq_iconst (n := 2) (q := 39) rfl rfl rfl ?_
      refine wq_iald (q := 40) rfl (Or.inl ⟨rfl, Nat.le_of_ble_eq_true rfl⟩) rfl rfl (by first | omega | (simp [hup]; omega)) (by first | omega | (simp [hup]; omega)) ?_
      refine wq_aload_n (kk := 0) (q := 41) rfl rfl rfl ?_
      refine wq_callV (q := 44) (m' := m_Mo_spelt) (R' := rm 1) (As := []) rfl rfl l_Mo_158 vm_Mo_spelt rfl rfl rfl (Or.inl ⟨rfl, Nat.le_of_ble_eq_true rfl⟩) (Nat.le_of_ble_eq_true rfl) (Nat.le_of_ble_eq_true rfl) (Nat.le_refl _) (Nat.le_refl _) (Nat.le_of_ble_eq_true rfl) (Mo_spelt_ok T n p h r hS hk c4.1) rfl ?_
      rintro rv h r ⟨rfl, rfl, rfl⟩ -
      refine wq_callS (q := 47) (m' := m_Mo_placeOf) (R' := rm 1) (As := [_, _, _]) rfl rfl l_Mo_162 sm_Mo_placeOf rfl (Nat.le_of_ble_eq_true rfl) (Nat.le_of_ble_eq_true rfl) (Nat.le_refl _) (Nat.le_refl _) (Nat.le_of_ble_eq_true rfl) (Mo_placeOf_ok 71 8 _ _ (Or.inr ⟨rfl, rfl⟩) h r (by omega) (by omega)) rfl ?_
      rintro rv h r ⟨rfl, rfl, rfl⟩ -
      rw [fL]
      refine wq_iconst (n := -1) (q := 48) rfl rfl rfl ?_
      refine wq_icmp_eq (tgt := 57) (q := 51) rfl rfl rfl (fun c48 => ?_) (fun c48 => ?_)
      · skip
        refine wq_aload_n (kk := 1) (q := 58) rfl rfl rfl ?_
        refine wq_iload_n (kk := 2) (q := 59) rfl rfl rfl ?_
        refine wq_aload_n (kk := 0) (q := 60) rfl rfl rfl ?_
        refine wq_callV (q := 63) (m' := m_Mo_spelt) (R' := rm 1) (As := []) rfl rfl l_Mo_158 vm_Mo_spelt rfl rfl rfl (Or.inl ⟨rfl, Nat.le_of_ble_eq_true rfl⟩) (Nat.le_of_ble_eq_true rfl) (Nat.le_of_ble_eq_true rfl) (Nat.le_refl _) (Nat.le_refl _) (Nat.le_of_ble_eq_true rfl) (Mo_spelt_ok T n p h r hS hk c4.1) rfl ?_
        rintro rv h r ⟨rfl, rfl, rfl⟩ -
        refine wq_last (q := 64) rfl (Or.inl ⟨rfl, Nat.le_of_ble_eq_true rfl⟩) rfl rfl (by first | omega | (simp [hup]; omega)) (by first | omega | (simp [hup]; omega)) ?_
        have f2 : f64 goF [64, 70] h (hup h 70 k (c32 T n p)) := f64.rf.uc (by decide) (by decide)
        refine wq_aload_n (kk := 0) (q := 65) rfl rfl rfl ?_
        refine wq_callV (q := 68) (m' := m_Mo_goesOn) (R' := rm 2) (As := []) rfl rfl l_Mo_134 vm_Mo_goesOn rfl rfl rfl (Or.inl ⟨rfl, Nat.le_of_ble_eq_true rfl⟩) (Nat.le_of_ble_eq_true rfl) (Nat.le_of_ble_eq_true rfl) (Nat.le_refl _) (Nat.le_refl _) (Nat.le_of_ble_eq_true rfl) (Mo_goesOn_ok T n (tE T n p) _ r (rdR_f nx.1 f2 (by decide) (by decide)) (by rw [hup_i (by decide)]; exact nx.2)) rfl ?_
        rintro rv h2 r ⟨rfl, rfl, f3, k3⟩ -
        refine wq_iconst (n := 1) (q := 69) rfl rfl rfl ?_
        refine wq_zret rfl rfl (Nat.le_refl _) (Nat.le_refl _) (by omega) (srQ.y (xA_y c4 (by omega)) ((f2.tr f3 (fun _ z => z) (by decide)).mono (by decide) (by decide)) ⟨k3, ?_⟩)
        rw [f3.1 70 (by decide), hup_up]
      · skip
        refine wq_aload_n (kk := 0) (q := 52) rfl rfl rfl ?_
        refine wq_iconst (n := 3) (q := 53) rfl rfl rfl ?_
        refine wq_callV (q := 56) (m' := m_Mo_errs) (R' := rm 1) (As := [_]) rfl rfl l_Mo_130 vm_Mo_errs rfl rfl rfl (Or.inl ⟨rfl, Nat.le_of_ble_eq_true rfl⟩) (Nat.le_of_ble_eq_true rfl) (Nat.le_of_ble_eq_true rfl) (Nat.le_refl _) (Nat.le_refl _) (Nat.le_of_ble_eq_true rfl) (Mo_errs_ok 3 h r) rfl ?_
        rintro rv h2 r ⟨rfl, rfl, rfl⟩ -
        rw [xA_3 c4 (by omega)]
        exact wq_zret rfl rfl (Nat.le_refl _) (Nat.le_refl _) (by omega) (srQ.e (by decide) f64.rf (by decide) e13)
  · skip
    refine wq_iconst (n := 0) (q := 8) rfl rfl rfl ?_
    rw [okE_n e1 c4, xA_1 c4]
    exact wq_zret rfl rfl (Nat.le_refl _) (Nat.le_refl _) (by omega) (srQ.e (by decide) f64.rf (by decide) e13)
set_option maxRecDepth 100000 in
set_option maxHeartbeats 1000000 in
theorem Mo_takes71_ok (T : mF) (n p : Int) (st : pS) (h : mH) (r : mR) (hS : rdR T n p h) (hk : tkR T n p h) (hM : mrR T n h st) (hV : PV T n st) (k : Int) (k0 : 0 ≤ k ∧ k < 8) : Meets true (rm 8) m_Mo_takesNew [vR 64, vR 71, vI k] h r (srQ (xA T n st p) (tS T n p) [64, 71] h r (fun h1 => tkR T n (tE T n p) h1 ∧ h1 71 = up (h 71) k (c32 T n p))) := by
  have e13 := hk.1
  have b1 := hV.1.2.1
  have b2 := hV.1.2.2.1
  have m1 := hM.2.1.n.1
  have m2 := hM.2.1.n.2.1
  refine ⟨ok_Mo_takesNew, Nat.le_of_ble_eq_true rfl, ?_⟩
  refine wq_aload_n (kk := 0) (q := 1) rfl rfl rfl ?_
  refine wq_callV (q := 4) (m' := m_Mo_isName) (R' := rm 7) (As := []) rfl rfl l_Mo_154 vm_Mo_isName rfl rfl rfl (Or.inl ⟨rfl, Nat.le_of_ble_eq_true rfl⟩) (Nat.le_of_ble_eq_true rfl) (Nat.le_of_ble_eq_true rfl) (Nat.le_refl _) (Nat.le_refl _) (Nat.le_of_ble_eq_true rfl) (Mo_isName_ok T n p h r hS hk) rfl ?_
  rintro rv h1 r ⟨rfl, rfl, e1⟩ -
  refine wq_cif_ne (tgt := 9) (q := 7) rfl rfl rfl (fun c4 => ?_) (fun c4 => ?_)
  · skip
    rw [okE_y e1 c4]
    have nx := tkR_nx hS hk (by rw [c4.1]; decide)
    have fS := fdS_R hM hV hS.2.2.2.2 c4.1
    have fL := fdL_R hM hV hS.2.2.2.2 c4.1
    refine wq_aload_n (kk := 0) (q := 10) rfl rfl rfl ?_
    refine wq_getF (q := 13) f_Mo_29 rfl rfl (Nat.le_of_ble_eq_true rfl) rfl rfl rfl ?_
    refine wq_aload_n (kk := 0) (q := 14) rfl rfl rfl ?_
    refine wq_getF (q := 17) f_Mo_20 rfl rfl (Nat.le_of_ble_eq_true rfl) rfl rfl rfl ?_
    refine wq_iconst (n := 1) (q := 18) rfl rfl rfl ?_
    refine wq_iald (q := 19) rfl (Or.inl ⟨rfl, Nat.le_of_ble_eq_true rfl⟩) rfl rfl (by first | omega | (simp [hup]; omega)) (by first | omega | (simp [hup]; omega)) ?_
    refine wq_aload_n (kk := 0) (q := 20) rfl rfl rfl ?_
    refine wq_callV (q := 23) (m' := m_Mo_spelt) (R' := rm 1) (As := []) rfl rfl l_Mo_158 vm_Mo_spelt rfl rfl rfl (Or.inl ⟨rfl, Nat.le_of_ble_eq_true rfl⟩) (Nat.le_of_ble_eq_true rfl) (Nat.le_of_ble_eq_true rfl) (Nat.le_refl _) (Nat.le_refl _) (Nat.le_of_ble_eq_true rfl) (Mo_spelt_ok T n p h r hS hk c4.1) rfl ?_
    rintro rv h r ⟨rfl, rfl, rfl⟩ -
    refine wq_callS (q := 26) (m' := m_Mo_placeOf) (R' := rm 1) (As := [_, _, _]) rfl rfl l_Mo_162 sm_Mo_placeOf rfl (Nat.le_of_ble_eq_true rfl) (Nat.le_of_ble_eq_true rfl) (Nat.le_refl _) (Nat.le_refl _) (Nat.le_of_ble_eq_true rfl) (Mo_placeOf_ok 70 10 _ _ (Or.inl ⟨rfl, rfl⟩) h r (by omega) (by omega)) rfl ?_
    rintro rv h r ⟨rfl, rfl, rfl⟩ -
    rw [fS]
    refine wq_iconst (n := -1) (q := 27) rfl rfl rfl ?_
    refine wq_icmp_ne (tgt := 51) (q := 30) rfl rfl rfl (fun c27 => ?_) (fun c27 => ?_)
    · skip
      refine wq_aload_n (kk := 0) (q := 52) rfl rfl rfl ?_
      refine wq_iconst (n := 3) (q := 53) rfl rfl rfl ?_
      refine wq_callV (q := 56) (m' := m_Mo_errs) (R' := rm 1) (As := [_]) rfl rfl l_Mo_130 vm_Mo_errs rfl rfl rfl (Or.inl ⟨rfl, Nat.le_of_ble_eq_true rfl⟩) (Nat.le_of_ble_eq_true rfl) (Nat.le_of_ble_eq_true rfl) (Nat.le_refl _) (Nat.le_refl _) (Nat.le_of_ble_eq_true rfl) (Mo_errs_ok 3 h r) rfl ?_
      rintro rv h2 r ⟨rfl, rfl, rfl⟩ -
      rw [xA_3 c4 (by omega)]
      exact wq_zret rfl rfl (Nat.le_refl _) (Nat.le_refl _) (by omega) (srQ.e (by decide) f64.rf (by decide) e13)
    · skip
      refine wq_aload_n (kk := 0) (q := 31) rfl rfl rfl ?_
      refine wq_getF (q := 34) f_Mo_33 rfl rfl (Nat.le_of_ble_eq_true rfl) rfl rfl rfl ?_
      refine wq_aload_n (kk := 0) (q := 35) rfl rfl rfl ?_
      refine wq_getF (q := 38) f_Mo_20 rfl rfl (Nat.le_of_ble_eq_true rfl) rfl rfl rfl ?_
      refine wq_iconst (n := 2) (q := 39) rfl rfl rfl ?_
      refine wq_iald (q := 40) rfl (Or.inl ⟨rfl, Nat.le_of_ble_eq_true rfl⟩) rfl rfl (by first | omega | (simp [hup]; omega)) (by first | omega | (simp [hup]; omega)) ?_
      refine wq_aload_n (kk := 0) (q := 41) rfl rfl rfl ?_
      refine wq_callV (q := 44) (m' := m_Mo_spelt) (R' := rm 1) (As := []) rfl rfl l_Mo_158 vm_Mo_spelt rfl rfl rfl (Or.inl ⟨rfl, Nat.le_of_ble_eq_true rfl⟩) (Nat.le_of_ble_eq_true rfl) (Nat.le_of_ble_eq_true rfl) (Nat.le_refl _) (Nat.le_refl _) (Nat.le_of_ble_eq_true rfl) (Mo_spelt_ok T n p h r hS hk c4.1) rfl ?_
      rintro rv h r ⟨rfl, rfl, rfl⟩ -
      refine wq_callS (q := 47) (m' := m_Mo_placeOf) (R' := rm 1) (As := [_, _, _]) rfl rfl l_Mo_162 sm_Mo_placeOf rfl (Nat.le_of_ble_eq_true rfl) (Nat.le_of_ble_eq_true rfl) (Nat.le_refl _) (Nat.le_refl _) (Nat.le_of_ble_eq_true rfl) (Mo_placeOf_ok 71 8 _ _ (Or.inr ⟨rfl, rfl⟩) h r (by omega) (by omega)) rfl ?_
      rintro rv h r ⟨rfl, rfl, rfl⟩ -
      rw [fL]
      refine wq_iconst (n := -1) (q := 48) rfl rfl rfl ?_
      refine wq_icmp_eq (tgt := 57) (q := 51) rfl rfl rfl (fun c48 => ?_) (fun c48 => ?_)
      · skip
        refine wq_aload_n (kk := 1) (q := 58) rfl rfl rfl ?_
        refine wq_iload_n (kk := 2) (q := 59) rfl rfl rfl ?_
        refine wq_aload_n (kk := 0) (q := 60) rfl rfl rfl ?_
        refine wq_callV (q := 63) (m' := m_Mo_spelt) (R' := rm 1) (As := []) rfl rfl l_Mo_158 vm_Mo_spelt rfl rfl rfl (Or.inl ⟨rfl, Nat.le_of_ble_eq_true rfl⟩) (Nat.le_of_ble_eq_true rfl) (Nat.le_of_ble_eq_true rfl) (Nat.le_refl _) (Nat.le_refl _) (Nat.le_of_ble_eq_true rfl) (Mo_spelt_ok T n p h r hS hk c4.1) rfl ?_
        rintro rv h r ⟨rfl, rfl, rfl⟩ -
        refine wq_last (q := 64) rfl (Or.inl ⟨rfl, Nat.le_of_ble_eq_true rfl⟩) rfl rfl (by first | omega | (simp [hup]; omega)) (by first | omega | (simp [hup]; omega)) ?_
        have f2 : f64 goF [64, 71] h (hup h 71 k (c32 T n p)) := f64.rf.uc (by decide) (by decide)
        refine wq_aload_n (kk := 0) (q := 65) rfl rfl rfl ?_
        refine wq_callV (q := 68) (m' := m_Mo_goesOn) (R' := rm 2) (As := []) rfl rfl l_Mo_134 vm_Mo_goesOn rfl rfl rfl (Or.inl ⟨rfl, Nat.le_of_ble_eq_true rfl⟩) (Nat.le_of_ble_eq_true rfl) (Nat.le_of_ble_eq_true rfl) (Nat.le_refl _) (Nat.le_refl _) (Nat.le_of_ble_eq_true rfl) (Mo_goesOn_ok T n (tE T n p) _ r (rdR_f nx.1 f2 (by decide) (by decide)) (by rw [hup_i (by decide)]; exact nx.2)) rfl ?_
        rintro rv h2 r ⟨rfl, rfl, f3, k3⟩ -
        refine wq_iconst (n := 1) (q := 69) rfl rfl rfl ?_
        refine wq_zret rfl rfl (Nat.le_refl _) (Nat.le_refl _) (by omega) (srQ.y (xA_y c4 (by omega)) ((f2.tr f3 (fun _ z => z) (by decide)).mono (by decide) (by decide)) ⟨k3, ?_⟩)
        rw [f3.1 71 (by decide), hup_up]
      · skip
        refine wq_aload_n (kk := 0) (q := 52) rfl rfl rfl ?_
        refine wq_iconst (n := 3) (q := 53) rfl rfl rfl ?_
        refine wq_callV (q := 56) (m' := m_Mo_errs) (R' := rm 1) (As := [_]) rfl rfl l_Mo_130 vm_Mo_errs rfl rfl rfl (Or.inl ⟨rfl, Nat.le_of_ble_eq_true rfl⟩) (Nat.le_of_ble_eq_true rfl) (Nat.le_of_ble_eq_true rfl) (Nat.le_refl _) (Nat.le_refl _) (Nat.le_of_ble_eq_true rfl) (Mo_errs_ok 3 h r) rfl ?_
        rintro rv h2 r ⟨rfl, rfl, rfl⟩ -
        rw [xA_3 c4 (by omega)]
        exact wq_zret rfl rfl (Nat.le_refl _) (Nat.le_refl _) (by omega) (srQ.e (by decide) f64.rf (by decide) e13)
  · skip
    refine wq_iconst (n := 0) (q := 8) rfl rfl rfl ?_
    rw [okE_n e1 c4, xA_1 c4]
    exact wq_zret rfl rfl (Nat.le_refl _) (Nat.le_refl _) (by omega) (srQ.e (by decide) f64.rf (by decide) e13)
set_option maxRecDepth 100000 in
set_option maxHeartbeats 1000000 in
theorem Mo_laysLink_ok (to lo hi : Int) (T : mF) (n p : Int) (h : mH) (r : mR) (hk : tkR T n p h) (t0 : 0 ≤ to ∧ to < 7) : Meets true (rm 2) m_Mo_laysLink [vR 64, vI to, vI lo, vI hi] h r (srQ (xN T n p lo hi) (tS T n p) [64, 72] h r (fun h1 => h1 = hup h 72 to (c10 T n p))) := by
  have e13 := hk.1
  have e15 := hk.2.1
  have k2 := kR_2 (k := tK T n p)
  refine ⟨ok_Mo_laysLink, Nat.le_of_ble_eq_true rfl, ?_⟩
  refine wq_aload_n (kk := 0) (q := 1) rfl rfl rfl ?_
  refine wq_getI (kz := 15) (q := 4) rfl f_Mo_104 rfl rfl (Or.inl ⟨rfl, Nat.le_of_ble_eq_true rfl⟩) rfl rfl ?_
  refine wq_iconst (n := 3) (q := 5) rfl rfl rfl ?_
  refine wq_icmp_eq (tgt := 14) (q := 8) rfl rfl rfl (fun c5 => ?_) (fun c5 => ?_)
  · skip
    have hK : tK T n p = 2 := k2.1 (by omega)
    have e16 := hk.2.2.2 hK
    refine wq_aload_n (kk := 0) (q := 15) rfl rfl rfl ?_
    refine wq_getI (kz := 16) (q := 18) rfl f_Mo_111 rfl rfl (Or.inl ⟨rfl, Nat.le_of_ble_eq_true rfl⟩) rfl rfl ?_
    refine wq_iload_n (kk := 2) (q := 19) rfl rfl rfl ?_
    refine wq_iload_n (kk := 3) (q := 20) rfl rfl rfl ?_
    refine wq_callS (q := 23) (m' := m_Mo_in) (R' := rm 1) (As := [_, _, _]) rfl rfl l_Mo_107 sm_Mo_in rfl (Nat.le_of_ble_eq_true rfl) (Nat.le_of_ble_eq_true rfl) (Nat.le_refl _) (Nat.le_refl _) (Nat.le_of_ble_eq_true rfl) (Mo_in_ok _ _ _ h r) rfl ?_
    rintro rv h r ⟨rfl, rfl, rfl⟩ -
    refine wq_cif_ne (tgt := 32) (q := 26) rfl rfl rfl (fun c23 => ?_) (fun c23 => ?_)
    · skip
      refine wq_aload_n (kk := 0) (q := 33) rfl rfl rfl ?_
      refine wq_getF (q := 36) f_Mo_36 rfl rfl (Nat.le_of_ble_eq_true rfl) rfl rfl rfl ?_
      refine wq_iload_n (kk := 1) (q := 37) rfl rfl rfl ?_
      refine wq_aload_n (kk := 0) (q := 38) rfl rfl rfl ?_
      refine wq_getI (kz := 16) (q := 41) rfl f_Mo_111 rfl rfl (Or.inl ⟨rfl, Nat.le_of_ble_eq_true rfl⟩) rfl rfl ?_
      refine wq_iast (q := 42) rfl (Or.inl ⟨rfl, Nat.le_of_ble_eq_true rfl⟩) rfl rfl (by first | omega | (simp [hup]; omega)) (by first | omega | (simp [hup]; omega)) ?_
      refine wq_iconst (n := 1) (q := 43) rfl rfl rfl ?_
      exact wq_zret rfl rfl (Nat.le_refl _) (Nat.le_refl _) (by omega) (srQ.y (xN_y hK (by rw [← e16]; assumption)) (f64.rf.uc (by decide) (by decide)) (by rw [e16]))
    · skip
      refine wq_aload_n (kk := 0) (q := 27) rfl rfl rfl ?_
      refine wq_iconst (n := 4) (q := 28) rfl rfl rfl ?_
      refine wq_callV (q := 31) (m' := m_Mo_errs) (R' := rm 1) (As := [_]) rfl rfl l_Mo_130 vm_Mo_errs rfl rfl rfl (Or.inl ⟨rfl, Nat.le_of_ble_eq_true rfl⟩) (Nat.le_of_ble_eq_true rfl) (Nat.le_of_ble_eq_true rfl) (Nat.le_refl _) (Nat.le_refl _) (Nat.le_of_ble_eq_true rfl) (Mo_errs_ok 4 h r) rfl ?_
      rintro rv h2 r ⟨rfl, rfl, rfl⟩ -
      rw [xN_4 hK (by rw [← e16]; assumption)]
      exact wq_zret rfl rfl (Nat.le_refl _) (Nat.le_refl _) (by omega) (srQ.e (by decide) f64.rf (by decide) e13)
  · skip
    have hK : tK T n p ≠ 2 := fun z => by have := k2.2 z; omega
    refine wq_aload_n (kk := 0) (q := 9) rfl rfl rfl ?_
    refine wq_iconst (n := 1) (q := 10) rfl rfl rfl ?_
    refine wq_callV (q := 13) (m' := m_Mo_errs) (R' := rm 1) (As := [_]) rfl rfl l_Mo_130 vm_Mo_errs rfl rfl rfl (Or.inl ⟨rfl, Nat.le_of_ble_eq_true rfl⟩) (Nat.le_of_ble_eq_true rfl) (Nat.le_of_ble_eq_true rfl) (Nat.le_refl _) (Nat.le_refl _) (Nat.le_of_ble_eq_true rfl) (Mo_errs_ok 1 h r) rfl ?_
    rintro rv h2 r ⟨rfl, rfl, rfl⟩ -
    rw [xN_1 hK]
    exact wq_zret rfl rfl (Nat.le_refl _) (Nat.le_refl _) (by omega) (srQ.e (by decide) f64.rf (by decide) e13)
set_option maxRecDepth 100000 in
set_option maxHeartbeats 1000000 in
theorem Mo_afterLink_ok (j : Nat) (hj : j < 11) (to lo hi : Int) (T : mF) (n p : Int) (h : mH) (r : mR) (hS : rdR T n p h) (hk : tkR T n p h) (t0 : 0 ≤ to ∧ to < 7) : Meets true (rm 7) m_Mo_afterLink [vR 64, vR (sBase + j), vI to, vI lo, vI hi] h r (srQ (xx (xW T n p j) (xN T n (tE T n p) lo hi)) (xp (xW T n p j) (tS T n p) (tS T n (tE T n p))) [64, 72] h r (fun h1 => tkR T n (tE T n p) h1 ∧ h1 72 = up (h 72) to (c10 T n (tE T n p)) ∧ f64 goF [64, 72] h h1)) := by
  have e13 := hk.1
  refine ⟨ok_Mo_afterLink, Nat.le_of_ble_eq_true rfl, ?_⟩
  refine wq_aload_n (kk := 0) (q := 1) rfl rfl rfl ?_
  refine wq_aload_n (kk := 1) (q := 2) rfl rfl rfl ?_
  refine wq_callV (q := 5) (m' := m_Mo_isWord) (R' := rm 6) (As := [_]) rfl rfl l_Mo_137 vm_Mo_isWord rfl rfl rfl (Or.inl ⟨rfl, Nat.le_of_ble_eq_true rfl⟩) (Nat.le_of_ble_eq_true rfl) (Nat.le_of_ble_eq_true rfl) (Nat.le_refl _) (Nat.le_refl _) (Nat.le_of_ble_eq_true rfl) (Mo_isWord_ok j hj T n p h r hS hk) rfl ?_
  rintro rv h r ⟨rfl, rfl, rfl⟩ -
  refine wq_cif_ne (tgt := 14) (q := 8) rfl rfl rfl (fun c5 => ?_) (fun c5 => ?_)
  · skip
    have hW : Wd T n p j := by assumption
    have nx := tkR_nx hS hk (Wd_5 hW)
    refine wq_aload_n (kk := 0) (q := 15) rfl rfl rfl ?_
    refine wq_callV (q := 18) (m' := m_Mo_goesOn) (R' := rm 2) (As := []) rfl rfl l_Mo_134 vm_Mo_goesOn rfl rfl rfl (Or.inl ⟨rfl, Nat.le_of_ble_eq_true rfl⟩) (Nat.le_of_ble_eq_true rfl) (Nat.le_of_ble_eq_true rfl) (Nat.le_refl _) (Nat.le_refl _) (Nat.le_of_ble_eq_true rfl) (Mo_goesOn_ok T n (tE T n p) _ r nx.1 nx.2) rfl ?_
    rintro rv h2 r ⟨rfl, rfl, f2, k2⟩ -
    refine wq_aload_n (kk := 0) (q := 19) rfl rfl rfl ?_
    refine wq_iload_n (kk := 2) (q := 20) rfl rfl rfl ?_
    refine wq_iload_n (kk := 3) (q := 21) rfl rfl rfl ?_
    refine wq_iload (i := 4) (q := 23) rfl rfl rfl ?_
    refine wq_callV (q := 26) (m' := m_Mo_laysLink) (R' := rm 2) (As := [_, _, _]) rfl rfl l_Mo_188 vm_Mo_laysLink rfl rfl rfl (Or.inl ⟨rfl, Nat.le_of_ble_eq_true rfl⟩) (Nat.le_of_ble_eq_true rfl) (Nat.le_of_ble_eq_true rfl) (Nat.le_refl _) (Nat.le_refl _) (Nat.le_of_ble_eq_true rfl) (Mo_laysLink_ok to lo hi T n (tE T n p) h2 r k2 t0) rfl ?_
    rintro rv h3 r ⟨rfl, rfl, f3, b3, a3⟩ -
    rw [xW_0 hW]
    refine wq_zret rfl rfl (Nat.le_refl _) (Nat.le_refl _) (bI_z _) ⟨rfl, rfl, (f2.mono (by decide) (by decide)).tr f3 (fun _ z => z) (fun _ z => z), b3, fun z => ?_⟩
    rw [a3 z]
    have f4 : f64 goF [64, 72] h2 (hup h2 72 to (c10 T n (tE T n p))) := f64.rf.uc (by decide) (by decide)
    refine ⟨tkR_f (S := []) k2 (f64.rf.uc (C := [72]) (by decide) (by decide)) (by decide) (by decide) (by decide) (by decide), by rw [hup_up, f2.1 72 (by decide)], (f2.mono (fun _ z => z) (by decide)).tr f4 (fun _ z => z) (fun _ z => z)⟩
  · skip
    refine wq_aload_n (kk := 0) (q := 9) rfl rfl rfl ?_
    refine wq_iconst (n := 1) (q := 10) rfl rfl rfl ?_
    refine wq_callV (q := 13) (m' := m_Mo_errs) (R' := rm 1) (As := [_]) rfl rfl l_Mo_130 vm_Mo_errs rfl rfl rfl (Or.inl ⟨rfl, Nat.le_of_ble_eq_true rfl⟩) (Nat.le_of_ble_eq_true rfl) (Nat.le_of_ble_eq_true rfl) (Nat.le_refl _) (Nat.le_refl _) (Nat.le_of_ble_eq_true rfl) (Mo_errs_ok 1 h r) rfl ?_
    rintro rv h2 r ⟨rfl, rfl, rfl⟩ -
    rw [xW_1 (by assumption)]
    exact wq_zret rfl rfl (Nat.le_refl _) (Nat.le_refl _) (by omega) (srQ.e (k := 1) (by decide) f64.rf (by decide) e13)
set_option maxRecDepth 100000 in
set_option maxHeartbeats 1000000 in
theorem Mo_namesLink_ok (c : Nat) (m k to : Int) (hc : c = 70 ∧ m = 10 ∨ c = 71 ∧ m = 8) (T : mF) (n p : Int) (h : mH) (r : mR) (hS : rdR T n p h) (hk : tkR T n p h) (k0 : 0 ≤ k) (k1 : k ≤ m) (t0 : 0 ≤ to ∧ to < 7) : Meets true (rm 8) m_Mo_namesLink [vR 64, vR c, vI k, vI to] h r (srQ (xU T n p (fdx (h c) k (c32 T n p))) (tS T n p) [64, 72] h r (fun h1 => h1 = hup h 72 to (fdx (h c) k (c32 T n p)))) := by
  have e13 := hk.1
  refine ⟨ok_Mo_namesLink, Nat.le_of_ble_eq_true rfl, ?_⟩
  refine wq_aload_n (kk := 0) (q := 1) rfl rfl rfl ?_
  refine wq_callV (q := 4) (m' := m_Mo_isName) (R' := rm 7) (As := []) rfl rfl l_Mo_154 vm_Mo_isName rfl rfl rfl (Or.inl ⟨rfl, Nat.le_of_ble_eq_true rfl⟩) (Nat.le_of_ble_eq_true rfl) (Nat.le_of_ble_eq_true rfl) (Nat.le_refl _) (Nat.le_refl _) (Nat.le_of_ble_eq_true rfl) (Mo_isName_ok T n p h r hS hk) rfl ?_
  rintro rv h1 r ⟨rfl, rfl, e1⟩ -
  refine wq_cif_ne (tgt := 9) (q := 7) rfl rfl rfl (fun c4 => ?_) (fun c4 => ?_)
  · skip
    rw [okE_y e1 c4]
    refine wq_aload_n (kk := 0) (q := 10) rfl rfl rfl ?_
    refine wq_getF (q := 13) f_Mo_36 rfl rfl (Nat.le_of_ble_eq_true rfl) rfl rfl rfl ?_
    refine wq_iload_n (kk := 3) (q := 14) rfl rfl rfl ?_
    refine wq_aload_n (kk := 1) (q := 15) rfl rfl rfl ?_
    refine wq_iload_n (kk := 2) (q := 16) rfl rfl rfl ?_
    refine wq_aload_n (kk := 0) (q := 17) rfl rfl rfl ?_
    refine wq_callV (q := 20) (m' := m_Mo_spelt) (R' := rm 1) (As := []) rfl rfl l_Mo_158 vm_Mo_spelt rfl rfl rfl (Or.inl ⟨rfl, Nat.le_of_ble_eq_true rfl⟩) (Nat.le_of_ble_eq_true rfl) (Nat.le_of_ble_eq_true rfl) (Nat.le_refl _) (Nat.le_refl _) (Nat.le_of_ble_eq_true rfl) (Mo_spelt_ok T n p h r hS hk c4.1) rfl ?_
    rintro rv h r ⟨rfl, rfl, rfl⟩ -
    refine wq_callS (q := 23) (m' := m_Mo_placeOf) (R' := rm 1) (As := [_, _, _]) rfl rfl l_Mo_162 sm_Mo_placeOf rfl (Nat.le_of_ble_eq_true rfl) (Nat.le_of_ble_eq_true rfl) (Nat.le_refl _) (Nat.le_refl _) (Nat.le_of_ble_eq_true rfl) (Mo_placeOf_ok c m k _ hc h r k0 k1) rfl ?_
    rintro rv h r ⟨rfl, rfl, rfl⟩ -
    refine wq_iast (q := 24) rfl (Or.inl ⟨rfl, Nat.le_of_ble_eq_true rfl⟩) rfl rfl (by first | omega | (simp [hup]; omega)) (by first | omega | (simp [hup]; omega)) ?_
    have f2 : f64 erF [64, 72] h (hup h 72 to (fdx (h c) k (c32 T n p))) := f64.rf.uc (by decide) (by decide)
    refine wq_aload_n (kk := 0) (q := 25) rfl rfl rfl ?_
    refine wq_getF (q := 28) f_Mo_36 rfl rfl (Nat.le_of_ble_eq_true rfl) rfl rfl rfl ?_
    refine wq_iload_n (kk := 3) (q := 29) rfl rfl rfl ?_
    refine wq_iald (q := 30) rfl (Or.inl ⟨rfl, Nat.le_of_ble_eq_true rfl⟩) rfl rfl (by first | omega | (simp [hup]; omega)) (by first | omega | (simp [hup]; omega)) ?_
    rw [hup_s]
    refine wq_iconst (n := -1) (q := 31) rfl rfl rfl ?_
    refine wq_icmp_ne (tgt := 42) (q := 34) rfl rfl rfl (fun c31 => ?_) (fun c31 => ?_)
    · skip
      refine wq_iconst (n := 1) (q := 43) rfl rfl rfl ?_
      refine wq_goto (tgt := 47) rfl rfl ?_
      first
      | exact c39.elim
      | exact wq_zret rfl rfl (Nat.le_refl _) (Nat.le_refl _) (by omega) (srQ.y (xU_y c4 (by assumption)) f2 rfl)
      | (rw [xU_2 c4 c31]
         exact wq_zret rfl rfl (Nat.le_refl _) (Nat.le_refl _) (by omega) (srQ.e (by decide) f2 (by decide) (by rw [hup_i (by decide)]; exact e13)))
    · skip
      refine wq_aload_n (kk := 0) (q := 35) rfl rfl rfl ?_
      refine wq_iconst (n := 2) (q := 36) rfl rfl rfl ?_
      refine wq_callV (q := 39) (m' := m_Mo_errs) (R' := rm 1) (As := [_]) rfl rfl l_Mo_130 vm_Mo_errs rfl rfl rfl (Or.inl ⟨rfl, Nat.le_of_ble_eq_true rfl⟩) (Nat.le_of_ble_eq_true rfl) (Nat.le_of_ble_eq_true rfl) (Nat.le_refl _) (Nat.le_refl _) (Nat.le_of_ble_eq_true rfl) (Mo_errsF_ok 2 _ r) rfl ?_
      rintro rv h2 r ⟨rfl, rfl, rfl⟩ -
      refine wq_cif_eq (tgt := 46) (q := 42) rfl rfl rfl (fun c39 => ?_) (fun c39 => ?_)
      · skip
        refine wq_iconst (n := 0) (q := 47) rfl rfl rfl ?_
        first
        | exact c39.elim
        | exact wq_zret rfl rfl (Nat.le_refl _) (Nat.le_refl _) (by omega) (srQ.y (xU_y c4 (by assumption)) f2 rfl)
        | (rw [xU_2 c4 c31]
           exact wq_zret rfl rfl (Nat.le_refl _) (Nat.le_refl _) (by omega) (srQ.e (by decide) f2 (by decide) (by rw [hup_i (by decide)]; exact e13)))
      · skip
        refine wq_iconst (n := 1) (q := 43) rfl rfl rfl ?_
        refine wq_goto (tgt := 47) rfl rfl ?_
        first
        | exact c39.elim
        | exact wq_zret rfl rfl (Nat.le_refl _) (Nat.le_refl _) (by omega) (srQ.y (xU_y c4 (by assumption)) f2 rfl)
        | (rw [xU_2 c4 c31]
           exact wq_zret rfl rfl (Nat.le_refl _) (Nat.le_refl _) (by omega) (srQ.e (by decide) f2 (by decide) (by rw [hup_i (by decide)]; exact e13)))
  · skip
    refine wq_iconst (n := 0) (q := 8) rfl rfl rfl ?_
    rw [okE_n e1 c4, xU_1 c4]
    exact wq_zret rfl rfl (Nat.le_refl _) (Nat.le_refl _) (by omega) (srQ.e (by decide) f64.rf (by decide) e13)

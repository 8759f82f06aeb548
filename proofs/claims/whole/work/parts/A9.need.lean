/-! LinkTimesModel: spent, without, needs, vital -/
theorem sm_hd {f : Int → Int} : ∀ {n : Nat}, sm f (n + 1) = f 0 + sm (fun i => f (i + 1)) n
  | 0 => by
    show 0 + f ((0 : Nat) : Int) = f 0 + 0
    simp
  | n + 1 => by
    show sm f (n + 1) + f ((n + 1 : Nat) : Int) = f 0 + (sm (fun i => f (i + 1)) n + f ((n : Int) + 1))
    rw [sm_hd (n := n)]
    have e : ((n + 1 : Nat) : Int) = (n : Int) + 1 := by omega
    rw [e]
    omega
theorem sm_rev : ∀ {n : Nat} {f : Int → Int}, sm (fun i => f ((n : Int) - 1 - i)) n = sm f n
  | 0, f => rfl
  | n + 1, f => by
    rw [sm_hd (f := f)]
    show sm (fun i => f (((n + 1 : Nat) : Int) - 1 - i)) n + f (((n + 1 : Nat) : Int) - 1 - (n : Int)) = _
    rw [← sm_rev (n := n) (f := fun i => f (i + 1))]
    have e : ((n + 1 : Nat) : Int) - 1 - (n : Int) = 0 := by omega
    rw [e]
    have : sm (fun i => f (((n + 1 : Nat) : Int) - 1 - i)) n = sm (fun i => f ((n : Int) - 1 - i + 1)) n := sm_congr (fun d d0 d1 => by
      have : ((n + 1 : Nat) : Int) - 1 - d = (n : Int) - 1 - d + 1 := by omega
      rw [this])
    rw [this]
    omega
set_option maxRecDepth 100000 in
set_option maxHeartbeats 1000000 in
theorem Mo_spentL (N : mN) (a b y z : Int) (h : mH) (r : mR) (h1 : mH) (hM : isM h1 N) (hG : goal N b h1) (e1 : h1 64 1 = 0) (f1 : f64 qF qK h h1) (hy : 0 ≤ y ∧ z ≤ 1999) (P : Int → Int → Prop) (K : ∀ v, Spe N a 9999 (h1 73) y z v → P v 0) : ∀ (M : Nat) (q s : Int) (g : mF) (x7 : Option mV), (z + 1 - q).toNat = M → y ≤ q → q ≤ z + 1 → s = sm (fun i => g (y + i) - (y + i)) (q - y).toNat → (∀ p, y ≤ p → p < q → Mi N a 9999 (h1 73) p (g p) ∧ 0 ≤ g p ∧ g p ≤ 1700) → WP (true, rm 7) m_Mo_spent (rt m_Mo_spent (rm 7) (rqQ h r P)) 57 [some (vR 64), some (vI a), some (vI b), some (vI y), some (vI z), some (vI s), some (vI q), x7] [] h1 r (0, 0) := by
  intro M
  induction M using Nat.strongRecOn with
  | ind M ih =>
    intro q s g x7 hN q0 q1 hsm hg
    have hV := hM.1
    have hn := hV.1
    have bd : -(2000 * ((q - y).toNat : Int)) ≤ sm (fun i => g (y + i) - (y + i)) (q - y).toNat ∧ sm (fun i => g (y + i) - (y + i)) (q - y).toNat ≤ 2000 * ((q - y).toNat : Int) := sm_b (by decide) (fun d d0 d1 => by
      have := (hg (y + d) (by omega) (by omega)).2
      omega)
    refine wq_iload (i := 6) (q := 59) rfl rfl rfl ?_
    refine wq_iload (i := 4) (q := 61) rfl rfl rfl ?_
    refine wq_icmp_gt (tgt := 103) (q := 64) rfl rfl rfl (fun c61 => ?_) (fun c61 => ?_)
    · skip
      refine wq_iload (i := 5) (q := 105) rfl rfl rfl ?_
      refine wq_iret rfl rfl (Nat.le_refl _) (Nat.le_refl _) ⟨_, rfl, rfl, ?_, by omega, f1⟩
      rw [e1]
      refine K _ (Or.inr ⟨g, fun p p0 p1 => (hg p p0 (by omega)).1, ?_⟩)
      have eq : q = z + 1 ∨ q = y := by omega
      have e3 : (q - y).toNat = (z - y + 1).toNat := by omega
      rw [hsm, e3]
      rw [← sm_rev (n := (z - y + 1).toNat) (f := fun i => g (y + i) - (y + i))]
      exact sm_congr (fun d d0 d1 => by
        have : y + (((z - y + 1).toNat : Int) - 1 - d) = z - d := by omega
        rw [this])
    · skip
      refine wq_aload_n (kk := 0) (q := 65) rfl rfl rfl ?_
      refine wq_iload_n (kk := 1) (q := 66) rfl rfl rfl ?_
      refine wq_iload (i := 6) (q := 68) rfl rfl rfl ?_
      refine wq_callV (q := 71) (m' := m_Mo_firstOf) (R' := rm 4) (As := [_, _]) rfl rfl l_Mo_301 vm_Mo_firstOf rfl rfl rfl (Or.inl ⟨rfl, Nat.le_of_ble_eq_true rfl⟩) (Nat.le_of_ble_eq_true rfl) (Nat.le_of_ble_eq_true rfl) (Nat.le_refl _) (Nat.le_refl _) (Nat.le_of_ble_eq_true rfl) (Mo_firstOf_ok N a q b h1 r hM hG) rfl ?_
      rintro rv h1 r ⟨f, rfl, rfl, rfl, hF⟩ -
      have hfd : f ≠ -1 → (Pa N 9999 (h1 73) a f ∧ q ≤ lv N f) ∧ (0 ≤ f ∧ f < nN N) ∧ (0 ≤ h1 73 f ∧ h1 73 f ≤ 1700) ∧ ∀ g, Pa N 9999 (h1 73) a g → q ≤ lv N g → h1 73 f ≤ h1 73 g := fun z => by
        rcases hF with ⟨w, -⟩ | ⟨-, w, w2⟩
        · exact absurd w z
        · have lb1 := (hG.2.1 f w.1 w.2.1).resolve_left w.2.2.2.2
          refine ⟨⟨⟨w.1, w.2.1, w.2.2.1, w.2.2.2.2⟩, w.2.2.2.1⟩, w.1, lb1.1, fun x hx hq => ?_⟩
          by_cases e : x = f
          · rw [e]; exact Int.le_refl _
          · have := w2 x trivial ⟨hx.1, hx.2.1, hx.2.2.1, hq, hx.2.2.2⟩ e
            unfold kf at this
            omega
      refine wq_istore (i := 7) (q := 73) rfl rfl (Nat.le_of_ble_eq_true rfl) rfl ?_
      refine wq_iload (i := 7) (q := 75) rfl rfl rfl ?_
      refine wq_iconst (n := -1) (q := 76) rfl rfl rfl ?_
      refine wq_icmp_ne (tgt := 82) (q := 79) rfl rfl rfl (fun c76 => ?_) (fun c76 => ?_)
      · skip
        refine wq_iload (i := 5) (q := 84) rfl rfl rfl ?_
        refine wq_aload_n (kk := 0) (q := 85) rfl rfl rfl ?_
        refine wq_getF (q := 88) f_Mo_39 rfl rfl (Nat.le_of_ble_eq_true rfl) rfl rfl rfl ?_
        refine wq_iload (i := 7) (q := 90) rfl rfl rfl ?_
        refine wq_iald (q := 91) rfl (Or.inl ⟨rfl, Nat.le_of_ble_eq_true rfl⟩) rfl rfl (by first | omega | (have := (hfd (by omega)).2.1; omega) | (have := (hfd (by omega)).2.2.1; omega)) (by first | omega | (have := (hfd (by omega)).2.1; omega) | (have := (hfd (by omega)).2.2.1; omega)) ?_
        refine wq_iload (i := 6) (q := 93) rfl rfl rfl ?_
        refine wq_isub (q := 94) rfl rfl (by first | omega | (have := (hfd (by omega)).2.1; omega) | (have := (hfd (by omega)).2.2.1; omega)) (by first | omega | (have := (hfd (by omega)).2.1; omega) | (have := (hfd (by omega)).2.2.1; omega)) ?_
        refine wq_iadd (q := 95) rfl rfl (by first | omega | (have := (hfd (by omega)).2.1; omega) | (have := (hfd (by omega)).2.2.1; omega)) (by first | omega | (have := (hfd (by omega)).2.1; omega) | (have := (hfd (by omega)).2.2.1; omega)) ?_
        refine wq_istore (i := 5) (q := 97) rfl rfl (Nat.le_of_ble_eq_true rfl) rfl ?_
        refine wq_iinc (i := 6) (n := 1) (q := 100) rfl rfl rfl (Nat.le_of_ble_eq_true rfl) rfl (by first | omega | (have := (hfd (by omega)).2.1; omega) | (have := (hfd (by omega)).2.2.1; omega)) (by first | omega | (have := (hfd (by omega)).2.1; omega) | (have := (hfd (by omega)).2.2.1; omega)) ?_
        refine wq_goto (tgt := 57) rfl rfl ?_
        have w := hfd c76
        have es : sm (fun i => g (y + i) - (y + i)) (q - y).toNat + (h1 73 f - q) = sm (fun i => (up g q (h1 73 f)) (y + i) - (y + i)) (q + 1 - y).toNat := by
          rw [show (q + 1 - y).toNat = ((q - y) + 1).toNat by omega, sm_s (by omega)]
          have e2 : sm (fun i => (up g q (h1 73 f)) (y + i) - (y + i)) (q - y).toNat = sm (fun i => g (y + i) - (y + i)) (q - y).toNat := sm_congr (fun d d0 d1 => by rw [up_n (by omega)])
          rw [e2, show y + (q - y) = q by omega, up_s]
        refine ih _ (by omega) (q + 1) _ (up g q (h1 73 f)) _ rfl (by omega) (by omega) (by rw [← es, hsm]) (fun p p0 p1 => ?_)
        by_cases e : p = q
        · subst e
          rw [up_s]
          exact ⟨⟨⟨f, w.1.1, w.1.2, rfl⟩, w.2.2.2⟩, w.2.2.1⟩
        · rw [up_n e]; exact hg p p0 (by omega)
      · skip
        refine wq_bipush (n := -2) (q := 81) rfl rfl rfl ?_
        refine wq_iret rfl rfl (Nat.le_refl _) (Nat.le_refl _) ⟨_, rfl, rfl, ?_, by omega, f1⟩
        rw [e1]
        refine K _ (Or.inl ⟨rfl, q, q0, by omega, fun d hd hq => ?_⟩)
        rcases hF with ⟨-, w⟩ | ⟨-, w, -⟩
        · exact w d trivial ⟨hd.1, hd.2.1, hd.2.2.1, hq, hd.2.2.2⟩
        · have := w.1.1; omega
set_option maxRecDepth 100000 in
set_option maxHeartbeats 1000000 in
theorem Mo_spentA (a b y z g : Int) (N : mN) (h : mH) (r : mR) (hI : mI h N) (hg : g = bI (isT y ∧ isT z ∧ y ≤ z)) : WP (true, rm 7) m_Mo_spent (rt m_Mo_spent (rm 7) (rqQ h r (Ans (kX (nS N) a b (bI (isT y ∧ isT z ∧ y ≤ z))) (Sq2 N a b y z)))) 35 [some (vR 64), some (vI a), some (vI b), some (vI y), some (vI z), none, none, none] [vI g, vI (bI (kU (nS N) a b)), vR 64] h r (0, 0) := by
  subst hg
  refine wq_callS (q := 38) (m' := m_Mo_unless_) (R' := rm 1) (As := [_, _]) rfl rfl l_Mo_304 sm_Mo_unless_ rfl (Nat.le_of_ble_eq_true rfl) (Nat.le_of_ble_eq_true rfl) (Nat.le_refl _) (Nat.le_refl _) (Nat.le_of_ble_eq_true rfl) (Mo_unless2_ok _ _ h r) rfl ?_
  rintro rv h r ⟨rfl, rfl, rfl⟩ -
  have ek : (if bI (kU (nS N) a b) = 0 then 1 else if bI (isT y ∧ isT z ∧ y ≤ z) = 0 then 2 else 0) = kX (nS N) a b (bI (isT y ∧ isT z ∧ y ≤ z)) := by
    unfold kX
    by_cases w : kU (nS N) a b
    · rw [bI_t w, if_neg (show ¬ (1 : Int) = 0 by decide), if_pos w]
    · rw [bI_f w, if_pos rfl, if_neg w]
  rw [ek]
  generalize hk : kX (nS N) a b (bI (isT y ∧ isT z ∧ y ≤ z)) = k
  refine wq_callV (q := 41) (m' := m_Mo_isRefused) (R' := rm 1) (As := [_]) rfl rfl l_Mo_228 vm_Mo_isRefused rfl rfl rfl (Or.inl ⟨rfl, Nat.le_of_ble_eq_true rfl⟩) (Nat.le_of_ble_eq_true rfl) (Nat.le_of_ble_eq_true rfl) (Nat.le_refl _) (Nat.le_refl _) (Nat.le_of_ble_eq_true rfl) (Mo_isRefused_ok k h r) rfl ?_
  rintro rv h1 r ⟨rfl, rfl, rfl⟩ -
  have f1 := x_ref_f (S := qF) (C := qK) (h := h) (k := k) (by decide) (by decide) (by decide) (by decide)
  have I1 := mI_f hI f1 (by decide) (by decide)
  refine wq_cif_eq (tgt := 46) (q := 44) rfl rfl rfl (fun c41 => ?_) (fun c41 => ?_)
  · skip
    have k0 : k = 0 := by simpa using c41
    subst k0
    have ht := bI_ne (kX_0 hk).2
    refine wq_aload_n (kk := 0) (q := 47) rfl rfl rfl ?_
    refine wq_iload_n (kk := 2) (q := 48) rfl rfl rfl ?_
    refine wq_callV (q := 51) (m' := m_Mo_laysGoal) (R' := rm 6) (As := [_]) rfl rfl l_Mo_298 vm_Mo_laysGoal rfl rfl rfl (Or.inl ⟨rfl, Nat.le_of_ble_eq_true rfl⟩) (Nat.le_of_ble_eq_true rfl) (Nat.le_of_ble_eq_true rfl) (Nat.le_refl _) (Nat.le_refl _) (Nat.le_of_ble_eq_true rfl) (Mo_laysGoal_ok N b _ r I1.1) rfl ?_
    rintro rv h2 r ⟨rfl, rfl, f2, hG⟩ -
    have hM2 := isM_f I1.1 f2.1 (by decide)
    have e1 : h2 64 1 = 0 := by rw [f2.2 1 (by decide)]; exact x_ref_1
    have f3 := f1.tr (lgq f2) (fun _ y => y) (fun _ y => y)
    refine wq_iconst (n := 0) (q := 52) rfl rfl rfl ?_
    refine wq_istore (i := 5) (q := 54) rfl rfl (Nat.le_of_ble_eq_true rfl) rfl ?_
    refine wq_iload_n (kk := 3) (q := 55) rfl rfl rfl ?_
    refine wq_istore (i := 6) (q := 57) rfl rfl (Nat.le_of_ble_eq_true rfl) rfl ?_
    exact Mo_spentL N a b y z h r h2 hM2 hG e1 f3 (by omega) _ (fun v hv => Or.inr ⟨rfl, rfl, _, _, _, _, _, hG.1, by decide, hv⟩) _ y 0 (fun _ => 0) none rfl (Int.le_refl _) (by omega) (by rw [show (y - y).toNat = 0 by omega]; rfl) (fun p p0 p1 => by omega)
  · skip
    refine wq_iconst (n := -1) (q := 45) rfl rfl rfl ?_
    exact wq_iret rfl rfl (Nat.le_refl _) (Nat.le_refl _) ⟨_, rfl, rfl, Or.inl ⟨c41, rfl, x_ref_1⟩, by rw [x_ref_1]; have := kX_r (n := nS N) (a := a) (b := b) (g := bI (isT y ∧ isT z ∧ y ≤ z)); omega, f1⟩
set_option maxRecDepth 100000 in
set_option maxHeartbeats 1000000 in
theorem Mo_spent_ok (a b y z : Int) (N : mN) (h : mH) (r : mR) (hI : mI h N) : Meets true (rm 7) m_Mo_spent [vR 64, vI a, vI b, vI y, vI z] h r (rqQ h r (Ans (kX (nS N) a b (bI (isT y ∧ isT z ∧ y ≤ z))) (Sq2 N a b y z))) := by
  refine ⟨ok_Mo_spent, Nat.le_of_ble_eq_true rfl, ?_⟩
  refine wq_aload_n (kk := 0) (q := 1) rfl rfl rfl ?_
  refine wq_aload_n (kk := 0) (q := 2) rfl rfl rfl ?_
  refine wq_iload_n (kk := 1) (q := 3) rfl rfl rfl ?_
  refine wq_iload_n (kk := 2) (q := 4) rfl rfl rfl ?_
  refine wq_callV (q := 7) (m' := m_Mo_areUnlike) (R' := rm 3) (As := [_, _]) rfl rfl l_Mo_351 vm_Mo_areUnlike rfl rfl rfl (Or.inl ⟨rfl, Nat.le_of_ble_eq_true rfl⟩) (Nat.le_of_ble_eq_true rfl) (Nat.le_of_ble_eq_true rfl) (Nat.le_refl _) (Nat.le_refl _) (Nat.le_of_ble_eq_true rfl) (Mo_areUnlike_ok a b N h r hI) rfl ?_
  rintro rv h r ⟨rfl, rfl, rfl⟩ -
  refine wq_iload_n (kk := 3) (q := 8) rfl rfl rfl ?_
  refine wq_iconst (n := 0) (q := 9) rfl rfl rfl ?_
  refine wq_sipush (n := 1999) (q := 12) rfl rfl rfl ?_
  refine wq_callS (q := 15) (m' := m_Mo_in) (R' := rm 1) (As := [_, _, _]) rfl rfl l_Mo_107 sm_Mo_in rfl (Nat.le_of_ble_eq_true rfl) (Nat.le_of_ble_eq_true rfl) (Nat.le_refl _) (Nat.le_refl _) (Nat.le_of_ble_eq_true rfl) (Mo_in_ok _ _ _ h r) rfl ?_
  rintro rv h r ⟨rfl, rfl, rfl⟩ -
  refine wq_cif_eq (tgt := 34) (q := 18) rfl rfl rfl (fun c15 => ?_) (fun c15 => ?_)
  · skip
    refine wq_iconst (n := 0) (q := 35) rfl rfl rfl ?_
    first
    | exact Mo_spentA a b y z 1 N h r hI (bI_t (by omega)).symm
    | exact Mo_spentA a b y z 0 N h r hI (bI_f (by omega)).symm
  · skip
    refine wq_iload (i := 4) (q := 20) rfl rfl rfl ?_
    refine wq_iload_n (kk := 3) (q := 21) rfl rfl rfl ?_
    refine wq_sipush (n := 1999) (q := 24) rfl rfl rfl ?_
    refine wq_callS (q := 27) (m' := m_Mo_in) (R' := rm 1) (As := [_, _, _]) rfl rfl l_Mo_107 sm_Mo_in rfl (Nat.le_of_ble_eq_true rfl) (Nat.le_of_ble_eq_true rfl) (Nat.le_refl _) (Nat.le_refl _) (Nat.le_of_ble_eq_true rfl) (Mo_in_ok _ _ _ h r) rfl ?_
    rintro rv h r ⟨rfl, rfl, rfl⟩ -
    refine wq_cif_eq (tgt := 34) (q := 30) rfl rfl rfl (fun c27 => ?_) (fun c27 => ?_)
    · skip
      refine wq_iconst (n := 0) (q := 35) rfl rfl rfl ?_
      first
      | exact Mo_spentA a b y z 1 N h r hI (bI_t (by omega)).symm
      | exact Mo_spentA a b y z 0 N h r hI (bI_f (by omega)).symm
    · skip
      refine wq_iconst (n := 1) (q := 31) rfl rfl rfl ?_
      refine wq_goto (tgt := 35) rfl rfl ?_
      first
      | exact Mo_spentA a b y z 1 N h r hI (bI_t (by omega)).symm
      | exact Mo_spentA a b y z 0 N h r hI (bI_f (by omega)).symm
theorem rT_run {R R' : mF} {N : mN} {d v : Int} (hR : rT R N) (hd : dp N d) (h1 : R' (25 + 8 * d + 6) = v) (h2 : ∀ x, x ≠ 25 + 8 * d + 6 → R' x = R x) (hS : nS N ≤ 10) : rT R' (nRun N d v) := by
  have d0 := hd.1
  obtain ⟨a1, a2, a3, a4⟩ := hR
  refine ⟨?_, ?_, fun x hx => ?_, fun s s0 s1 => ?_⟩
  · rw [h2 4 (by omega)]; exact a1
  · rw [h2 1 (by omega)]; exact a2
  · have z := a3 x hx
    have x0 := hx.1
    rw [h2 (25 + 8 * x + 3) (by omega), h2 (25 + 8 * x + 5) (by omega), h2 (25 + 8 * x + 4) (by omega), h2 (25 + 8 * x + 1) (by omega), h2 (25 + 8 * x + 2) (by omega), h2 (25 + 8 * x + 0) (by omega)]
    refine ⟨z.1, z.2.1, z.2.2.1, z.2.2.2.1, z.2.2.2.2.1, ?_⟩
    show _ = if x = d then v else rn N x
    by_cases e : x = d
    · rw [if_pos e, e]; exact h1
    · rw [if_neg e, h2 _ (by omega)]; exact z.2.2.2.2.2
  · have s1' : s < nS N := s1
    rw [h2 (5 + s) (by omega), h2 (15 + s) (by omega)]
    exact a4 s s0 s1
theorem isM_run {h : mH} {N : mN} {d v : Int} (hM : isM h N) (hd : dp N d) (hv : v = 0 ∨ v = 1) : isM (hup h 66 (25 + 8 * d + 6) v) (nRun N d v) := ⟨nRun_V hM.1 hv, rT_run hM.2 hd hup_s (fun x hx => hup_j hx) hM.1.2.1.2⟩
set_option maxRecDepth 100000 in
set_option maxHeartbeats 1000000 in
theorem Mo_without_ok (N : mN) (a b t d : Int) (h : mH) (r : mR) (hM : isM h N) (hd : dp N d) (hb : 0 ≤ b ∧ b < nS N) (ht : t < 1000000) : Meets true (rm 8) m_Mo_without [vR 64, vI a, vI b, vI t, vI d] h r (fun rv h1 r1 => r1 = r ∧ f64 [28] lgC h h1 ∧ rv = some (vI (bb (nRun N d 0) a t b))) := by
  have hn := hM.1.1
  have hd0 := hd.1
  have hd1 := hd.2
  have hM1 := isM_run (v := 0) hM hd (Or.inl rfl)
  refine ⟨ok_Mo_without, Nat.le_of_ble_eq_true rfl, ?_⟩
  refine wq_aload_n (kk := 0) (q := 1) rfl rfl rfl ?_
  refine wq_getF (q := 4) f_Mo_17 rfl rfl (Nat.le_of_ble_eq_true rfl) rfl rfl rfl ?_
  refine wq_iload (i := 4) (q := 6) rfl rfl rfl ?_
  refine wq_bipush (n := 6) (q := 8) rfl rfl rfl ?_
  refine wq_callS (q := 11) (m' := m_Mo_at) (R' := rm 1) (As := [_, _]) rfl rfl l_Mo_209 sm_Mo_at rfl (Nat.le_of_ble_eq_true rfl) (Nat.le_of_ble_eq_true rfl) (Nat.le_refl _) (Nat.le_refl _) (Nat.le_of_ble_eq_true rfl) (Mo_at_ok d 6 h r (by omega) (by omega)) rfl ?_
  rintro rv h r ⟨rfl, rfl, rfl⟩ -
  refine wq_iald (q := 12) rfl (Or.inl ⟨rfl, Nat.le_of_ble_eq_true rfl⟩) rfl rfl (by first | omega | (simp [hup]; omega)) (by first | omega | (simp [hup]; omega)) ?_
  refine wq_istore (i := 5) (q := 14) rfl rfl (Nat.le_of_ble_eq_true rfl) rfl ?_
  refine wq_aload_n (kk := 0) (q := 15) rfl rfl rfl ?_
  refine wq_getF (q := 18) f_Mo_17 rfl rfl (Nat.le_of_ble_eq_true rfl) rfl rfl rfl ?_
  refine wq_iload (i := 4) (q := 20) rfl rfl rfl ?_
  refine wq_bipush (n := 6) (q := 22) rfl rfl rfl ?_
  refine wq_callS (q := 25) (m' := m_Mo_at) (R' := rm 1) (As := [_, _]) rfl rfl l_Mo_209 sm_Mo_at rfl (Nat.le_of_ble_eq_true rfl) (Nat.le_of_ble_eq_true rfl) (Nat.le_refl _) (Nat.le_refl _) (Nat.le_of_ble_eq_true rfl) (Mo_at_ok d 6 h r (by omega) (by omega)) rfl ?_
  rintro rv h r ⟨rfl, rfl, rfl⟩ -
  refine wq_iconst (n := 0) (q := 26) rfl rfl rfl ?_
  refine wq_iast (q := 27) rfl (Or.inl ⟨rfl, Nat.le_of_ble_eq_true rfl⟩) rfl rfl (by first | omega | (simp [hup]; omega)) (by first | omega | (simp [hup]; omega)) ?_
  refine wq_aload_n (kk := 0) (q := 28) rfl rfl rfl ?_
  refine wq_iload_n (kk := 1) (q := 29) rfl rfl rfl ?_
  refine wq_iload_n (kk := 2) (q := 30) rfl rfl rfl ?_
  refine wq_iload_n (kk := 3) (q := 31) rfl rfl rfl ?_
  refine wq_callV (q := 34) (m' := m_Mo_best) (R' := rm 7) (As := [_, _, _]) rfl rfl l_Mo_311 vm_Mo_best rfl rfl rfl (Or.inl ⟨rfl, Nat.le_of_ble_eq_true rfl⟩) (Nat.le_of_ble_eq_true rfl) (Nat.le_of_ble_eq_true rfl) (Nat.le_refl _) (Nat.le_refl _) (Nat.le_of_ble_eq_true rfl) (Mo_best_ok (nRun N d 0) a b t _ r hM1 hb ht) rfl ?_
  rintro rv h2 r ⟨rfl, f2, rfl, -⟩ -
  refine wq_istore (i := 6) (q := 36) rfl rfl (Nat.le_of_ble_eq_true rfl) rfl ?_
  refine wq_aload_n (kk := 0) (q := 37) rfl rfl rfl ?_
  refine wq_getF (q := 40) f_Mo_17 rfl rfl (Nat.le_of_ble_eq_true rfl) rfl rfl rfl ?_
  refine wq_iload (i := 4) (q := 42) rfl rfl rfl ?_
  refine wq_bipush (n := 6) (q := 44) rfl rfl rfl ?_
  refine wq_callS (q := 47) (m' := m_Mo_at) (R' := rm 1) (As := [_, _]) rfl rfl l_Mo_209 sm_Mo_at rfl (Nat.le_of_ble_eq_true rfl) (Nat.le_of_ble_eq_true rfl) (Nat.le_refl _) (Nat.le_refl _) (Nat.le_of_ble_eq_true rfl) (Mo_at_ok d 6 h2 r (by omega) (by omega)) rfl ?_
  rintro rv h2 r ⟨rfl, rfl, rfl⟩ -
  refine wq_iload (i := 5) (q := 49) rfl rfl rfl ?_
  refine wq_iast (q := 50) rfl (Or.inl ⟨rfl, Nat.le_of_ble_eq_true rfl⟩) rfl rfl (by first | omega | (simp [hup]; omega)) (by first | omega | (simp [hup]; omega)) ?_
  refine wq_iload (i := 6) (q := 52) rfl rfl rfl ?_
  have e66 : ∀ x, h2 66 x = hup h 66 (25 + 8 * d + 6) 0 66 x := fun x => f2.1.at 66 x (by decide)
  refine wq_iret rfl rfl (Nat.le_refl _) (Nat.le_refl _) ⟨rfl, ⟨fun c hc => ?_, fun k hk => ?_⟩, rfl⟩
  · funext x
    by_cases e : c = 66
    · subst e
      by_cases ex : x = 25 + 8 * d + 6
      · subst ex; rw [hup_s]
      · rw [hup_j ex, e66, hup_j ex]
    · rw [hup_i e, f2.1.at c x hc, hup_i e]
  · rw [hup_i (by decide), f2.2 k hk, hup_i (by decide)]
theorem kD_b {n a b g m d : Int} : 0 ≤ kD n a b g m d ∧ kD n a b g m d ≤ 2 := by
  unfold kD
  split
  · exact kP_b
  · omega
set_option maxRecDepth 100000 in
set_option maxHeartbeats 1000000 in
theorem Mo_needsA (a b t d g : Int) (N : mN) (h : mH) (r : mR) (hI : mI h N) (hg : g = bI ((0 ≤ d ∧ d < nN N) ∧ (0 ≤ a ∧ a < nS N) ∧ 0 ≤ b ∧ b < nS N)) : WP (true, rm 9) m_Mo_needs (rt m_Mo_needs (rm 9) (rqQ h r (Ans (kD (nS N) a b (bI (isT t)) (nN N) d) (fun v tr => tr = 0 ∧ Nd N a b t d v)))) 39 [some (vR 64), some (vI a), some (vI b), some (vI t), some (vI d), none, none] [vI (bI (0 ≤ t ∧ t ≤ 1999)), vI g, vR 64] h r (0, 0) := by
  have hn := hI.1.1.1
  subst hg
  refine wq_callS (q := 42) (m' := m_Mo_unless_) (R' := rm 1) (As := [_, _]) rfl rfl l_Mo_304 sm_Mo_unless_ rfl (Nat.le_of_ble_eq_true rfl) (Nat.le_of_ble_eq_true rfl) (Nat.le_refl _) (Nat.le_refl _) (Nat.le_of_ble_eq_true rfl) (Mo_unless2_ok _ _ h r) rfl ?_
  rintro rv h r ⟨rfl, rfl, rfl⟩ -
  have ek : (if bI ((0 ≤ d ∧ d < nN N) ∧ (0 ≤ a ∧ a < nS N) ∧ 0 ≤ b ∧ b < nS N) = 0 then 1 else if bI (isT t) = 0 then 2 else 0) = kD (nS N) a b (bI (isT t)) (nN N) d := by
    unfold kD kP
    by_cases w1 : 0 ≤ d ∧ d < nN N
    · rw [if_pos w1]
      by_cases w2 : (0 ≤ a ∧ a < nS N) ∧ 0 ≤ b ∧ b < nS N
      · rw [bI_t ⟨w1, w2⟩, if_neg (show ¬ (1 : Int) = 0 by decide), if_pos w2]
      · rw [bI_f (fun z => w2 z.2), if_pos rfl, if_neg w2]
    · rw [bI_f (fun z => w1 z.1), if_pos rfl, if_neg w1]
  rw [ek]
  generalize hk : kD (nS N) a b (bI (isT t)) (nN N) d = k
  refine wq_callV (q := 45) (m' := m_Mo_isRefused) (R' := rm 1) (As := [_]) rfl rfl l_Mo_228 vm_Mo_isRefused rfl rfl rfl (Or.inl ⟨rfl, Nat.le_of_ble_eq_true rfl⟩) (Nat.le_of_ble_eq_true rfl) (Nat.le_of_ble_eq_true rfl) (Nat.le_refl _) (Nat.le_refl _) (Nat.le_of_ble_eq_true rfl) (Mo_isRefused_ok k h r) rfl ?_
  rintro rv h1 r ⟨rfl, rfl, rfl⟩ -
  have f1 := x_ref_f (S := qF) (C := qK) (h := h) (k := k) (by decide) (by decide) (by decide) (by decide)
  have I1 := mI_f hI f1 (by decide) (by decide)
  refine wq_cif_eq (tgt := 50) (q := 48) rfl rfl rfl (fun c45 => ?_) (fun c45 => ?_)
  · skip
    have k0 : k = 0 := by simpa using c45
    subst k0
    have hab := kD_0 hk
    have ht := bI_ne hab.2.2
    have hbb := bb_bd hI.1.1 (a := a) (b := b) (t := t) (by omega)
    refine wq_aload_n (kk := 0) (q := 51) rfl rfl rfl ?_
    refine wq_iload_n (kk := 1) (q := 52) rfl rfl rfl ?_
    refine wq_iload_n (kk := 2) (q := 53) rfl rfl rfl ?_
    refine wq_iload_n (kk := 3) (q := 54) rfl rfl rfl ?_
    refine wq_callV (q := 57) (m' := m_Mo_best) (R' := rm 7) (As := [_, _, _]) rfl rfl l_Mo_311 vm_Mo_best rfl rfl rfl (Or.inl ⟨rfl, Nat.le_of_ble_eq_true rfl⟩) (Nat.le_of_ble_eq_true rfl) (Nat.le_of_ble_eq_true rfl) (Nat.le_refl _) (Nat.le_refl _) (Nat.le_of_ble_eq_true rfl) (Mo_best_ok N a b t _ r I1.1 hab.2.1.2 (by omega)) rfl ?_
    rintro rv h2 r ⟨rfl, f2, rfl, -⟩ -
    have hM2 := isM_f I1.1 f2.1 (by decide)
    have e1 : h2 64 1 = 0 := by rw [f2.2 1 (by decide)]; exact x_ref_1
    have f3 := f1.tr (lgq f2) (fun _ y => y) (fun _ y => y)
    refine wq_istore (i := 5) (q := 59) rfl rfl (Nat.le_of_ble_eq_true rfl) rfl ?_
    refine wq_aload_n (kk := 0) (q := 60) rfl rfl rfl ?_
    refine wq_iload_n (kk := 1) (q := 61) rfl rfl rfl ?_
    refine wq_iload_n (kk := 2) (q := 62) rfl rfl rfl ?_
    refine wq_iload_n (kk := 3) (q := 63) rfl rfl rfl ?_
    refine wq_iload (i := 4) (q := 65) rfl rfl rfl ?_
    refine wq_callV (q := 68) (m' := m_Mo_without) (R' := rm 8) (As := [_, _, _, _]) rfl rfl l_Mo_372 vm_Mo_without rfl rfl rfl (Or.inl ⟨rfl, Nat.le_of_ble_eq_true rfl⟩) (Nat.le_of_ble_eq_true rfl) (Nat.le_of_ble_eq_true rfl) (Nat.le_refl _) (Nat.le_refl _) (Nat.le_of_ble_eq_true rfl) (Mo_without_ok N a b t d h2 r hM2 hab.1 hab.2.1.2 (by omega)) rfl ?_
    rintro rv h3 r ⟨rfl, g2, rfl⟩ -
    have e1' : h3 64 1 = 0 := by rw [g2.2 1 (by decide)]; exact e1
    have f4 := f3.tr (lgq g2) (fun _ y => y) (fun _ y => y)
    have hbb2 := bb_bd (nRun_V hI.1.1 (d := d) (v := 0) (Or.inl rfl)) (a := a) (b := b) (t := t) (by omega)
    refine wq_istore (i := 6) (q := 70) rfl rfl (Nat.le_of_ble_eq_true rfl) rfl ?_
    refine wq_iload (i := 5) (q := 72) rfl rfl rfl ?_
    refine wq_bipush (n := -2) (q := 74) rfl rfl rfl ?_
    refine wq_icmp_ne (tgt := 82) (q := 77) rfl rfl rfl (fun c74 => ?_) (fun c74 => ?_)
    · skip
      refine wq_iload (i := 6) (q := 84) rfl rfl rfl ?_
      refine wq_bipush (n := -2) (q := 86) rfl rfl rfl ?_
      refine wq_icmp_ne (tgt := 94) (q := 89) rfl rfl rfl (fun c86 => ?_) (fun c86 => ?_)
      · skip
        refine wq_iload (i := 6) (q := 96) rfl rfl rfl ?_
        refine wq_iload (i := 5) (q := 98) rfl rfl rfl ?_
        refine wq_isub (q := 99) rfl rfl (by first | omega | (simp [hup]; omega)) (by first | omega | (simp [hup]; omega)) ?_
        refine wq_iret rfl rfl (Nat.le_refl _) (Nat.le_refl _) ⟨_, rfl, rfl, Or.inr ⟨rfl, e1', ?_⟩, by omega, f4⟩
        unfold Nd
        first
        | rw [if_pos (by omega)]
        | rw [if_neg (by omega), if_pos (by omega)]
        | (rw [if_neg (by omega), if_neg (by omega)]; omega)
      · skip
        refine wq_bipush (n := -2) (q := 91) rfl rfl rfl ?_
        refine wq_goto (tgt := 99) rfl rfl ?_
        refine wq_iret rfl rfl (Nat.le_refl _) (Nat.le_refl _) ⟨_, rfl, rfl, Or.inr ⟨rfl, e1', ?_⟩, by omega, f4⟩
        unfold Nd
        first
        | rw [if_pos (by omega)]
        | rw [if_neg (by omega), if_pos (by omega)]
        | (rw [if_neg (by omega), if_neg (by omega)]; omega)
    · skip
      refine wq_bipush (n := -3) (q := 79) rfl rfl rfl ?_
      refine wq_goto (tgt := 99) rfl rfl ?_
      refine wq_iret rfl rfl (Nat.le_refl _) (Nat.le_refl _) ⟨_, rfl, rfl, Or.inr ⟨rfl, e1', ?_⟩, by omega, f4⟩
      unfold Nd
      first
      | rw [if_pos (by omega)]
      | rw [if_neg (by omega), if_pos (by omega)]
      | (rw [if_neg (by omega), if_neg (by omega)]; omega)
  · skip
    refine wq_iconst (n := -1) (q := 49) rfl rfl rfl ?_
    exact wq_iret rfl rfl (Nat.le_refl _) (Nat.le_refl _) ⟨_, rfl, rfl, Or.inl ⟨c45, rfl, x_ref_1⟩, by rw [x_ref_1]; have := kD_b (n := nS N) (a := a) (b := b) (g := bI (isT t)) (m := nN N) (d := d); omega, f1⟩
set_option maxRecDepth 100000 in
set_option maxHeartbeats 1000000 in
theorem Mo_needs_ok (a b t d : Int) (N : mN) (h : mH) (r : mR) (hI : mI h N) : Meets true (rm 9) m_Mo_needs [vR 64, vI a, vI b, vI t, vI d] h r (rqQ h r (Ans (kD (nS N) a b (bI (isT t)) (nN N) d) (fun v tr => tr = 0 ∧ Nd N a b t d v))) := by
  have e1 := hI.1.2.2.1
  have e4 := hI.1.2.1
  have hS := hI.1.1.2.1
  have hn := hI.1.1.1
  have hT := hI.2
  refine ⟨ok_Mo_needs, Nat.le_of_ble_eq_true rfl, ?_⟩
  refine wq_aload_n (kk := 0) (q := 1) rfl rfl rfl ?_
  refine wq_aload_n (kk := 0) (q := 2) rfl rfl rfl ?_
  refine wq_iload_n (kk := 1) (q := 3) rfl rfl rfl ?_
  refine wq_callV (q := 6) (m' := m_Mo_isSpot) (R' := rm 2) (As := [_]) rfl rfl l_Mo_263 vm_Mo_isSpot rfl rfl rfl (Or.inl ⟨rfl, Nat.le_of_ble_eq_true rfl⟩) (Nat.le_of_ble_eq_true rfl) (Nat.le_of_ble_eq_true rfl) (Nat.le_refl _) (Nat.le_refl _) (Nat.le_of_ble_eq_true rfl) (Mo_isSpot_ok a h r (by omega) (by omega) (by omega)) rfl ?_
  rintro rv h r ⟨rfl, rfl, rfl⟩ -
  refine wq_cif_eq (tgt := 30) (q := 9) rfl rfl rfl (fun c6 => ?_) (fun c6 => ?_)
  · skip
    refine wq_iconst (n := 0) (q := 31) rfl rfl rfl ?_
    refine wq_iload_n (kk := 3) (q := 32) rfl rfl rfl ?_
    refine wq_iconst (n := 0) (q := 33) rfl rfl rfl ?_
    refine wq_sipush (n := 1999) (q := 36) rfl rfl rfl ?_
    refine wq_callS (q := 39) (m' := m_Mo_in) (R' := rm 1) (As := [_, _, _]) rfl rfl l_Mo_107 sm_Mo_in rfl (Nat.le_of_ble_eq_true rfl) (Nat.le_of_ble_eq_true rfl) (Nat.le_refl _) (Nat.le_refl _) (Nat.le_of_ble_eq_true rfl) (Mo_in_ok _ _ _ h r) rfl ?_
    rintro rv h r ⟨rfl, rfl, rfl⟩ -
    first
    | exact Mo_needsA a b t d 1 N h r hI (bI_t (by omega)).symm
    | exact Mo_needsA a b t d 0 N h r hI (bI_f (by omega)).symm
  · skip
    refine wq_aload_n (kk := 0) (q := 10) rfl rfl rfl ?_
    refine wq_iload_n (kk := 2) (q := 11) rfl rfl rfl ?_
    refine wq_callV (q := 14) (m' := m_Mo_isSpot) (R' := rm 2) (As := [_]) rfl rfl l_Mo_263 vm_Mo_isSpot rfl rfl rfl (Or.inl ⟨rfl, Nat.le_of_ble_eq_true rfl⟩) (Nat.le_of_ble_eq_true rfl) (Nat.le_of_ble_eq_true rfl) (Nat.le_refl _) (Nat.le_refl _) (Nat.le_of_ble_eq_true rfl) (Mo_isSpot_ok b h r (by omega) (by omega) (by omega)) rfl ?_
    rintro rv h r ⟨rfl, rfl, rfl⟩ -
    refine wq_cif_eq (tgt := 30) (q := 17) rfl rfl rfl (fun c14 => ?_) (fun c14 => ?_)
    · skip
      refine wq_iconst (n := 0) (q := 31) rfl rfl rfl ?_
      refine wq_iload_n (kk := 3) (q := 32) rfl rfl rfl ?_
      refine wq_iconst (n := 0) (q := 33) rfl rfl rfl ?_
      refine wq_sipush (n := 1999) (q := 36) rfl rfl rfl ?_
      refine wq_callS (q := 39) (m' := m_Mo_in) (R' := rm 1) (As := [_, _, _]) rfl rfl l_Mo_107 sm_Mo_in rfl (Nat.le_of_ble_eq_true rfl) (Nat.le_of_ble_eq_true rfl) (Nat.le_refl _) (Nat.le_refl _) (Nat.le_of_ble_eq_true rfl) (Mo_in_ok _ _ _ h r) rfl ?_
      rintro rv h r ⟨rfl, rfl, rfl⟩ -
      first
      | exact Mo_needsA a b t d 1 N h r hI (bI_t (by omega)).symm
      | exact Mo_needsA a b t d 0 N h r hI (bI_f (by omega)).symm
    · skip
      refine wq_aload_n (kk := 0) (q := 18) rfl rfl rfl ?_
      refine wq_iload (i := 4) (q := 20) rfl rfl rfl ?_
      refine wq_callV (q := 23) (m' := m_Mo_isOne) (R' := rm 2) (As := [_]) rfl rfl l_Mo_269 vm_Mo_isOne rfl rfl rfl (Or.inl ⟨rfl, Nat.le_of_ble_eq_true rfl⟩) (Nat.le_of_ble_eq_true rfl) (Nat.le_of_ble_eq_true rfl) (Nat.le_refl _) (Nat.le_refl _) (Nat.le_of_ble_eq_true rfl) (Mo_isOne_ok d h r (by omega) (by omega) (by omega)) rfl ?_
      rintro rv h r ⟨rfl, rfl, rfl⟩ -
      refine wq_cif_eq (tgt := 30) (q := 26) rfl rfl rfl (fun c23 => ?_) (fun c23 => ?_)
      · skip
        refine wq_iconst (n := 0) (q := 31) rfl rfl rfl ?_
        refine wq_iload_n (kk := 3) (q := 32) rfl rfl rfl ?_
        refine wq_iconst (n := 0) (q := 33) rfl rfl rfl ?_
        refine wq_sipush (n := 1999) (q := 36) rfl rfl rfl ?_
        refine wq_callS (q := 39) (m' := m_Mo_in) (R' := rm 1) (As := [_, _, _]) rfl rfl l_Mo_107 sm_Mo_in rfl (Nat.le_of_ble_eq_true rfl) (Nat.le_of_ble_eq_true rfl) (Nat.le_refl _) (Nat.le_refl _) (Nat.le_of_ble_eq_true rfl) (Mo_in_ok _ _ _ h r) rfl ?_
        rintro rv h r ⟨rfl, rfl, rfl⟩ -
        first
        | exact Mo_needsA a b t d 1 N h r hI (bI_t (by omega)).symm
        | exact Mo_needsA a b t d 0 N h r hI (bI_f (by omega)).symm
      · skip
        refine wq_iconst (n := 1) (q := 27) rfl rfl rfl ?_
        refine wq_goto (tgt := 31) rfl rfl ?_
        refine wq_iload_n (kk := 3) (q := 32) rfl rfl rfl ?_
        refine wq_iconst (n := 0) (q := 33) rfl rfl rfl ?_
        refine wq_sipush (n := 1999) (q := 36) rfl rfl rfl ?_
        refine wq_callS (q := 39) (m' := m_Mo_in) (R' := rm 1) (As := [_, _, _]) rfl rfl l_Mo_107 sm_Mo_in rfl (Nat.le_of_ble_eq_true rfl) (Nat.le_of_ble_eq_true rfl) (Nat.le_refl _) (Nat.le_refl _) (Nat.le_of_ble_eq_true rfl) (Mo_in_ok _ _ _ h r) rfl ?_
        rintro rv h r ⟨rfl, rfl, rfl⟩ -
        first
        | exact Mo_needsA a b t d 1 N h r hI (bI_t (by omega)).symm
        | exact Mo_needsA a b t d 0 N h r hI (bI_f (by omega)).symm
set_option maxRecDepth 100000 in
set_option maxHeartbeats 1000000 in
theorem Mo_vitalL (N : mN) (a b t : Int) (h : mH) (r : mR) (hb : 0 ≤ b ∧ b < nS N) (ht : isT t) (hs : sn N a t b ≠ 1000000) (P : Int → Int → Prop) (K : P (vi N a b t) 0) : ∀ (M : Nat) (d : Int) (h1 : mH), (nN N - d).toNat = M → 0 ≤ d → d ≤ nN N → isM h1 N → h1 64 1 = 0 → f64 qF qK h h1 → WP (true, rm 9) m_Mo_vital (rt m_Mo_vital (rm 9) (rqQ h r P)) 41 [some (vR 64), some (vI a), some (vI b), some (vI t), some (vI (bb N a t b)), some (vI (cn (fun d => decide (sn (nRun N d 0) a t b ≠ sn N a t b)) d.toNat)), some (vI d)] [] h1 r (0, 0) := by
  intro M
  induction M using Nat.strongRecOn with
  | ind M ih =>
    intro d h1 hN d0 d1 hM e1 f1
    have hV := hM.1
    have hn := hV.1
    have e4 := hM.2.1
    have hc := cn_b (fun d => decide (sn (nRun N d 0) a t b ≠ sn N a t b)) d.toNat
    have hbb := bb_bd hV (a := a) (b := b) (t := t) (by omega)
    have hbb2 := bb_bd (nRun_V hV (d := d) (v := 0) (Or.inl rfl)) (a := a) (b := b) (t := t) (by omega)
    refine wq_iload (i := 6) (q := 43) rfl rfl rfl ?_
    refine wq_aload_n (kk := 0) (q := 44) rfl rfl rfl ?_
    refine wq_getF (q := 47) f_Mo_17 rfl rfl (Nat.le_of_ble_eq_true rfl) rfl rfl rfl ?_
    refine wq_iconst (n := 4) (q := 48) rfl rfl rfl ?_
    refine wq_iald (q := 49) rfl (Or.inl ⟨rfl, Nat.le_of_ble_eq_true rfl⟩) rfl rfl (by first | omega | (simp [hup]; omega)) (by first | omega | (simp [hup]; omega)) ?_
    refine wq_icmp_ge (tgt := 82) (q := 52) rfl rfl rfl (fun c49 => ?_) (fun c49 => ?_)
    · skip
      refine wq_iload (i := 5) (q := 84) rfl rfl rfl ?_
      have ed : d = nN N := by omega
      subst ed
      refine wq_iret rfl rfl (Nat.le_refl _) (Nat.le_refl _) ⟨_, rfl, rfl, ?_, by omega, f1⟩
      rw [e1]
      exact K
    · skip
      refine wq_iload (i := 5) (q := 54) rfl rfl rfl ?_
      refine wq_aload_n (kk := 0) (q := 55) rfl rfl rfl ?_
      refine wq_iload_n (kk := 1) (q := 56) rfl rfl rfl ?_
      refine wq_iload_n (kk := 2) (q := 57) rfl rfl rfl ?_
      refine wq_iload_n (kk := 3) (q := 58) rfl rfl rfl ?_
      refine wq_iload (i := 6) (q := 60) rfl rfl rfl ?_
      refine wq_callV (q := 63) (m' := m_Mo_without) (R' := rm 8) (As := [_, _, _, _]) rfl rfl l_Mo_372 vm_Mo_without rfl rfl rfl (Or.inl ⟨rfl, Nat.le_of_ble_eq_true rfl⟩) (Nat.le_of_ble_eq_true rfl) (Nat.le_of_ble_eq_true rfl) (Nat.le_refl _) (Nat.le_refl _) (Nat.le_of_ble_eq_true rfl) (Mo_without_ok N a b t d h1 r hM ⟨d0, by omega⟩ hb (by omega)) rfl ?_
      rintro rv h2 r ⟨rfl, f2, rfl⟩ -
      have hM2 := isM_f hM f2.1 (by decide)
      have e1' : h2 64 1 = 0 := by rw [f2.2 1 (by decide)]; exact e1
      have f3 := f1.tr (lgq f2) (fun _ y => y) (fun _ y => y)
      refine wq_iload (i := 4) (q := 65) rfl rfl rfl ?_
      refine wq_icmp_eq (tgt := 72) (q := 68) rfl rfl rfl (fun c65 => ?_) (fun c65 => ?_)
      · skip
        refine wq_iconst (n := 0) (q := 73) rfl rfl rfl ?_
        refine wq_iadd (q := 74) rfl rfl (by first | omega | (simp [hup]; omega)) (by first | omega | (simp [hup]; omega)) ?_
        refine wq_istore (i := 5) (q := 76) rfl rfl (Nat.le_of_ble_eq_true rfl) rfl ?_
        refine wq_iinc (i := 6) (n := 1) (q := 79) rfl rfl rfl (Nat.le_of_ble_eq_true rfl) rfl (by first | omega | (simp [hup]; omega)) (by first | omega | (simp [hup]; omega)) ?_
        refine wq_goto (tgt := 41) rfl rfl ?_
        have es : ∀ v : Int, v = (if decide (sn (nRun N d 0) a t b ≠ sn N a t b) = true then 1 else 0) → cn (fun d => decide (sn (nRun N d 0) a t b ≠ sn N a t b)) d.toNat + v = cn (fun d => decide (sn (nRun N d 0) a t b ≠ sn N a t b)) (d + 1).toNat := fun v hv => by rw [cn_s d0, hv]
        rw [es _ (by simp only [decide_eq_true_eq]; split <;> omega)]
        exact ih _ (by omega) (d + 1) h2 rfl (by omega) (by omega) hM2 e1' f3
      · skip
        refine wq_iconst (n := 1) (q := 69) rfl rfl rfl ?_
        refine wq_goto (tgt := 73) rfl rfl ?_
        refine wq_iadd (q := 74) rfl rfl (by first | omega | (simp [hup]; omega)) (by first | omega | (simp [hup]; omega)) ?_
        refine wq_istore (i := 5) (q := 76) rfl rfl (Nat.le_of_ble_eq_true rfl) rfl ?_
        refine wq_iinc (i := 6) (n := 1) (q := 79) rfl rfl rfl (Nat.le_of_ble_eq_true rfl) rfl (by first | omega | (simp [hup]; omega)) (by first | omega | (simp [hup]; omega)) ?_
        refine wq_goto (tgt := 41) rfl rfl ?_
        have es : ∀ v : Int, v = (if decide (sn (nRun N d 0) a t b ≠ sn N a t b) = true then 1 else 0) → cn (fun d => decide (sn (nRun N d 0) a t b ≠ sn N a t b)) d.toNat + v = cn (fun d => decide (sn (nRun N d 0) a t b ≠ sn N a t b)) (d + 1).toNat := fun v hv => by rw [cn_s d0, hv]
        rw [es _ (by simp only [decide_eq_true_eq]; split <;> omega)]
        exact ih _ (by omega) (d + 1) h2 rfl (by omega) (by omega) hM2 e1' f3
set_option maxRecDepth 100000 in
set_option maxHeartbeats 1000000 in
theorem Mo_vital_ok (a b t : Int) (N : mN) (h : mH) (r : mR) (hI : mI h N) : Meets true (rm 9) m_Mo_vital [vR 64, vI a, vI b, vI t] h r (rqQ h r (Ans (kP (nS N) a b (bI (isT t))) (fun v tr => tr = 0 ∧ Vi N a b t v))) := by
  have hV := hI.1.1
  have hn := hV.1
  refine ⟨ok_Mo_vital, Nat.le_of_ble_eq_true rfl, ?_⟩
  refine wq_aload_n (kk := 0) (q := 1) rfl rfl rfl ?_
  refine wq_aload_n (kk := 0) (q := 2) rfl rfl rfl ?_
  refine wq_iload_n (kk := 1) (q := 3) rfl rfl rfl ?_
  refine wq_iload_n (kk := 2) (q := 4) rfl rfl rfl ?_
  refine wq_iload_n (kk := 3) (q := 5) rfl rfl rfl ?_
  refine wq_callV (q := 8) (m' := m_Mo_wayWhy) (R' := rm 3) (As := [_, _, _]) rfl rfl l_Mo_307 vm_Mo_wayWhy rfl rfl rfl (Or.inl ⟨rfl, Nat.le_of_ble_eq_true rfl⟩) (Nat.le_of_ble_eq_true rfl) (Nat.le_of_ble_eq_true rfl) (Nat.le_refl _) (Nat.le_refl _) (Nat.le_of_ble_eq_true rfl) (Mo_wayWhy_ok a b t N h r hI) rfl ?_
  rintro rv h r ⟨rfl, rfl, rfl⟩ -
  generalize hk : kP (nS N) a b (bI (isT t)) = k
  refine wq_callV (q := 11) (m' := m_Mo_isRefused) (R' := rm 1) (As := [_]) rfl rfl l_Mo_228 vm_Mo_isRefused rfl rfl rfl (Or.inl ⟨rfl, Nat.le_of_ble_eq_true rfl⟩) (Nat.le_of_ble_eq_true rfl) (Nat.le_of_ble_eq_true rfl) (Nat.le_refl _) (Nat.le_refl _) (Nat.le_of_ble_eq_true rfl) (Mo_isRefused_ok k h r) rfl ?_
  rintro rv h1 r ⟨rfl, rfl, rfl⟩ -
  have f1 := x_ref_f (S := qF) (C := qK) (h := h) (k := k) (by decide) (by decide) (by decide) (by decide)
  have I1 := mI_f hI f1 (by decide) (by decide)
  refine wq_cif_eq (tgt := 16) (q := 14) rfl rfl rfl (fun c11 => ?_) (fun c11 => ?_)
  · skip
    have k0 : k = 0 := by simpa using c11
    subst k0
    have hab := kP_0 hk
    have ht := bI_ne hab.2
    have hbb := bb_bd hV (a := a) (b := b) (t := t) (by omega)
    refine wq_aload_n (kk := 0) (q := 17) rfl rfl rfl ?_
    refine wq_iload_n (kk := 1) (q := 18) rfl rfl rfl ?_
    refine wq_iload_n (kk := 2) (q := 19) rfl rfl rfl ?_
    refine wq_iload_n (kk := 3) (q := 20) rfl rfl rfl ?_
    refine wq_callV (q := 23) (m' := m_Mo_best) (R' := rm 7) (As := [_, _, _]) rfl rfl l_Mo_311 vm_Mo_best rfl rfl rfl (Or.inl ⟨rfl, Nat.le_of_ble_eq_true rfl⟩) (Nat.le_of_ble_eq_true rfl) (Nat.le_of_ble_eq_true rfl) (Nat.le_refl _) (Nat.le_refl _) (Nat.le_of_ble_eq_true rfl) (Mo_best_ok N a b t _ r I1.1 hab.1.2 (by omega)) rfl ?_
    rintro rv h2 r ⟨rfl, f2, rfl, -⟩ -
    have hM2 := isM_f I1.1 f2.1 (by decide)
    have e1 : h2 64 1 = 0 := by rw [f2.2 1 (by decide)]; exact x_ref_1
    have f3 := f1.tr (lgq f2) (fun _ y => y) (fun _ y => y)
    refine wq_istore (i := 4) (q := 25) rfl rfl (Nat.le_of_ble_eq_true rfl) rfl ?_
    refine wq_iload (i := 4) (q := 27) rfl rfl rfl ?_
    refine wq_bipush (n := -2) (q := 29) rfl rfl rfl ?_
    refine wq_icmp_ne (tgt := 35) (q := 32) rfl rfl rfl (fun c29 => ?_) (fun c29 => ?_)
    · skip
      refine wq_iconst (n := 0) (q := 36) rfl rfl rfl ?_
      refine wq_istore (i := 5) (q := 38) rfl rfl (Nat.le_of_ble_eq_true rfl) rfl ?_
      refine wq_iconst (n := 0) (q := 39) rfl rfl rfl ?_
      refine wq_istore (i := 6) (q := 41) rfl rfl (Nat.le_of_ble_eq_true rfl) rfl ?_
      have hs : sn N a t b ≠ 1000000 := by omega
      refine Mo_vitalL N a b t h r hab.1.2 ht hs _ (Or.inr ⟨rfl, rfl, ?_⟩) _ 0 h2 rfl (by omega) (by omega) hM2 e1 f3
      by_cases z : a = b
      · refine Or.inl ⟨z, ?_⟩
        subst z
        exact cn_z (fun d d0 d1 => by rw [sn_a, sn_a]; simp)
      · exact Or.inr (Or.inr ⟨z, hs, rfl⟩)
    · skip
      refine wq_bipush (n := -2) (q := 34) rfl rfl rfl ?_
      refine wq_iret rfl rfl (Nat.le_refl _) (Nat.le_refl _) ⟨_, rfl, rfl, Or.inr ⟨rfl, e1, Or.inr (Or.inl ⟨fun z => ?_, by omega, rfl⟩)⟩, by omega, f3⟩
      have hs : sn N a t b = 1000000 := by omega
      rw [← z, sn_a] at hs
      omega
  · skip
    refine wq_iconst (n := -1) (q := 15) rfl rfl rfl ?_
    exact wq_iret rfl rfl (Nat.le_refl _) (Nat.le_refl _) ⟨_, rfl, rfl, Or.inl ⟨c11, rfl, hup_s⟩, by rw [x_ref_1]; have := kP_b (n := nS N) (a := a) (b := b) (g := bI (isT t)); omega, f1⟩

def rbits (p : Int → Bool) : Nat → Int
  | 0 => 0
  | k + 1 => (Int32.ofInt (rbits p k) ||| Int32.ofInt (if p k then (Int32.ofInt 1 <<< (Int32.ofInt k &&& 31)).toInt else 0)).toInt
theorem rbits_i (p : Int → Bool) : ∀ k : Nat, ∃ y : Int32, rbits p k = y.toInt
  | 0 => ⟨0, rfl⟩
  | k + 1 => ⟨_, rfl⟩
theorem rbits_n {p : Int → Bool} {d : Int} (h0 : 0 ≤ d) (hp : p d = false) : rbits p (d + 1).toNat = rbits p d.toNat := by
  have e : (d + 1).toNat = d.toNat + 1 := by omega
  have e2 : (d.toNat : Int) = d := by omega
  rw [e]
  show (Int32.ofInt (rbits p d.toNat) ||| Int32.ofInt (if p (d.toNat : Int) then (Int32.ofInt 1 <<< (Int32.ofInt (d.toNat : Int) &&& 31)).toInt else 0)).toInt = _
  rw [e2, hp]
  obtain ⟨y, hy⟩ := rbits_i p d.toNat
  rw [hy]
  simp
theorem rbits_y {p : Int → Bool} {d : Int} (h0 : 0 ≤ d) (hp : p d = true) : rbits p (d + 1).toNat = (Int32.ofInt (rbits p d.toNat) ||| Int32.ofInt ((Int32.ofInt 1 <<< (Int32.ofInt d &&& 31)).toInt)).toInt := by
  have e : (d + 1).toNat = d.toNat + 1 := by omega
  have e2 : (d.toNat : Int) = d := by omega
  rw [e]
  show (Int32.ofInt (rbits p d.toNat) ||| Int32.ofInt (if p (d.toNat : Int) then (Int32.ofInt 1 <<< (Int32.ofInt (d.toNat : Int) &&& 31)).toInt else 0)).toInt = _
  rw [e2, hp]
  rfl
theorem rbits_congr {p q : Int → Bool} : ∀ {k : Nat}, (∀ d : Int, 0 ≤ d → d < k → p d = q d) → rbits p k = rbits q k
  | 0, _ => rfl
  | k + 1, h => by
    show (Int32.ofInt (rbits p k) ||| Int32.ofInt (if p (k : Int) then (Int32.ofInt 1 <<< (Int32.ofInt (k : Int) &&& 31)).toInt else 0)).toInt = (Int32.ofInt (rbits q k) ||| Int32.ofInt (if q (k : Int) then (Int32.ofInt 1 <<< (Int32.ofInt (k : Int) &&& 31)).toInt else 0)).toInt
    rw [rbits_congr (k := k) (fun d d0 d1 => h d d0 (by omega)), h k (by omega) (by omega)]
set_option maxRecDepth 100000 in
set_option maxHeartbeats 1000000 in
theorem Lt_reachL (a t y : Int) (h : mH) (r : mR) (h1 : mH) (r1 : mR) (q1 : qf h r h1 r1) (P : Int → Int → Prop) (K : P (rbits (fun s => decide (h1 49 s ≤ y)) (h 2 1).toNat) 0) : ∀ (M : Nat) (s : Int), (h 2 1 - s).toNat = M → 0 ≤ s → s ≤ h 2 1 → WP (true, rm 5) m_Lt_reach (rt m_Lt_reach (rm 5) (qP h r P)) 64 [some (vR 0), some (vI a), some (vI t), some (vI y), some (vI (rbits (fun s => decide (h1 49 s ≤ y)) s.toNat)), some (vI s)] [] h1 r1 (0, 0) := by
  intro M
  induction M using Nat.strongRecOn with
  | ind M ih =>
    intro s hM s0 s1
    have hcur := q1.cur
    have e2 := q1.at2 1
    have hS := q1.DV.2.1
    refine wq_iload (i := 5) (q := 66) rfl rfl rfl ?_
    refine wq_aload_n (kk := 0) (q := 67) rfl rfl rfl ?_
    refine wq_getR (q := 70) f_Lt_16 rfl rfl (Or.inl ⟨rfl, Nat.le_of_ble_eq_true rfl⟩) hcur rfl rfl ?_
    refine wq_getI (kz := 1) (q := 73) rfl f_Lt_126 rfl rfl (Or.inl ⟨rfl, Nat.le_of_ble_eq_true rfl⟩) rfl rfl ?_
    refine wq_icmp_ge (tgt := 105) (q := 76) rfl rfl rfl (fun c73 => ?_) (fun c73 => ?_)
    · skip
      refine wq_aload_n (kk := 0) (q := 106) rfl rfl rfl ?_
      refine wq_iload (i := 4) (q := 108) rfl rfl rfl ?_
      refine wq_callV (q := 111) (m' := m_Lt_answer) (R' := rm 1) (As := [_]) rfl rfl l_Lt_113 vm_Lt_answer rfl rfl rfl (Or.inl ⟨rfl, Nat.le_of_ble_eq_true rfl⟩) (Nat.le_of_ble_eq_true rfl) (Nat.le_of_ble_eq_true rfl) (Nat.le_refl _) (Nat.le_refl _) (Nat.le_of_ble_eq_true rfl) (Lt_answer_ok _ h1 r1) rfl ?_
      rintro rv h4 r1 ⟨rfl, rfl, rfl⟩ -
      have e : s = h 2 1 := by omega
      subst e
      exact wq_iret rfl rfl (Nat.le_refl _) (Nat.le_refl _) ⟨_, rfl, by rw [hup_s]; exact K, q1.put 0⟩
    · skip
      refine wq_aload_n (kk := 0) (q := 77) rfl rfl rfl ?_
      refine wq_getF (q := 80) f_Lt_58 rfl rfl (Nat.le_of_ble_eq_true rfl) rfl rfl rfl ?_
      refine wq_getF (q := 83) f_Lt_254 rfl rfl (Nat.le_of_ble_eq_true rfl) rfl rfl rfl ?_
      refine wq_iload (i := 5) (q := 85) rfl rfl rfl ?_
      refine wq_iald (q := 86) rfl (Or.inl ⟨rfl, Nat.le_of_ble_eq_true rfl⟩) rfl rfl (by first | omega | (simp [hup]; omega)) (by first | omega | (simp [hup]; omega)) ?_
      refine wq_iload_n (kk := 3) (q := 87) rfl rfl rfl ?_
      refine wq_icmp_gt (tgt := 99) (q := 90) rfl rfl rfl (fun c87 => ?_) (fun c87 => ?_)
      · skip
        refine wq_iinc (i := 5) (n := 1) (q := 102) rfl rfl rfl (Nat.le_of_ble_eq_true rfl) rfl (by first | omega | (simp [hup]; omega)) (by first | omega | (simp [hup]; omega)) ?_
        refine wq_goto (tgt := 64) rfl rfl ?_
        first
        | (rw [← rbits_y (p := fun s => decide (h1 49 s ≤ y)) s0 (by simp; omega)]
           exact ih _ (by omega) (s + 1) rfl (by omega) (by omega))
        | (rw [← rbits_n (p := fun s => decide (h1 49 s ≤ y)) s0 (by simp; omega)]
           exact ih _ (by omega) (s + 1) rfl (by omega) (by omega))
      · skip
        refine wq_iload (i := 4) (q := 92) rfl rfl rfl ?_
        refine wq_iconst (n := 1) (q := 93) rfl rfl rfl ?_
        refine wq_iload (i := 5) (q := 95) rfl rfl rfl ?_
        refine wq_ishl (q := 96) rfl rfl ?_
        refine wq_ior (q := 97) rfl rfl ?_
        refine wq_istore (i := 4) (q := 99) rfl rfl (Nat.le_of_ble_eq_true rfl) rfl ?_
        refine wq_iinc (i := 5) (n := 1) (q := 102) rfl rfl rfl (Nat.le_of_ble_eq_true rfl) rfl (by first | omega | (simp [hup]; omega)) (by first | omega | (simp [hup]; omega)) ?_
        refine wq_goto (tgt := 64) rfl rfl ?_
        first
        | (rw [← rbits_y (p := fun s => decide (h1 49 s ≤ y)) s0 (by simp; omega)]
           exact ih _ (by omega) (s + 1) rfl (by omega) (by omega))
        | (rw [← rbits_n (p := fun s => decide (h1 49 s ≤ y)) s0 (by simp; omega)]
           exact ih _ (by omega) (s + 1) rfl (by omega) (by omega))
set_option maxRecDepth 100000 in
set_option maxHeartbeats 1000000 in
theorem Lt_reachA (a t y g : Int) (h : mH) (r : mR) (hI : IQ h r) (hg : g = bI (isT t ∧ isT y)) : WP (true, rm 5) m_Lt_reach (rt m_Lt_reach (rm 5) (qP h r (Ans (kP (h 2 1) a a (bI (isT t ∧ isT y))) (fun v tr => tr = 0 ∧ v = rbits (fun s => decide (sn (dN h 0) a t s ≤ y)) (h 2 1).toNat)))) 23 [some (vR 0), some (vI a), some (vI t), some (vI y), none, none] [vI g, vI a, vI a, vR 0, vR 0] h r (0, 0) := by
  have hcur := hI.2.2.2.1
  have q0 := qf.rf hI
  have hV := dN_V hI.1 0
  have hS := hI.1.2.1
  subst hg
  refine wq_callV (q := 26) (m' := m_Lt_lookAtPair) (R' := rm 2) (As := [_, _, _]) rfl rfl l_Lt_236 vm_Lt_lookAtPair rfl rfl rfl (Or.inl ⟨rfl, Nat.le_of_ble_eq_true rfl⟩) (Nat.le_of_ble_eq_true rfl) (Nat.le_of_ble_eq_true rfl) (Nat.le_refl _) (Nat.le_refl _) (Nat.le_of_ble_eq_true rfl) (Lt_lookAtPair_ok a a _ h r hcur) rfl ?_
  rintro rv h r ⟨rfl, rfl, rfl⟩ -
  generalize hk : kP (h 2 1) a a (bI (isT t ∧ isT y)) = k
  refine wq_callV (q := 29) (m' := m_Lt_isRefused) (R' := rm 1) (As := [_]) rfl rfl l_Lt_240 vm_Lt_isRefused rfl rfl rfl (Or.inl ⟨rfl, Nat.le_of_ble_eq_true rfl⟩) (Nat.le_of_ble_eq_true rfl) (Nat.le_of_ble_eq_true rfl) (Nat.le_refl _) (Nat.le_refl _) (Nat.le_of_ble_eq_true rfl) (Lt_isRefused_ok k h r) rfl ?_
  rintro rv h1 r ⟨rfl, rfl, rfl⟩ -
  have q1 := q0.put k
  refine wq_cif_eq (tgt := 34) (q := 32) rfl rfl rfl (fun c29 => ?_) (fun c29 => ?_)
  · skip
    refine wq_aload_n (kk := 0) (q := 35) rfl rfl rfl ?_
    refine wq_getF (q := 38) f_Lt_44 rfl rfl (Nat.le_of_ble_eq_true rfl) rfl rfl rfl ?_
    refine wq_aload_n (kk := 0) (q := 39) rfl rfl rfl ?_
    refine wq_getR (q := 42) f_Lt_16 rfl rfl (Or.inl ⟨rfl, Nat.le_of_ble_eq_true rfl⟩) hcur rfl rfl ?_
    refine wq_callV (q := 45) (m' := m_Ne_load) (R' := rm 4) (As := [_]) rfl rfl l_Lt_184 vm_Ne_load rfl rfl rfl (Or.inl ⟨rfl, Nat.le_of_ble_eq_true rfl⟩) (Nat.le_of_ble_eq_true rfl) (Nat.le_of_ble_eq_true rfl) (Nat.le_refl _) (Nat.le_refl _) (Nat.le_of_ble_eq_true rfl) (Lt_load q1) rfl ?_
    rintro rv h2 r2 ⟨rfl, q2, w2⟩ -
    have k0 : k = 0 := by simpa using c29
    subst k0
    have hab := kP_0 hk
    refine wq_aload_n (kk := 0) (q := 46) rfl rfl rfl ?_
    refine wq_getF (q := 49) f_Lt_58 rfl rfl (Nat.le_of_ble_eq_true rfl) rfl rfl rfl ?_
    refine wq_aload_n (kk := 0) (q := 50) rfl rfl rfl ?_
    refine wq_getF (q := 53) f_Lt_44 rfl rfl (Nat.le_of_ble_eq_true rfl) rfl rfl rfl ?_
    refine wq_iload_n (kk := 1) (q := 54) rfl rfl rfl ?_
    refine wq_iload_n (kk := 2) (q := 55) rfl rfl rfl ?_
    refine wq_callV (q := 58) (m' := m_Fl_spread) (R' := rm 4) (As := [_, _, _]) rfl rfl l_Lt_250 vm_Fl_spread rfl rfl rfl (Or.inl ⟨rfl, Nat.le_of_ble_eq_true rfl⟩) (Nat.le_of_ble_eq_true rfl) (Nat.le_of_ble_eq_true rfl) (Nat.le_refl _) (Nat.le_refl _) (Nat.le_of_ble_eq_true rfl) (Fl_spread_ok 48 49 50 (Or.inl ⟨rfl, rfl, rfl⟩) (dN h 0) a t h2 r2 w2 hab.1.1) rfl ?_
    rintro rv h3 r2 ⟨rfl, rfl, f3, hs⟩ -
    have q3 := q2.scr f3 (by decide)
    refine wq_iconst (n := 0) (q := 59) rfl rfl rfl ?_
    refine wq_istore (i := 4) (q := 61) rfl rfl (Nat.le_of_ble_eq_true rfl) rfl ?_
    refine wq_iconst (n := 0) (q := 62) rfl rfl rfl ?_
    refine wq_istore (i := 5) (q := 64) rfl rfl (Nat.le_of_ble_eq_true rfl) rfl ?_
    refine Lt_reachL a t y h r h3 r2 q3 _ (Or.inr ⟨rfl, rfl, ?_⟩) _ 0 rfl (by omega) (by omega)
    exact rbits_congr (fun d d0 d1 => by rw [hs.sn hV d0 (by rw [dN_S]; omega)])
  · skip
    refine wq_iconst (n := -1) (q := 33) rfl rfl rfl ?_
    exact wq_iret rfl rfl (Nat.le_refl _) (Nat.le_refl _) ⟨_, rfl, Or.inl ⟨c29, rfl, hup_s⟩, q1⟩
set_option maxRecDepth 100000 in
set_option maxHeartbeats 1000000 in
theorem Lt_reach_ok (a t y : Int) (h : mH) (r : mR) (hI : IQ h r) : Meets true (rm 5) m_Lt_reach [vR 0, vI a, vI t, vI y] h r (qP h r (Ans (kP (h 2 1) a a (bI (isT t ∧ isT y))) (fun v tr => tr = 0 ∧ v = rbits (fun s => decide (sn (dN h 0) a t s ≤ y)) (h 2 1).toNat))) := by
  refine ⟨ok_Lt_reach, Nat.le_of_ble_eq_true rfl, ?_⟩
  refine wq_aload_n (kk := 0) (q := 1) rfl rfl rfl ?_
  refine wq_aload_n (kk := 0) (q := 2) rfl rfl rfl ?_
  refine wq_iload_n (kk := 1) (q := 3) rfl rfl rfl ?_
  refine wq_iload_n (kk := 1) (q := 4) rfl rfl rfl ?_
  refine wq_iload_n (kk := 2) (q := 5) rfl rfl rfl ?_
  refine wq_callS (q := 8) (m' := m_Lt_isTime) (R' := rm 1) (As := [_]) rfl rfl l_Lt_233 sm_Lt_isTime rfl (Nat.le_of_ble_eq_true rfl) (Nat.le_of_ble_eq_true rfl) (Nat.le_refl _) (Nat.le_refl _) (Nat.le_of_ble_eq_true rfl) (Lt_isTime_ok t h r) rfl ?_
  rintro rv h r ⟨rfl, rfl, rfl⟩ -
  refine wq_cif_eq (tgt := 22) (q := 11) rfl rfl rfl (fun c8 => ?_) (fun c8 => ?_)
  · skip
    refine wq_iconst (n := 0) (q := 23) rfl rfl rfl ?_
    first | exact Lt_reachA a t y 1 h r hI (bI_t (by omega)).symm | exact Lt_reachA a t y 0 h r hI (bI_f (by omega)).symm
  · skip
    refine wq_iload_n (kk := 3) (q := 12) rfl rfl rfl ?_
    refine wq_callS (q := 15) (m' := m_Lt_isTime) (R' := rm 1) (As := [_]) rfl rfl l_Lt_233 sm_Lt_isTime rfl (Nat.le_of_ble_eq_true rfl) (Nat.le_of_ble_eq_true rfl) (Nat.le_refl _) (Nat.le_refl _) (Nat.le_of_ble_eq_true rfl) (Lt_isTime_ok y h r) rfl ?_
    rintro rv h r ⟨rfl, rfl, rfl⟩ -
    refine wq_cif_eq (tgt := 22) (q := 18) rfl rfl rfl (fun c15 => ?_) (fun c15 => ?_)
    · skip
      refine wq_iconst (n := 0) (q := 23) rfl rfl rfl ?_
      first | exact Lt_reachA a t y 1 h r hI (bI_t (by omega)).symm | exact Lt_reachA a t y 0 h r hI (bI_f (by omega)).symm
    · skip
      refine wq_iconst (n := 1) (q := 19) rfl rfl rfl ?_
      refine wq_goto (tgt := 23) rfl rfl ?_
      first | exact Lt_reachA a t y 1 h r hI (bI_t (by omega)).symm | exact Lt_reachA a t y 0 h r hI (bI_f (by omega)).symm

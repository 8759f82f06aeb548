noncomputable def pin (N : mN) (t a b : Int) : Int := if a ≠ b ∧ sn N a t b < 1000000 then 1 else 0
theorem pin_b (N : mN) (t a b : Int) : 0 ≤ pin N t a b ∧ pin N t a b ≤ 1 := by unfold pin; split <;> omega
noncomputable def prs (N : mN) (t n a : Int) : Int := sm (fun x => sm (fun y => pin N t x y) n.toNat) a.toNat
theorem sm_pin (N : mN) (t a : Int) (k : Nat) : 0 ≤ sm (fun y => pin N t a y) k ∧ sm (fun y => pin N t a y) k ≤ k := by
  induction k with
  | zero => exact ⟨by show (0:Int) ≤ 0; omega, by show (0:Int) ≤ 0; omega⟩
  | succ k ih =>
    have := pin_b N t a k
    show 0 ≤ sm (fun y => pin N t a y) k + pin N t a k ∧ sm (fun y => pin N t a y) k + pin N t a k ≤ (k + 1 : Nat)
    omega
theorem prs_b (N : mN) (t n : Int) (hn : 0 ≤ n ∧ n ≤ 10) {a : Int} (a0 : 0 ≤ a) (a1 : a ≤ 10) : 0 ≤ prs N t n a ∧ prs N t n a ≤ 100 := by
  have := sm_b (f := fun x => sm (fun y => pin N t x y) n.toNat) (c := 10) (by omega) (k := a.toNat) (fun d d0 d1 => by have := sm_pin N t d n.toNat; omega)
  have h0 : ∀ k : Nat, 0 ≤ sm (fun x => sm (fun y => pin N t x y) n.toNat) k := by
    intro k
    induction k with
    | zero => exact Int.le_refl _
    | succ k ih =>
      have := sm_pin N t k n.toNat
      show 0 ≤ sm (fun x => sm (fun y => pin N t x y) n.toNat) k + sm (fun y => pin N t k y) n.toNat
      omega
  have := h0 a.toNat
  unfold prs
  omega
set_option maxRecDepth 100000 in
set_option maxHeartbeats 1000000 in
theorem Lt_pairB (t a : Int) (h : mH) (r : mR) (h1 : mH) (r1 : mR) (q1 : qf h r h1 r1) (ha : 0 ≤ a ∧ a < h 2 1) (he : ∀ s, 0 ≤ s → s < h 2 1 → h1 49 s = sn (dN h 0) a t s) (X : mX) (K : ∀ b, WP (true, rm 5) m_Lt_pairs X 99 [some (vR 0), some (vI t), some (vI (prs (dN h 0) t (h 2 1) (a + 1))), some (vI a), some (vI b)] [] h1 r1 (0, 0)) : ∀ (M : Nat) (b v : Int), (h 2 1 - b).toNat = M → 0 ≤ b → b ≤ h 2 1 → v = prs (dN h 0) t (h 2 1) a + sm (fun y => pin (dN h 0) t a y) b.toNat → WP (true, rm 5) m_Lt_pairs X 56 [some (vR 0), some (vI t), some (vI v), some (vI a), some (vI b)] [] h1 r1 (0, 0) := by
  intro M
  induction M using Nat.strongRecOn with
  | ind M ih =>
    intro b v hM b0 b1 hi
    have hcur := q1.cur
    have e2 := q1.at2 1
    have hS := q1.DV.2.1
    have hb := he b b0
    have p1 := prs_b (dN h 0) t (h 2 1) (by omega) (a := a) (by omega) (by omega)
    have p2 := sm_pin (dN h 0) t a b.toNat
    have p3 := sm_s (f := fun y => pin (dN h 0) t a y) b0
    have p4 := sm_s (f := fun x => sm (fun y => pin (dN h 0) t x y) (h 2 1).toNat) ha.1
    refine wq_iload (i := 4) (q := 58) rfl rfl rfl ?_
    refine wq_aload_n (kk := 0) (q := 59) rfl rfl rfl ?_
    refine wq_getR (q := 62) f_Lt_16 rfl rfl (Or.inl ⟨rfl, Nat.le_of_ble_eq_true rfl⟩) hcur rfl rfl ?_
    refine wq_getI (kz := 1) (q := 65) rfl f_Lt_126 rfl rfl (Or.inl ⟨rfl, Nat.le_of_ble_eq_true rfl⟩) rfl rfl ?_
    refine wq_icmp_ge (tgt := 99) (q := 68) rfl rfl rfl (fun c65 => ?_) (fun c65 => ?_)
    · skip
      have e : b = h 2 1 := by omega
      have e3 : v = prs (dN h 0) t (h 2 1) (a + 1) := by
        rw [hi, e]
        exact p4.symm
      rw [e3]
      exact K _
    · skip
      refine wq_iload_n (kk := 3) (q := 69) rfl rfl rfl ?_
      refine wq_iload (i := 4) (q := 71) rfl rfl rfl ?_
      refine wq_icmp_eq (tgt := 93) (q := 74) rfl rfl rfl (fun c71 => ?_) (fun c71 => ?_)
      · skip
        refine wq_iinc (i := 4) (n := 1) (q := 96) rfl rfl rfl (Nat.le_of_ble_eq_true rfl) rfl (by first | omega | (simp [hup]; omega)) (by first | omega | (simp [hup]; omega)) ?_
        refine wq_goto (tgt := 56) rfl rfl ?_
        have hb' := hb (by omega)
        refine ih _ (by omega) (b + 1) _ rfl (by omega) (by omega) ?_
        rw [p3, hi]
        first
        | (have z : pin (dN h 0) t a b = 1 := if_pos ⟨by omega, by omega⟩
           simp only [z]; omega)
        | (have z : pin (dN h 0) t a b = 0 := if_neg (by omega)
           simp only [z]; omega)
      · skip
        refine wq_aload_n (kk := 0) (q := 75) rfl rfl rfl ?_
        refine wq_getF (q := 78) f_Lt_58 rfl rfl (Nat.le_of_ble_eq_true rfl) rfl rfl rfl ?_
        refine wq_getF (q := 81) f_Lt_254 rfl rfl (Nat.le_of_ble_eq_true rfl) rfl rfl rfl ?_
        refine wq_iload (i := 4) (q := 83) rfl rfl rfl ?_
        refine wq_iald (q := 84) rfl (Or.inl ⟨rfl, Nat.le_of_ble_eq_true rfl⟩) rfl rfl (by first | omega | (simp [hup]; omega)) (by first | omega | (simp [hup]; omega)) ?_
        refine wq_ldcw (n := 1000000) (q := 87) k_Lt_257 rfl rfl rfl ?_
        refine wq_icmp_ge (tgt := 93) (q := 90) rfl rfl rfl (fun c87 => ?_) (fun c87 => ?_)
        · skip
          refine wq_iinc (i := 4) (n := 1) (q := 96) rfl rfl rfl (Nat.le_of_ble_eq_true rfl) rfl (by first | omega | (simp [hup]; omega)) (by first | omega | (simp [hup]; omega)) ?_
          refine wq_goto (tgt := 56) rfl rfl ?_
          have hb' := hb (by omega)
          refine ih _ (by omega) (b + 1) _ rfl (by omega) (by omega) ?_
          rw [p3, hi]
          first
          | (have z : pin (dN h 0) t a b = 1 := if_pos ⟨by omega, by omega⟩
             simp only [z]; omega)
          | (have z : pin (dN h 0) t a b = 0 := if_neg (by omega)
             simp only [z]; omega)
        · skip
          refine wq_iinc (i := 2) (n := 1) (q := 93) rfl rfl rfl (Nat.le_of_ble_eq_true rfl) rfl (by first | omega | (simp [hup]; omega)) (by first | omega | (simp [hup]; omega)) ?_
          refine wq_iinc (i := 4) (n := 1) (q := 96) rfl rfl rfl (Nat.le_of_ble_eq_true rfl) rfl (by first | omega | (simp [hup]; omega)) (by first | omega | (simp [hup]; omega)) ?_
          refine wq_goto (tgt := 56) rfl rfl ?_
          have hb' := hb (by omega)
          refine ih _ (by omega) (b + 1) _ rfl (by omega) (by omega) ?_
          rw [p3, hi]
          first
          | (have z : pin (dN h 0) t a b = 1 := if_pos ⟨by omega, by omega⟩
             simp only [z]; omega)
          | (have z : pin (dN h 0) t a b = 0 := if_neg (by omega)
             simp only [z]; omega)
set_option maxRecDepth 100000 in
set_option maxHeartbeats 1000000 in
theorem Lt_pairA (t : Int) (h : mH) (r : mR) (hV : NV (dN h 0)) (P : Int → Int → Prop) (K : P (prs (dN h 0) t (h 2 1) (h 2 1)) 0) : ∀ (M : Nat) (a : Int) (h1 : mH) (r1 : mR) (z : Option mV), (h 2 1 - a).toNat = M → 0 ≤ a → a ≤ h 2 1 → qf h r h1 r1 → netW h1 r1 (dN h 0) → WP (true, rm 5) m_Lt_pairs (rt m_Lt_pairs (rm 5) (qP h r P)) 29 [some (vR 0), some (vI t), some (vI (prs (dN h 0) t (h 2 1) a)), some (vI a), z] [] h1 r1 (0, 0) := by
  intro M
  induction M using Nat.strongRecOn with
  | ind M ih =>
    intro a h1 r1 z hM a0 a1 q1 w1
    have hcur := q1.cur
    have e2 := q1.at2 1
    have hS := q1.DV.2.1
    refine wq_iload_n (kk := 3) (q := 30) rfl rfl rfl ?_
    refine wq_aload_n (kk := 0) (q := 31) rfl rfl rfl ?_
    refine wq_getR (q := 34) f_Lt_16 rfl rfl (Or.inl ⟨rfl, Nat.le_of_ble_eq_true rfl⟩) hcur rfl rfl ?_
    refine wq_getI (kz := 1) (q := 37) rfl f_Lt_126 rfl rfl (Or.inl ⟨rfl, Nat.le_of_ble_eq_true rfl⟩) rfl rfl ?_
    refine wq_icmp_ge (tgt := 105) (q := 40) rfl rfl rfl (fun c37 => ?_) (fun c37 => ?_)
    · skip
      refine wq_aload_n (kk := 0) (q := 106) rfl rfl rfl ?_
      refine wq_iload_n (kk := 2) (q := 107) rfl rfl rfl ?_
      refine wq_callV (q := 110) (m' := m_Lt_answer) (R' := rm 1) (As := [_]) rfl rfl l_Lt_113 vm_Lt_answer rfl rfl rfl (Or.inl ⟨rfl, Nat.le_of_ble_eq_true rfl⟩) (Nat.le_of_ble_eq_true rfl) (Nat.le_of_ble_eq_true rfl) (Nat.le_refl _) (Nat.le_refl _) (Nat.le_of_ble_eq_true rfl) (Lt_answer_ok _ h1 r1) rfl ?_
      rintro rv h4 r1 ⟨rfl, rfl, rfl⟩ -
      refine wq_iret rfl rfl (Nat.le_refl _) (Nat.le_refl _) ⟨_, rfl, ?_, q1.put 0⟩
      have e : a = h 2 1 := by omega
      rw [hup_s, e]
      exact K
    · skip
      refine wq_aload_n (kk := 0) (q := 41) rfl rfl rfl ?_
      refine wq_getF (q := 44) f_Lt_58 rfl rfl (Nat.le_of_ble_eq_true rfl) rfl rfl rfl ?_
      refine wq_aload_n (kk := 0) (q := 45) rfl rfl rfl ?_
      refine wq_getF (q := 48) f_Lt_44 rfl rfl (Nat.le_of_ble_eq_true rfl) rfl rfl rfl ?_
      refine wq_iload_n (kk := 3) (q := 49) rfl rfl rfl ?_
      refine wq_iload_n (kk := 1) (q := 50) rfl rfl rfl ?_
      refine wq_callV (q := 53) (m' := m_Fl_spread) (R' := rm 4) (As := [_, _, _]) rfl rfl l_Lt_250 vm_Fl_spread rfl rfl rfl (Or.inl ⟨rfl, Nat.le_of_ble_eq_true rfl⟩) (Nat.le_of_ble_eq_true rfl) (Nat.le_of_ble_eq_true rfl) (Nat.le_refl _) (Nat.le_refl _) (Nat.le_of_ble_eq_true rfl) (Fl_spread_ok 48 49 50 (Or.inl ⟨rfl, rfl, rfl⟩) (dN h 0) a t h1 r1 w1 ⟨a0, by rw [dN_S]; omega⟩) rfl ?_
      rintro rv h3 r1 ⟨rfl, rfl, f3, hs⟩ -
      have q3 := q1.scr f3 (by decide)
      have w3 := w1.fr f3 (by decide)
      refine wq_iconst (n := 0) (q := 54) rfl rfl rfl ?_
      refine wq_istore (i := 4) (q := 56) rfl rfl (Nat.le_of_ble_eq_true rfl) rfl ?_
      refine Lt_pairB t a h r h3 r1 q3 (by omega) (fun s s0 s1 => hs.sn hV s0 s1) _ (fun b => ?_) _ 0 _ rfl (by omega) (by omega) (Int.add_zero _).symm
      refine wq_iinc (i := 3) (n := 1) (q := 102) rfl rfl rfl (Nat.le_of_ble_eq_true rfl) rfl (by first | omega | (simp [hup]; omega)) (by first | omega | (simp [hup]; omega)) ?_
      refine wq_goto (tgt := 29) rfl rfl ?_
      exact ih _ (by omega) (a + 1) _ _ _ rfl (by omega) (by omega) q3 w3
set_option maxRecDepth 100000 in
set_option maxHeartbeats 1000000 in
theorem Lt_pairs_ok (t : Int) (h : mH) (r : mR) (hI : IQ h r) : Meets true (rm 5) m_Lt_pairs [vR 0, vI t] h r (qP h r (Ans (kT (h 2 1) (bI (isT t))) (fun v tr => tr = 0 ∧ v = prs (dN h 0) t (h 2 1) (h 2 1)))) := by
  have hcur := hI.2.2.2.1
  have q0 := qf.rf hI
  have hV := dN_V hI.1 0
  have hS := hI.1.2.1
  refine ⟨ok_Lt_pairs, Nat.le_of_ble_eq_true rfl, ?_⟩
  refine wq_aload_n (kk := 0) (q := 1) rfl rfl rfl ?_
  refine wq_aload_n (kk := 0) (q := 2) rfl rfl rfl ?_
  refine wq_iload_n (kk := 1) (q := 3) rfl rfl rfl ?_
  refine wq_callV (q := 6) (m' := m_Lt_lookAtDesk) (R' := rm 2) (As := [_]) rfl rfl l_Lt_292 vm_Lt_lookAtDesk rfl rfl rfl (Or.inl ⟨rfl, Nat.le_of_ble_eq_true rfl⟩) (Nat.le_of_ble_eq_true rfl) (Nat.le_of_ble_eq_true rfl) (Nat.le_refl _) (Nat.le_refl _) (Nat.le_of_ble_eq_true rfl) (Lt_lookAtDesk_ok t h r hcur) rfl ?_
  rintro rv h r ⟨rfl, rfl, rfl⟩ -
  generalize hk : kT (h 2 1) (bI (isT t)) = k
  refine wq_callV (q := 9) (m' := m_Lt_isRefused) (R' := rm 1) (As := [_]) rfl rfl l_Lt_240 vm_Lt_isRefused rfl rfl rfl (Or.inl ⟨rfl, Nat.le_of_ble_eq_true rfl⟩) (Nat.le_of_ble_eq_true rfl) (Nat.le_of_ble_eq_true rfl) (Nat.le_refl _) (Nat.le_refl _) (Nat.le_of_ble_eq_true rfl) (Lt_isRefused_ok k h r) rfl ?_
  rintro rv h1 r ⟨rfl, rfl, rfl⟩ -
  have q1 := q0.put k
  refine wq_cif_eq (tgt := 14) (q := 12) rfl rfl rfl (fun c9 => ?_) (fun c9 => ?_)
  · skip
    refine wq_aload_n (kk := 0) (q := 15) rfl rfl rfl ?_
    refine wq_getF (q := 18) f_Lt_44 rfl rfl (Nat.le_of_ble_eq_true rfl) rfl rfl rfl ?_
    refine wq_aload_n (kk := 0) (q := 19) rfl rfl rfl ?_
    refine wq_getR (q := 22) f_Lt_16 rfl rfl (Or.inl ⟨rfl, Nat.le_of_ble_eq_true rfl⟩) hcur rfl rfl ?_
    refine wq_callV (q := 25) (m' := m_Ne_load) (R' := rm 4) (As := [_]) rfl rfl l_Lt_184 vm_Ne_load rfl rfl rfl (Or.inl ⟨rfl, Nat.le_of_ble_eq_true rfl⟩) (Nat.le_of_ble_eq_true rfl) (Nat.le_of_ble_eq_true rfl) (Nat.le_refl _) (Nat.le_refl _) (Nat.le_of_ble_eq_true rfl) (Lt_load q1) rfl ?_
    rintro rv h2 r2 ⟨rfl, q2, w2⟩ -
    have k0 : k = 0 := by simpa using c9
    subst k0
    have hab := kT_0 hk
    have ht := bI_ne hab.2
    refine wq_iconst (n := 0) (q := 26) rfl rfl rfl ?_
    refine wq_istore_n (kk := 2) (q := 27) rfl rfl (Nat.le_of_ble_eq_true rfl) rfl ?_
    refine wq_iconst (n := 0) (q := 28) rfl rfl rfl ?_
    refine wq_istore_n (kk := 3) (q := 29) rfl rfl (Nat.le_of_ble_eq_true rfl) rfl ?_
    exact Lt_pairA t h r hV _ (Or.inr ⟨rfl, rfl, rfl⟩) _ 0 _ _ _ rfl (by omega) (by omega) q2 w2
  · skip
    refine wq_iconst (n := -1) (q := 13) rfl rfl rfl ?_
    exact wq_iret rfl rfl (Nat.le_refl _) (Nat.le_refl _) ⟨_, rfl, Or.inl ⟨c9, rfl, hup_s⟩, q1⟩

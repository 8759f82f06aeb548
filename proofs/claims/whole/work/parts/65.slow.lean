set_option maxRecDepth 100000 in
set_option maxHeartbeats 1000000 in
theorem Lt_slowB (t a : Int) (h : mH) (r : mR) (h1 : mH) (r1 : mR) (q1 : qf h r h1 r1) (ht : isT t) (ha : 0 ≤ a ∧ a < h 2 1) (he : ∀ s, 0 ≤ s → s < h 2 1 → h1 49 s = sn (dN h 0) a t s) (X : mX) (K : ∀ v b, b = h 2 1 → Sl (dN h 0) t (h 2 1) (fun x y => x < a ∨ x = a ∧ y < h 2 1) v → WP (true, rm 5) m_Lt_slowest X 114 [some (vR 0), some (vI t), some (vI v), some (vI a), some (vI b)] [] h1 r1 (0, 0)) : ∀ (M : Nat) (b v : Int), (h 2 1 - b).toNat = M → 0 ≤ b → b ≤ h 2 1 → Sl (dN h 0) t (h 2 1) (fun x y => x < a ∨ x = a ∧ y < b) v → WP (true, rm 5) m_Lt_slowest X 57 [some (vR 0), some (vI t), some (vI v), some (vI a), some (vI b)] [] h1 r1 (0, 0) := by
  intro M
  induction M using Nat.strongRecOn with
  | ind M ih =>
    intro b v hM b0 b1 hi
    have hcur := q1.cur
    have e2 := q1.at2 1
    have hS := q1.DV.2.1
    have hV := dN_V q1.DV 0
    rw [q1.dN] at hV
    have hb := he b b0
    have hr := sn_r hV (a := a) (b := b) ht
    refine wq_iload (i := 4) (q := 59) rfl rfl rfl ?_
    refine wq_aload_n (kk := 0) (q := 60) rfl rfl rfl ?_
    refine wq_getR (q := 63) f_Lt_16 rfl rfl (Or.inl ⟨rfl, Nat.le_of_ble_eq_true rfl⟩) hcur rfl rfl ?_
    refine wq_getI (kz := 1) (q := 66) rfl f_Lt_126 rfl rfl (Or.inl ⟨rfl, Nat.le_of_ble_eq_true rfl⟩) rfl rfl ?_
    refine wq_icmp_ge (tgt := 114) (q := 69) rfl rfl rfl (fun c66 => ?_) (fun c66 => ?_)
    · skip
      have e : b = h 2 1 := by omega
      subst e
      exact K v _ rfl hi
    · skip
      refine wq_iload_n (kk := 3) (q := 70) rfl rfl rfl ?_
      refine wq_iload (i := 4) (q := 72) rfl rfl rfl ?_
      refine wq_icmp_eq (tgt := 108) (q := 75) rfl rfl rfl (fun c72 => ?_) (fun c72 => ?_)
      · skip
        refine wq_iinc (i := 4) (n := 1) (q := 111) rfl rfl rfl (Nat.le_of_ble_eq_true rfl) rfl (by first | omega | (have := hb (by omega); omega)) (by first | omega | (have := hb (by omega); omega)) ?_
        refine wq_goto (tgt := 57) rfl rfl ?_
        have hb' := hb (by omega)
        first
        | (have hne : a ≠ b := by omega
           have hl : sn (dN h 0) a t b < 1000000 := by omega
           rw [hb']
           exact ih _ (by omega) (b + 1) _ rfl (by omega) (by omega) (hi.add hV ht ha (by omega) hne hl (fun x y => by omega)))
        | (refine ih _ (by omega) (b + 1) _ rfl (by omega) (by omega) (hi.skip (fun x y z => by omega) (fun x y z => ?_))
           by_cases e : x = a ∧ y = b
           · obtain ⟨rfl, rfl⟩ := e
             first | exact Or.inr (Or.inl (by omega)) | exact Or.inr (Or.inr (Or.inl (by omega)))
           · exact Or.inl (by omega))
      · skip
        refine wq_aload_n (kk := 0) (q := 76) rfl rfl rfl ?_
        refine wq_getF (q := 79) f_Lt_58 rfl rfl (Nat.le_of_ble_eq_true rfl) rfl rfl rfl ?_
        refine wq_getF (q := 82) f_Lt_254 rfl rfl (Nat.le_of_ble_eq_true rfl) rfl rfl rfl ?_
        refine wq_iload (i := 4) (q := 84) rfl rfl rfl ?_
        refine wq_iald (q := 85) rfl (Or.inl ⟨rfl, Nat.le_of_ble_eq_true rfl⟩) rfl rfl (by first | omega | (have := hb (by omega); omega)) (by first | omega | (have := hb (by omega); omega)) ?_
        refine wq_ldcw (n := 1000000) (q := 88) k_Lt_257 rfl rfl rfl ?_
        refine wq_icmp_ge (tgt := 108) (q := 91) rfl rfl rfl (fun c88 => ?_) (fun c88 => ?_)
        · skip
          refine wq_iinc (i := 4) (n := 1) (q := 111) rfl rfl rfl (Nat.le_of_ble_eq_true rfl) rfl (by first | omega | (have := hb (by omega); omega)) (by first | omega | (have := hb (by omega); omega)) ?_
          refine wq_goto (tgt := 57) rfl rfl ?_
          have hb' := hb (by omega)
          first
          | (have hne : a ≠ b := by omega
             have hl : sn (dN h 0) a t b < 1000000 := by omega
             rw [hb']
             exact ih _ (by omega) (b + 1) _ rfl (by omega) (by omega) (hi.add hV ht ha (by omega) hne hl (fun x y => by omega)))
          | (refine ih _ (by omega) (b + 1) _ rfl (by omega) (by omega) (hi.skip (fun x y z => by omega) (fun x y z => ?_))
             by_cases e : x = a ∧ y = b
             · obtain ⟨rfl, rfl⟩ := e
               first | exact Or.inr (Or.inl (by omega)) | exact Or.inr (Or.inr (Or.inl (by omega)))
             · exact Or.inl (by omega))
        · skip
          refine wq_iload_n (kk := 2) (q := 92) rfl rfl rfl ?_
          refine wq_aload_n (kk := 0) (q := 93) rfl rfl rfl ?_
          refine wq_getF (q := 96) f_Lt_58 rfl rfl (Nat.le_of_ble_eq_true rfl) rfl rfl rfl ?_
          refine wq_getF (q := 99) f_Lt_254 rfl rfl (Nat.le_of_ble_eq_true rfl) rfl rfl rfl ?_
          refine wq_iload (i := 4) (q := 101) rfl rfl rfl ?_
          refine wq_iald (q := 102) rfl (Or.inl ⟨rfl, Nat.le_of_ble_eq_true rfl⟩) rfl rfl (by first | omega | (have := hb (by omega); omega)) (by first | omega | (have := hb (by omega); omega)) ?_
          refine wq_iload_n (kk := 1) (q := 103) rfl rfl rfl ?_
          refine wq_isub (q := 104) rfl rfl (by first | omega | (have := hb (by omega); omega)) (by first | omega | (have := hb (by omega); omega)) ?_
          refine wq_max (q := 107) k_Lt_258 k_math_max k_math_max_s k_math_i rfl rfl (Nat.le_of_ble_eq_true rfl) (Nat.le_of_ble_eq_true rfl) (Nat.le_refl _) (Nat.le_refl _) (Nat.le_of_ble_eq_true rfl) ?_
          refine wq_istore_n (kk := 2) (q := 108) rfl rfl (Nat.le_of_ble_eq_true rfl) rfl ?_
          refine wq_iinc (i := 4) (n := 1) (q := 111) rfl rfl rfl (Nat.le_of_ble_eq_true rfl) rfl (by first | omega | (have := hb (by omega); omega)) (by first | omega | (have := hb (by omega); omega)) ?_
          refine wq_goto (tgt := 57) rfl rfl ?_
          have hb' := hb (by omega)
          first
          | (have hne : a ≠ b := by omega
             have hl : sn (dN h 0) a t b < 1000000 := by omega
             rw [hb']
             exact ih _ (by omega) (b + 1) _ rfl (by omega) (by omega) (hi.add hV ht ha (by omega) hne hl (fun x y => by omega)))
          | (refine ih _ (by omega) (b + 1) _ rfl (by omega) (by omega) (hi.skip (fun x y z => by omega) (fun x y z => ?_))
             by_cases e : x = a ∧ y = b
             · obtain ⟨rfl, rfl⟩ := e
               first | exact Or.inr (Or.inl (by omega)) | exact Or.inr (Or.inr (Or.inl (by omega)))
             · exact Or.inl (by omega))
set_option maxRecDepth 100000 in
set_option maxHeartbeats 1000000 in
theorem Lt_slowA (t : Int) (h : mH) (r : mR) (hV : NV (dN h 0)) (ht : isT t) (P : Int → Int → Prop) (K : ∀ v, Sl (dN h 0) t (h 2 1) (fun _ _ => True) v → P v 0) : ∀ (M : Nat) (a v : Int) (h1 : mH) (r1 : mR) (z : Option mV), (h 2 1 - a).toNat = M → 0 ≤ a → a ≤ h 2 1 → qf h r h1 r1 → netW h1 r1 (dN h 0) → Sl (dN h 0) t (h 2 1) (fun x y => x < a) v → WP (true, rm 5) m_Lt_slowest (rt m_Lt_slowest (rm 5) (qP h r P)) 30 [some (vR 0), some (vI t), some (vI v), some (vI a), z] [] h1 r1 (0, 0) := by
  intro M
  induction M using Nat.strongRecOn with
  | ind M ih =>
    intro a v h1 r1 z hM a0 a1 q1 w1 hi
    have hcur := q1.cur
    have e2 := q1.at2 1
    have hS := q1.DV.2.1
    refine wq_iload_n (kk := 3) (q := 31) rfl rfl rfl ?_
    refine wq_aload_n (kk := 0) (q := 32) rfl rfl rfl ?_
    refine wq_getR (q := 35) f_Lt_16 rfl rfl (Or.inl ⟨rfl, Nat.le_of_ble_eq_true rfl⟩) hcur rfl rfl ?_
    refine wq_getI (kz := 1) (q := 38) rfl f_Lt_126 rfl rfl (Or.inl ⟨rfl, Nat.le_of_ble_eq_true rfl⟩) rfl rfl ?_
    refine wq_icmp_ge (tgt := 120) (q := 41) rfl rfl rfl (fun c38 => ?_) (fun c38 => ?_)
    · skip
      refine wq_aload_n (kk := 0) (q := 121) rfl rfl rfl ?_
      refine wq_iload_n (kk := 2) (q := 122) rfl rfl rfl ?_
      refine wq_callV (q := 125) (m' := m_Lt_answer) (R' := rm 1) (As := [_]) rfl rfl l_Lt_113 vm_Lt_answer rfl rfl rfl (Or.inl ⟨rfl, Nat.le_of_ble_eq_true rfl⟩) (Nat.le_of_ble_eq_true rfl) (Nat.le_of_ble_eq_true rfl) (Nat.le_refl _) (Nat.le_refl _) (Nat.le_of_ble_eq_true rfl) (Lt_answer_ok _ h1 r1) rfl ?_
      rintro rv h4 r1 ⟨rfl, rfl, rfl⟩ -
      refine wq_iret rfl rfl (Nat.le_refl _) (Nat.le_refl _) ⟨_, rfl, ?_, q1.put 0⟩
      rw [hup_s]
      refine K _ (hi.skip (fun _ _ _ => trivial) (fun x y _ => ?_))
      by_cases e : x < a
      · exact Or.inl e
      · exact Or.inr (Or.inr (Or.inr (by omega)))
    · skip
      refine wq_aload_n (kk := 0) (q := 42) rfl rfl rfl ?_
      refine wq_getF (q := 45) f_Lt_58 rfl rfl (Nat.le_of_ble_eq_true rfl) rfl rfl rfl ?_
      refine wq_aload_n (kk := 0) (q := 46) rfl rfl rfl ?_
      refine wq_getF (q := 49) f_Lt_44 rfl rfl (Nat.le_of_ble_eq_true rfl) rfl rfl rfl ?_
      refine wq_iload_n (kk := 3) (q := 50) rfl rfl rfl ?_
      refine wq_iload_n (kk := 1) (q := 51) rfl rfl rfl ?_
      refine wq_callV (q := 54) (m' := m_Fl_spread) (R' := rm 4) (As := [_, _, _]) rfl rfl l_Lt_250 vm_Fl_spread rfl rfl rfl (Or.inl ⟨rfl, Nat.le_of_ble_eq_true rfl⟩) (Nat.le_of_ble_eq_true rfl) (Nat.le_of_ble_eq_true rfl) (Nat.le_refl _) (Nat.le_refl _) (Nat.le_of_ble_eq_true rfl) (Fl_spread_ok 48 49 50 (Or.inl ⟨rfl, rfl, rfl⟩) (dN h 0) a t h1 r1 w1 ⟨a0, by rw [dN_S]; omega⟩) rfl ?_
      rintro rv h3 r1 ⟨rfl, rfl, f3, hs⟩ -
      have q3 := q1.scr f3 (by decide)
      have w3 := w1.fr f3 (by decide)
      refine wq_iconst (n := 0) (q := 55) rfl rfl rfl ?_
      refine wq_istore (i := 4) (q := 57) rfl rfl (Nat.le_of_ble_eq_true rfl) rfl ?_
      refine Lt_slowB t a h r h3 r1 q3 ht (by omega) (fun s s0 s1 => hs.sn hV s0 s1) _ (fun v b hb hv => ?_) _ 0 v rfl (by omega) (by omega) (hi.skip (fun x y z => Or.inl z) (fun x y z => by omega))
      refine wq_iinc (i := 3) (n := 1) (q := 117) rfl rfl rfl (Nat.le_of_ble_eq_true rfl) rfl (by first | omega | (simp [hup]; omega)) (by first | omega | (simp [hup]; omega)) ?_
      refine wq_goto (tgt := 30) rfl rfl ?_
      refine ih _ (by omega) (a + 1) _ _ _ _ rfl (by omega) (by omega) q3 w3 (hv.skip (fun x y z => by omega) (fun x y z => ?_))
      by_cases e : x < a
      · exact Or.inl (Or.inl e)
      · by_cases e3 : y < h 2 1
        · exact Or.inl (Or.inr ⟨by omega, e3⟩)
        · exact Or.inr (Or.inr (Or.inr (by omega)))
set_option maxRecDepth 100000 in
set_option maxHeartbeats 1000000 in
theorem Lt_slowest_ok (t : Int) (h : mH) (r : mR) (hI : IQ h r) : Meets true (rm 5) m_Lt_slowest [vR 0, vI t] h r (qP h r (Ans (kT (h 2 1) (bI (isT t))) (fun v tr => tr = 0 ∧ Sl (dN h 0) t (h 2 1) (fun _ _ => True) v))) := by
  have hcur := hI.2.2.2.1
  have q0 := qf.rf hI
  have hV := dN_V hI.1 0
  have hS := hI.1.2.1
  refine ⟨ok_Lt_slowest, Nat.le_of_ble_eq_true rfl, ?_⟩
  refine wq_aload_n (kk := 0) (q := 1) rfl rfl rfl ?_
  refine wq_aload_n (kk := 0) (q := 2) rfl rfl rfl ?_
  refine wq_iload_n (kk := 1) (q := 3) rfl rfl rfl ?_
  refine wq_callV (q := 6) (m' := m_Lt_lookAtDesk) (R' := rm 2) (As := [_]) rfl rfl l_Lt_292 vm_Lt_lookAtDesk rfl rfl rfl (Or.inl ⟨rfl, Nat.le_of_ble_eq_true rfl⟩) (Nat.le_of_ble_eq_true rfl) (Nat.le_of_ble_eq_true rfl) (Nat.le_refl _) (Nat.le_refl _) (Nat.le_of_ble_eq_true rfl) (Lt_lookAtDesk_ok t h r hcur) rfl ?_
  rintro rv h r ⟨rfl, rfl, rfl⟩ -
  generalize hk : kT (h 2 1) (bI (isT t)) = k
  refine wq_callV (q := 9) (m' := m_Lt_isRefused) (R' := rm 1) (As := [_]) rfl rfl l_Lt_240 vm_Lt_isRefused rfl rfl rfl (Or.inl ⟨rfl, Nat.le_of_ble_eq_true rfl⟩) (Nat.le_of_ble_eq_true rfl) (Nat.le_of_ble_eq_true rfl) (Nat.le_refl _) (Nat.le_refl _) (Nat.le_of_ble_eq_true rfl) (Lt_isRefused_ok k h r) rfl ?_
  rintro rv h1 r ⟨rfl, rfl, rfl⟩ -
  have q1 := q0.put k
  refine wq_cif_eq (tgt := 14) (q := 12) rfl rfl rfl (fun c9 => ?_) (fun c9 => ?_)
  · skip
    refine wq_aload_n (kk := 0) (q := 15) rfl rfl rfl ?_
    refine wq_getF (q := 18) f_Lt_44 rfl rfl (Nat.le_of_ble_eq_true rfl) rfl rfl rfl ?_
    refine wq_aload_n (kk := 0) (q := 19) rfl rfl rfl ?_
    refine wq_getR (q := 22) f_Lt_16 rfl rfl (Or.inl ⟨rfl, Nat.le_of_ble_eq_true rfl⟩) hcur rfl rfl ?_
    refine wq_callV (q := 25) (m' := m_Ne_load) (R' := rm 4) (As := [_]) rfl rfl l_Lt_184 vm_Ne_load rfl rfl rfl (Or.inl ⟨rfl, Nat.le_of_ble_eq_true rfl⟩) (Nat.le_of_ble_eq_true rfl) (Nat.le_of_ble_eq_true rfl) (Nat.le_refl _) (Nat.le_refl _) (Nat.le_of_ble_eq_true rfl) (Lt_load q1) rfl ?_
    rintro rv h2 r2 ⟨rfl, q2, w2⟩ -
    have k0 : k = 0 := by simpa using c9
    subst k0
    have hab := kT_0 hk
    have ht := bI_ne hab.2
    refine wq_bipush (n := -2) (q := 27) rfl rfl rfl ?_
    refine wq_istore_n (kk := 2) (q := 28) rfl rfl (Nat.le_of_ble_eq_true rfl) rfl ?_
    refine wq_iconst (n := 0) (q := 29) rfl rfl rfl ?_
    refine wq_istore_n (kk := 3) (q := 30) rfl rfl (Nat.le_of_ble_eq_true rfl) rfl ?_
    exact Lt_slowA t h r hV ht _ (fun v hv => Or.inr ⟨rfl, rfl, hv⟩) _ 0 (-2) _ _ _ rfl (by omega) (by omega) q2 w2 ⟨Or.inl rfl, by omega, fun x y z x0 => by omega⟩
  · skip
    refine wq_iconst (n := -1) (q := 13) rfl rfl rfl ?_
    exact wq_iret rfl rfl (Nat.le_refl _) (Nat.le_refl _) ⟨_, rfl, Or.inl ⟨c9, rfl, hup_s⟩, q1⟩

set_option maxRecDepth 100000 in
set_option maxHeartbeats 2000000 in
theorem Se_isBetterFirst_ok (N : mN) (d g : Int) (h : mH) (r : mR) (hN : isN h N) (hV : NV N) (hd : dp N d) (hg : dp N g) : Meets true (rm 1) m_Se_isBetterFirst [vR 40, vR 31, vI d, vI g] h r (pI (bI (kf N (h 44) (h 45) (h 46) d g)) h r) := by
  have e1 := (hN.2.2.1 d hd).1
  have e2 := (hN.2.2.1 g hg).1
  have hn := hV.1
  obtain ⟨d0, d1⟩ := hd
  obtain ⟨g0, g1⟩ := hg
  refine ⟨ok_Se_isBetterFirst, Nat.le_of_ble_eq_true rfl, ?_⟩
  refine wq_aload_n (kk := 0) (q := 1) rfl rfl rfl ?_
  refine wq_getF (q := 4) f_Se_22 rfl rfl (Nat.le_of_ble_eq_true rfl) rfl rfl rfl ?_
  refine wq_iload_n (kk := 2) (q := 5) rfl rfl rfl ?_
  refine wq_iald (q := 6) rfl (Or.inl ⟨rfl, Nat.le_of_ble_eq_true rfl⟩) rfl rfl (by first | omega | (simp [hup]; omega)) (by first | omega | (simp [hup]; omega)) ?_
  refine wq_aload_n (kk := 0) (q := 7) rfl rfl rfl ?_
  refine wq_getF (q := 10) f_Se_22 rfl rfl (Nat.le_of_ble_eq_true rfl) rfl rfl rfl ?_
  refine wq_iload_n (kk := 3) (q := 11) rfl rfl rfl ?_
  refine wq_iald (q := 12) rfl (Or.inl ⟨rfl, Nat.le_of_ble_eq_true rfl⟩) rfl rfl (by first | omega | (simp [hup]; omega)) (by first | omega | (simp [hup]; omega)) ?_
  refine wq_icmp_eq (tgt := 36) (q := 15) rfl rfl rfl (fun c12 => ?_) (fun c12 => ?_)
  · skip
    refine wq_aload_n (kk := 0) (q := 37) rfl rfl rfl ?_
    refine wq_getF (q := 40) f_Se_25 rfl rfl (Nat.le_of_ble_eq_true rfl) rfl rfl rfl ?_
    refine wq_iload_n (kk := 2) (q := 41) rfl rfl rfl ?_
    refine wq_iald (q := 42) rfl (Or.inl ⟨rfl, Nat.le_of_ble_eq_true rfl⟩) rfl rfl (by first | omega | (simp [hup]; omega)) (by first | omega | (simp [hup]; omega)) ?_
    refine wq_aload_n (kk := 0) (q := 43) rfl rfl rfl ?_
    refine wq_getF (q := 46) f_Se_25 rfl rfl (Nat.le_of_ble_eq_true rfl) rfl rfl rfl ?_
    refine wq_iload_n (kk := 3) (q := 47) rfl rfl rfl ?_
    refine wq_iald (q := 48) rfl (Or.inl ⟨rfl, Nat.le_of_ble_eq_true rfl⟩) rfl rfl (by first | omega | (simp [hup]; omega)) (by first | omega | (simp [hup]; omega)) ?_
    refine wq_icmp_eq (tgt := 72) (q := 51) rfl rfl rfl (fun c48 => ?_) (fun c48 => ?_)
    · skip
      refine wq_aload_n (kk := 1) (q := 73) rfl rfl rfl ?_
      refine wq_getF (q := 76) f_Se_115 rfl rfl (Nat.le_of_ble_eq_true rfl) rfl rfl rfl ?_
      refine wq_iload_n (kk := 2) (q := 77) rfl rfl rfl ?_
      refine wq_iald (q := 78) rfl (Or.inl ⟨rfl, Nat.le_of_ble_eq_true rfl⟩) rfl rfl (by first | omega | (simp [hup]; omega)) (by first | omega | (simp [hup]; omega)) ?_
      refine wq_aload_n (kk := 1) (q := 79) rfl rfl rfl ?_
      refine wq_getF (q := 82) f_Se_115 rfl rfl (Nat.le_of_ble_eq_true rfl) rfl rfl rfl ?_
      refine wq_iload_n (kk := 3) (q := 83) rfl rfl rfl ?_
      refine wq_iald (q := 84) rfl (Or.inl ⟨rfl, Nat.le_of_ble_eq_true rfl⟩) rfl rfl (by first | omega | (simp [hup]; omega)) (by first | omega | (simp [hup]; omega)) ?_
      refine wq_icmp_eq (tgt := 108) (q := 87) rfl rfl rfl (fun c84 => ?_) (fun c84 => ?_)
      · skip
        refine wq_aload_n (kk := 0) (q := 109) rfl rfl rfl ?_
        refine wq_getF (q := 112) f_Se_28 rfl rfl (Nat.le_of_ble_eq_true rfl) rfl rfl rfl ?_
        refine wq_iload_n (kk := 2) (q := 113) rfl rfl rfl ?_
        refine wq_iald (q := 114) rfl (Or.inl ⟨rfl, Nat.le_of_ble_eq_true rfl⟩) rfl rfl (by first | omega | (simp [hup]; omega)) (by first | omega | (simp [hup]; omega)) ?_
        refine wq_aload_n (kk := 0) (q := 115) rfl rfl rfl ?_
        refine wq_getF (q := 118) f_Se_28 rfl rfl (Nat.le_of_ble_eq_true rfl) rfl rfl rfl ?_
        refine wq_iload_n (kk := 3) (q := 119) rfl rfl rfl ?_
        refine wq_iald (q := 120) rfl (Or.inl ⟨rfl, Nat.le_of_ble_eq_true rfl⟩) rfl rfl (by first | omega | (simp [hup]; omega)) (by first | omega | (simp [hup]; omega)) ?_
        refine wq_icmp_eq (tgt := 144) (q := 123) rfl rfl rfl (fun c120 => ?_) (fun c120 => ?_)
        · skip
          refine wq_iload_n (kk := 2) (q := 145) rfl rfl rfl ?_
          refine wq_iload_n (kk := 3) (q := 146) rfl rfl rfl ?_
          refine wq_icmp_ge (tgt := 153) (q := 149) rfl rfl rfl (fun c146 => ?_) (fun c146 => ?_)
          · skip
            refine wq_iconst (n := 0) (q := 154) rfl rfl rfl ?_
            refine wq_zret rfl rfl (Nat.le_refl _) (Nat.le_refl _) (by omega) ?_
            first | exact pC_t (by unfold kf; omega) | exact pC_f (by unfold kf; omega)
          · skip
            refine wq_iconst (n := 1) (q := 150) rfl rfl rfl ?_
            refine wq_goto (tgt := 154) rfl rfl ?_
            refine wq_zret rfl rfl (Nat.le_refl _) (Nat.le_refl _) (by omega) ?_
            first | exact pC_t (by unfold kf; omega) | exact pC_f (by unfold kf; omega)
        · skip
          refine wq_aload_n (kk := 0) (q := 124) rfl rfl rfl ?_
          refine wq_getF (q := 127) f_Se_28 rfl rfl (Nat.le_of_ble_eq_true rfl) rfl rfl rfl ?_
          refine wq_iload_n (kk := 2) (q := 128) rfl rfl rfl ?_
          refine wq_iald (q := 129) rfl (Or.inl ⟨rfl, Nat.le_of_ble_eq_true rfl⟩) rfl rfl (by first | omega | (simp [hup]; omega)) (by first | omega | (simp [hup]; omega)) ?_
          refine wq_aload_n (kk := 0) (q := 130) rfl rfl rfl ?_
          refine wq_getF (q := 133) f_Se_28 rfl rfl (Nat.le_of_ble_eq_true rfl) rfl rfl rfl ?_
          refine wq_iload_n (kk := 3) (q := 134) rfl rfl rfl ?_
          refine wq_iald (q := 135) rfl (Or.inl ⟨rfl, Nat.le_of_ble_eq_true rfl⟩) rfl rfl (by first | omega | (simp [hup]; omega)) (by first | omega | (simp [hup]; omega)) ?_
          refine wq_icmp_ge (tgt := 142) (q := 138) rfl rfl rfl (fun c135 => ?_) (fun c135 => ?_)
          · skip
            refine wq_iconst (n := 0) (q := 143) rfl rfl rfl ?_
            refine wq_zret rfl rfl (Nat.le_refl _) (Nat.le_refl _) (by omega) ?_
            first | exact pC_t (by unfold kf; omega) | exact pC_f (by unfold kf; omega)
          · skip
            refine wq_iconst (n := 1) (q := 139) rfl rfl rfl ?_
            refine wq_goto (tgt := 143) rfl rfl ?_
            refine wq_zret rfl rfl (Nat.le_refl _) (Nat.le_refl _) (by omega) ?_
            first | exact pC_t (by unfold kf; omega) | exact pC_f (by unfold kf; omega)
      · skip
        refine wq_aload_n (kk := 1) (q := 88) rfl rfl rfl ?_
        refine wq_getF (q := 91) f_Se_115 rfl rfl (Nat.le_of_ble_eq_true rfl) rfl rfl rfl ?_
        refine wq_iload_n (kk := 2) (q := 92) rfl rfl rfl ?_
        refine wq_iald (q := 93) rfl (Or.inl ⟨rfl, Nat.le_of_ble_eq_true rfl⟩) rfl rfl (by first | omega | (simp [hup]; omega)) (by first | omega | (simp [hup]; omega)) ?_
        refine wq_aload_n (kk := 1) (q := 94) rfl rfl rfl ?_
        refine wq_getF (q := 97) f_Se_115 rfl rfl (Nat.le_of_ble_eq_true rfl) rfl rfl rfl ?_
        refine wq_iload_n (kk := 3) (q := 98) rfl rfl rfl ?_
        refine wq_iald (q := 99) rfl (Or.inl ⟨rfl, Nat.le_of_ble_eq_true rfl⟩) rfl rfl (by first | omega | (simp [hup]; omega)) (by first | omega | (simp [hup]; omega)) ?_
        refine wq_icmp_le (tgt := 106) (q := 102) rfl rfl rfl (fun c99 => ?_) (fun c99 => ?_)
        · skip
          refine wq_iconst (n := 0) (q := 107) rfl rfl rfl ?_
          refine wq_zret rfl rfl (Nat.le_refl _) (Nat.le_refl _) (by omega) ?_
          first | exact pC_t (by unfold kf; omega) | exact pC_f (by unfold kf; omega)
        · skip
          refine wq_iconst (n := 1) (q := 103) rfl rfl rfl ?_
          refine wq_goto (tgt := 107) rfl rfl ?_
          refine wq_zret rfl rfl (Nat.le_refl _) (Nat.le_refl _) (by omega) ?_
          first | exact pC_t (by unfold kf; omega) | exact pC_f (by unfold kf; omega)
    · skip
      refine wq_aload_n (kk := 0) (q := 52) rfl rfl rfl ?_
      refine wq_getF (q := 55) f_Se_25 rfl rfl (Nat.le_of_ble_eq_true rfl) rfl rfl rfl ?_
      refine wq_iload_n (kk := 2) (q := 56) rfl rfl rfl ?_
      refine wq_iald (q := 57) rfl (Or.inl ⟨rfl, Nat.le_of_ble_eq_true rfl⟩) rfl rfl (by first | omega | (simp [hup]; omega)) (by first | omega | (simp [hup]; omega)) ?_
      refine wq_aload_n (kk := 0) (q := 58) rfl rfl rfl ?_
      refine wq_getF (q := 61) f_Se_25 rfl rfl (Nat.le_of_ble_eq_true rfl) rfl rfl rfl ?_
      refine wq_iload_n (kk := 3) (q := 62) rfl rfl rfl ?_
      refine wq_iald (q := 63) rfl (Or.inl ⟨rfl, Nat.le_of_ble_eq_true rfl⟩) rfl rfl (by first | omega | (simp [hup]; omega)) (by first | omega | (simp [hup]; omega)) ?_
      refine wq_icmp_ge (tgt := 70) (q := 66) rfl rfl rfl (fun c63 => ?_) (fun c63 => ?_)
      · skip
        refine wq_iconst (n := 0) (q := 71) rfl rfl rfl ?_
        refine wq_zret rfl rfl (Nat.le_refl _) (Nat.le_refl _) (by omega) ?_
        first | exact pC_t (by unfold kf; omega) | exact pC_f (by unfold kf; omega)
      · skip
        refine wq_iconst (n := 1) (q := 67) rfl rfl rfl ?_
        refine wq_goto (tgt := 71) rfl rfl ?_
        refine wq_zret rfl rfl (Nat.le_refl _) (Nat.le_refl _) (by omega) ?_
        first | exact pC_t (by unfold kf; omega) | exact pC_f (by unfold kf; omega)
  · skip
    refine wq_aload_n (kk := 0) (q := 16) rfl rfl rfl ?_
    refine wq_getF (q := 19) f_Se_22 rfl rfl (Nat.le_of_ble_eq_true rfl) rfl rfl rfl ?_
    refine wq_iload_n (kk := 2) (q := 20) rfl rfl rfl ?_
    refine wq_iald (q := 21) rfl (Or.inl ⟨rfl, Nat.le_of_ble_eq_true rfl⟩) rfl rfl (by first | omega | (simp [hup]; omega)) (by first | omega | (simp [hup]; omega)) ?_
    refine wq_aload_n (kk := 0) (q := 22) rfl rfl rfl ?_
    refine wq_getF (q := 25) f_Se_22 rfl rfl (Nat.le_of_ble_eq_true rfl) rfl rfl rfl ?_
    refine wq_iload_n (kk := 3) (q := 26) rfl rfl rfl ?_
    refine wq_iald (q := 27) rfl (Or.inl ⟨rfl, Nat.le_of_ble_eq_true rfl⟩) rfl rfl (by first | omega | (simp [hup]; omega)) (by first | omega | (simp [hup]; omega)) ?_
    refine wq_icmp_ge (tgt := 34) (q := 30) rfl rfl rfl (fun c27 => ?_) (fun c27 => ?_)
    · skip
      refine wq_iconst (n := 0) (q := 35) rfl rfl rfl ?_
      refine wq_zret rfl rfl (Nat.le_refl _) (Nat.le_refl _) (by omega) ?_
      first | exact pC_t (by unfold kf; omega) | exact pC_f (by unfold kf; omega)
    · skip
      refine wq_iconst (n := 1) (q := 31) rfl rfl rfl ?_
      refine wq_goto (tgt := 35) rfl rfl ?_
      refine wq_zret rfl rfl (Nat.le_refl _) (Nat.le_refl _) (by omega) ?_
      first | exact pC_t (by unfold kf; omega) | exact pC_f (by unfold kf; omega)
set_option maxRecDepth 100000 in
set_option maxHeartbeats 4000000 in
theorem Se_pickA (N : mN) (a t b : Int) (h : mH) (r : mR) (hw : netW h r N) (ha : 0 ≤ a ∧ a < nS N) (hA : aimed N b h) : ∀ (M : Nat) (p f : Int) (y z : Option mV), (h 37 (a + 1) - p).toNat = M → h 37 a ≤ p → p ≤ h 37 (a + 1) → Fs N 1000000 (h 44) (h 45) (h 46) a t (fun d => ∃ q, h 37 a ≤ q ∧ q < p ∧ h 36 q = d) f → WP (true, rm 2) m_Se_pickFirst (rt m_Se_pickFirst (rm 2) (fun rv h1 r1 => ∃ f, rv = some (vI f) ∧ h1 = h ∧ r1 = r ∧ Fs N 1000000 (h 44) (h 45) (h 46) a t (fun _ => True) f)) 11 [some (vR 40), some (vR 31), some (vI a), some (vI t), some (vI f), some (vI p), y, z] [] h r (0, 0) := by
  intro M
  induction M using Nat.strongRecOn with
  | ind M ih =>
    intro p f y z hM p0 p1 hF
    obtain ⟨hnde, hV, hN, hO, hG⟩ := id hw
    have hn := hV.1
    have hS := hV.2.1
    have g1 := hG.1 a ha.1 ha.2
    have gd : p < h 37 (a + 1) → dp N (h 36 p) ∧ frm N (h 36 p) = a := fun y => hG.2.1 a p ha.1 ha.2 p0 y
    have el : p < h 37 (a + 1) → h 32 (h 36 p) = lv N (h 36 p) := fun y => (hN.2.2.1 _ (gd y).1).1
    have hb : p < h 37 (a + 1) → (rn N (h 36 p) ≠ 1 → h 44 (h 36 p) = 1000000) ∧ (h 44 (h 36 p) = 1000000 ∨ (0 ≤ h 44 (h 36 p) ∧ h 44 (h 36 p) ≤ 1700) ∧ 0 ≤ h 45 (h 36 p) ∧ h 45 (h 36 p) < h 46 (h 36 p) ∧ h 46 (h 36 p) ≤ 120) := fun y => hA.2 _ (gd y).1
    have hfc : p < h 37 (a + 1) → (Fc N 1000000 (h 44) a t (h 36 p) ↔ t ≤ lv N (h 36 p) ∧ h 44 (h 36 p) < 1000000) := fun y => by
      have y3 := hb y
      have y4 := (hV.2.2.1 _ (gd y).1).2.2.2.2
      constructor
      · rintro ⟨-, -, -, a4, a5⟩; omega
      · rintro ⟨a1, a2⟩; exact ⟨(gd y).1, by omega, (gd y).2, a1, by omega⟩
    have skip : ¬ Fc N 1000000 (h 44) a t (h 36 p) → Fs N 1000000 (h 44) (h 45) (h 46) a t (fun d => ∃ q, h 37 a ≤ q ∧ q < p + 1 ∧ h 36 q = d) f := fun hz => by
      rcases hF with ⟨w1, w2⟩ | ⟨⟨q, q0, q1, q2⟩, w1, w2⟩
      · refine Or.inl ⟨w1, ?_⟩
        rintro d ⟨q, q0, q1, q2⟩ hc
        by_cases e : q = p
        · subst e; rw [q2] at hz; exact hz hc
        · exact w2 d ⟨q, q0, by omega, q2⟩ hc
      · refine Or.inr ⟨⟨q, q0, by omega, q2⟩, w1, ?_⟩
        rintro g ⟨q', q0', q1', q2'⟩ hc hne
        by_cases e : q' = p
        · subst e; rw [q2'] at hz; exact absurd hc hz
        · exact w2 g ⟨q', q0', by omega, q2'⟩ hc hne
    refine wq_iload (i := 5) (q := 13) rfl rfl rfl ?_
    refine wq_aload_n (kk := 1) (q := 14) rfl rfl rfl ?_
    refine wq_getF (q := 17) f_Se_94 rfl rfl (Nat.le_of_ble_eq_true rfl) rfl rfl rfl ?_
    refine wq_iload_n (kk := 2) (q := 18) rfl rfl rfl ?_
    refine wq_iconst (n := 1) (q := 19) rfl rfl rfl ?_
    refine wq_iadd (q := 20) rfl rfl (by first | omega | (have y := gd (by omega); have y1 := y.1.1; have y2 := y.1.2; omega)) (by first | omega | (have y := gd (by omega); have y1 := y.1.1; have y2 := y.1.2; omega)) ?_
    refine wq_iald (q := 21) rfl (Or.inl ⟨rfl, Nat.le_of_ble_eq_true rfl⟩) rfl rfl (by first | omega | (have y := gd (by omega); have y1 := y.1.1; have y2 := y.1.2; omega)) (by first | omega | (have y := gd (by omega); have y1 := y.1.1; have y2 := y.1.2; omega)) ?_
    refine wq_icmp_ge (tgt := 96) (q := 24) rfl rfl rfl (fun c21 => ?_) (fun c21 => ?_)
    · skip
      refine wq_iload (i := 4) (q := 98) rfl rfl rfl ?_
      refine wq_iret rfl rfl (Nat.le_refl _) (Nat.le_refl _) ⟨f, rfl, rfl, rfl, ?_⟩
      rcases hF with ⟨w1, w2⟩ | ⟨-, w1, w2⟩
      · refine Or.inl ⟨w1, fun d _ hc => ?_⟩
        obtain ⟨q, q0, q1, q2⟩ := hG.2.2.1 d hc.1
        rw [hc.2.2.1] at q0 q1
        exact w2 d ⟨q, q0, by omega, q2⟩ hc
      · refine Or.inr ⟨trivial, w1, fun g _ hc hne => ?_⟩
        obtain ⟨q, q0, q1, q2⟩ := hG.2.2.1 g hc.1
        rw [hc.2.2.1] at q0 q1
        exact w2 g ⟨q, q0, by omega, q2⟩ hc hne
    · skip
      refine wq_aload_n (kk := 1) (q := 25) rfl rfl rfl ?_
      refine wq_getF (q := 28) f_Se_97 rfl rfl (Nat.le_of_ble_eq_true rfl) rfl rfl rfl ?_
      refine wq_iload (i := 5) (q := 30) rfl rfl rfl ?_
      refine wq_iald (q := 31) rfl (Or.inl ⟨rfl, Nat.le_of_ble_eq_true rfl⟩) rfl rfl (by first | omega | (have y := gd (by omega); have y1 := y.1.1; have y2 := y.1.2; omega)) (by first | omega | (have y := gd (by omega); have y1 := y.1.1; have y2 := y.1.2; omega)) ?_
      refine wq_istore (i := 6) (q := 33) rfl rfl (Nat.le_of_ble_eq_true rfl) rfl ?_
      refine wq_aload_n (kk := 1) (q := 34) rfl rfl rfl ?_
      refine wq_getF (q := 37) f_Se_115 rfl rfl (Nat.le_of_ble_eq_true rfl) rfl rfl rfl ?_
      refine wq_iload (i := 6) (q := 39) rfl rfl rfl ?_
      refine wq_iald (q := 40) rfl (Or.inl ⟨rfl, Nat.le_of_ble_eq_true rfl⟩) rfl rfl (by first | omega | (have y := gd (by omega); have y1 := y.1.1; have y2 := y.1.2; omega)) (by first | omega | (have y := gd (by omega); have y1 := y.1.1; have y2 := y.1.2; omega)) ?_
      rw [el (by omega)]
      refine wq_iload_n (kk := 3) (q := 41) rfl rfl rfl ?_
      refine wq_icmp_lt (tgt := 60) (q := 44) rfl rfl rfl (fun c41 => ?_) (fun c41 => ?_)
      · skip
        refine wq_iconst (n := 0) (q := 61) rfl rfl rfl ?_
        refine wq_istore (i := 7) (q := 63) rfl rfl (Nat.le_of_ble_eq_true rfl) rfl ?_
        refine wq_iload (i := 7) (q := 65) rfl rfl rfl ?_
        refine wq_if_eq (tgt := 90) (q := 68) rfl rfl rfl (fun c65 => ?_) (fun c65 => ?_)
        · skip
          refine wq_iinc (i := 5) (n := 1) (q := 93) rfl rfl rfl (Nat.le_of_ble_eq_true rfl) rfl (by omega) (by omega) ?_
          refine wq_goto (tgt := 11) rfl rfl ?_
          first
            | (refine ih _ ?_ (p + 1) f _ _ rfl (by omega) (by omega) (skip (fun hc => ?_))
               · omega
               · have := (hfc (by omega)).mp hc
                 omega)
            | (refine ih _ ?_ (p + 1) f _ _ rfl (by omega) (by omega) ?_
               · omega
               · rcases hF with ⟨w1, w2⟩ | ⟨⟨q, q0, q1, q2⟩, w1, w2⟩
                 · exact absurd w1 c71
                 · refine Or.inr ⟨⟨q, q0, by omega, q2⟩, w1, ?_⟩
                   rintro g ⟨q', q0', q1', q2'⟩ hc hne
                   by_cases e : q' = p
                   · subst e; subst q2'; exact kf.tot hne c83
                   · exact w2 g ⟨q', q0', by omega, q2'⟩ hc hne)
        · skip
          refine wq_iload (i := 4) (q := 70) rfl rfl rfl ?_
          refine wq_iconst (n := -1) (q := 71) rfl rfl rfl ?_
          refine wq_icmp_eq (tgt := 86) (q := 74) rfl rfl rfl (fun c71 => ?_) (fun c71 => ?_)
          · skip
            have hc : Fc N 1000000 (h 44) a t (h 36 p) := (hfc (by omega)).mpr ⟨by omega, by omega⟩
            refine wq_iload (i := 6) (q := 88) rfl rfl rfl ?_
            refine wq_istore (i := 4) (q := 90) rfl rfl (Nat.le_of_ble_eq_true rfl) rfl ?_
            refine wq_iinc (i := 5) (n := 1) (q := 93) rfl rfl rfl (Nat.le_of_ble_eq_true rfl) rfl (by omega) (by omega) ?_
            refine wq_goto (tgt := 11) rfl rfl ?_
            refine ih _ ?_ (p + 1) (h 36 p) _ _ rfl (by omega) (by omega) (Or.inr ⟨⟨p, p0, by omega, rfl⟩, hc, ?_⟩)
            · omega
            · rintro g ⟨q, q0, q1, q2⟩ hg hne
              have hqp : q < p := by
                rcases (show q < p ∨ q = p by omega) with y | y
                · exact y
                · subst y; exact absurd q2.symm hne
              rcases hF with ⟨w1, w2⟩ | ⟨w0, w1, w2⟩
              · exact absurd hg (w2 g ⟨q, q0, hqp, q2⟩)
              · first
                  | (exfalso; have := w1.1.1; omega)
                  | (by_cases e : g = f
                     · subst e; exact c83
                     · exact c83.trans (w2 g ⟨q, q0, hqp, q2⟩ hg e))
          · skip
            refine wq_aload_n (kk := 0) (q := 75) rfl rfl rfl ?_
            refine wq_aload_n (kk := 1) (q := 76) rfl rfl rfl ?_
            refine wq_iload (i := 6) (q := 78) rfl rfl rfl ?_
            refine wq_iload (i := 4) (q := 80) rfl rfl rfl ?_
            refine wq_callV (q := 83) (m' := m_Se_isBetterFirst) (R' := rm 1) (As := [_, _, _]) rfl rfl l_Se_125 vm_Se_isBetterFirst rfl rfl rfl (Or.inl ⟨rfl, Nat.le_of_ble_eq_true rfl⟩) (Nat.le_of_ble_eq_true rfl) (Nat.le_of_ble_eq_true rfl) (Nat.le_refl _) (Nat.le_refl _) (Nat.le_of_ble_eq_true rfl) (Se_isBetterFirst_ok N (h 36 p) f h r hN hV (gd (by omega)).1 (by rcases hF with ⟨w, -⟩ | ⟨-, w, -⟩; exact absurd w c71; exact w.1)) rfl ?_
            rintro rv h r ⟨rfl, rfl, rfl⟩ -
            refine wq_cif_eq (tgt := 90) (q := 86) rfl rfl rfl (fun c83 => ?_) (fun c83 => ?_)
            · skip
              refine wq_iinc (i := 5) (n := 1) (q := 93) rfl rfl rfl (Nat.le_of_ble_eq_true rfl) rfl (by omega) (by omega) ?_
              refine wq_goto (tgt := 11) rfl rfl ?_
              first
                | (refine ih _ ?_ (p + 1) f _ _ rfl (by omega) (by omega) (skip (fun hc => ?_))
                   · omega
                   · have := (hfc (by omega)).mp hc
                     omega)
                | (refine ih _ ?_ (p + 1) f _ _ rfl (by omega) (by omega) ?_
                   · omega
                   · rcases hF with ⟨w1, w2⟩ | ⟨⟨q, q0, q1, q2⟩, w1, w2⟩
                     · exact absurd w1 c71
                     · refine Or.inr ⟨⟨q, q0, by omega, q2⟩, w1, ?_⟩
                       rintro g ⟨q', q0', q1', q2'⟩ hc hne
                       by_cases e : q' = p
                       · subst e; subst q2'; exact kf.tot hne c83
                       · exact w2 g ⟨q', q0', by omega, q2'⟩ hc hne)
            · skip
              have hc : Fc N 1000000 (h 44) a t (h 36 p) := (hfc (by omega)).mpr ⟨by omega, by omega⟩
              refine wq_iload (i := 6) (q := 88) rfl rfl rfl ?_
              refine wq_istore (i := 4) (q := 90) rfl rfl (Nat.le_of_ble_eq_true rfl) rfl ?_
              refine wq_iinc (i := 5) (n := 1) (q := 93) rfl rfl rfl (Nat.le_of_ble_eq_true rfl) rfl (by omega) (by omega) ?_
              refine wq_goto (tgt := 11) rfl rfl ?_
              refine ih _ ?_ (p + 1) (h 36 p) _ _ rfl (by omega) (by omega) (Or.inr ⟨⟨p, p0, by omega, rfl⟩, hc, ?_⟩)
              · omega
              · rintro g ⟨q, q0, q1, q2⟩ hg hne
                have hqp : q < p := by
                  rcases (show q < p ∨ q = p by omega) with y | y
                  · exact y
                  · subst y; exact absurd q2.symm hne
                rcases hF with ⟨w1, w2⟩ | ⟨w0, w1, w2⟩
                · exact absurd hg (w2 g ⟨q, q0, hqp, q2⟩)
                · first
                    | (exfalso; have := w1.1.1; omega)
                    | (by_cases e : g = f
                       · subst e; exact c83
                       · exact c83.trans (w2 g ⟨q, q0, hqp, q2⟩ hg e))
      · skip
        refine wq_aload_n (kk := 0) (q := 45) rfl rfl rfl ?_
        refine wq_getF (q := 48) f_Se_22 rfl rfl (Nat.le_of_ble_eq_true rfl) rfl rfl rfl ?_
        refine wq_iload (i := 6) (q := 50) rfl rfl rfl ?_
        refine wq_iald (q := 51) rfl (Or.inl ⟨rfl, Nat.le_of_ble_eq_true rfl⟩) rfl rfl (by first | omega | (have y := gd (by omega); have y1 := y.1.1; have y2 := y.1.2; omega)) (by first | omega | (have y := gd (by omega); have y1 := y.1.1; have y2 := y.1.2; omega)) ?_
        refine wq_ldc (n := 1000000) (q := 53) k_Se_79 rfl rfl rfl ?_
        refine wq_icmp_ge (tgt := 60) (q := 56) rfl rfl rfl (fun c53 => ?_) (fun c53 => ?_)
        · skip
          refine wq_iconst (n := 0) (q := 61) rfl rfl rfl ?_
          refine wq_istore (i := 7) (q := 63) rfl rfl (Nat.le_of_ble_eq_true rfl) rfl ?_
          refine wq_iload (i := 7) (q := 65) rfl rfl rfl ?_
          refine wq_if_eq (tgt := 90) (q := 68) rfl rfl rfl (fun c65 => ?_) (fun c65 => ?_)
          · skip
            refine wq_iinc (i := 5) (n := 1) (q := 93) rfl rfl rfl (Nat.le_of_ble_eq_true rfl) rfl (by omega) (by omega) ?_
            refine wq_goto (tgt := 11) rfl rfl ?_
            first
              | (refine ih _ ?_ (p + 1) f _ _ rfl (by omega) (by omega) (skip (fun hc => ?_))
                 · omega
                 · have := (hfc (by omega)).mp hc
                   omega)
              | (refine ih _ ?_ (p + 1) f _ _ rfl (by omega) (by omega) ?_
                 · omega
                 · rcases hF with ⟨w1, w2⟩ | ⟨⟨q, q0, q1, q2⟩, w1, w2⟩
                   · exact absurd w1 c71
                   · refine Or.inr ⟨⟨q, q0, by omega, q2⟩, w1, ?_⟩
                     rintro g ⟨q', q0', q1', q2'⟩ hc hne
                     by_cases e : q' = p
                     · subst e; subst q2'; exact kf.tot hne c83
                     · exact w2 g ⟨q', q0', by omega, q2'⟩ hc hne)
          · skip
            refine wq_iload (i := 4) (q := 70) rfl rfl rfl ?_
            refine wq_iconst (n := -1) (q := 71) rfl rfl rfl ?_
            refine wq_icmp_eq (tgt := 86) (q := 74) rfl rfl rfl (fun c71 => ?_) (fun c71 => ?_)
            · skip
              have hc : Fc N 1000000 (h 44) a t (h 36 p) := (hfc (by omega)).mpr ⟨by omega, by omega⟩
              refine wq_iload (i := 6) (q := 88) rfl rfl rfl ?_
              refine wq_istore (i := 4) (q := 90) rfl rfl (Nat.le_of_ble_eq_true rfl) rfl ?_
              refine wq_iinc (i := 5) (n := 1) (q := 93) rfl rfl rfl (Nat.le_of_ble_eq_true rfl) rfl (by omega) (by omega) ?_
              refine wq_goto (tgt := 11) rfl rfl ?_
              refine ih _ ?_ (p + 1) (h 36 p) _ _ rfl (by omega) (by omega) (Or.inr ⟨⟨p, p0, by omega, rfl⟩, hc, ?_⟩)
              · omega
              · rintro g ⟨q, q0, q1, q2⟩ hg hne
                have hqp : q < p := by
                  rcases (show q < p ∨ q = p by omega) with y | y
                  · exact y
                  · subst y; exact absurd q2.symm hne
                rcases hF with ⟨w1, w2⟩ | ⟨w0, w1, w2⟩
                · exact absurd hg (w2 g ⟨q, q0, hqp, q2⟩)
                · first
                    | (exfalso; have := w1.1.1; omega)
                    | (by_cases e : g = f
                       · subst e; exact c83
                       · exact c83.trans (w2 g ⟨q, q0, hqp, q2⟩ hg e))
            · skip
              refine wq_aload_n (kk := 0) (q := 75) rfl rfl rfl ?_
              refine wq_aload_n (kk := 1) (q := 76) rfl rfl rfl ?_
              refine wq_iload (i := 6) (q := 78) rfl rfl rfl ?_
              refine wq_iload (i := 4) (q := 80) rfl rfl rfl ?_
              refine wq_callV (q := 83) (m' := m_Se_isBetterFirst) (R' := rm 1) (As := [_, _, _]) rfl rfl l_Se_125 vm_Se_isBetterFirst rfl rfl rfl (Or.inl ⟨rfl, Nat.le_of_ble_eq_true rfl⟩) (Nat.le_of_ble_eq_true rfl) (Nat.le_of_ble_eq_true rfl) (Nat.le_refl _) (Nat.le_refl _) (Nat.le_of_ble_eq_true rfl) (Se_isBetterFirst_ok N (h 36 p) f h r hN hV (gd (by omega)).1 (by rcases hF with ⟨w, -⟩ | ⟨-, w, -⟩; exact absurd w c71; exact w.1)) rfl ?_
              rintro rv h r ⟨rfl, rfl, rfl⟩ -
              refine wq_cif_eq (tgt := 90) (q := 86) rfl rfl rfl (fun c83 => ?_) (fun c83 => ?_)
              · skip
                refine wq_iinc (i := 5) (n := 1) (q := 93) rfl rfl rfl (Nat.le_of_ble_eq_true rfl) rfl (by omega) (by omega) ?_
                refine wq_goto (tgt := 11) rfl rfl ?_
                first
                  | (refine ih _ ?_ (p + 1) f _ _ rfl (by omega) (by omega) (skip (fun hc => ?_))
                     · omega
                     · have := (hfc (by omega)).mp hc
                       omega)
                  | (refine ih _ ?_ (p + 1) f _ _ rfl (by omega) (by omega) ?_
                     · omega
                     · rcases hF with ⟨w1, w2⟩ | ⟨⟨q, q0, q1, q2⟩, w1, w2⟩
                       · exact absurd w1 c71
                       · refine Or.inr ⟨⟨q, q0, by omega, q2⟩, w1, ?_⟩
                         rintro g ⟨q', q0', q1', q2'⟩ hc hne
                         by_cases e : q' = p
                         · subst e; subst q2'; exact kf.tot hne c83
                         · exact w2 g ⟨q', q0', by omega, q2'⟩ hc hne)
              · skip
                have hc : Fc N 1000000 (h 44) a t (h 36 p) := (hfc (by omega)).mpr ⟨by omega, by omega⟩
                refine wq_iload (i := 6) (q := 88) rfl rfl rfl ?_
                refine wq_istore (i := 4) (q := 90) rfl rfl (Nat.le_of_ble_eq_true rfl) rfl ?_
                refine wq_iinc (i := 5) (n := 1) (q := 93) rfl rfl rfl (Nat.le_of_ble_eq_true rfl) rfl (by omega) (by omega) ?_
                refine wq_goto (tgt := 11) rfl rfl ?_
                refine ih _ ?_ (p + 1) (h 36 p) _ _ rfl (by omega) (by omega) (Or.inr ⟨⟨p, p0, by omega, rfl⟩, hc, ?_⟩)
                · omega
                · rintro g ⟨q, q0, q1, q2⟩ hg hne
                  have hqp : q < p := by
                    rcases (show q < p ∨ q = p by omega) with y | y
                    · exact y
                    · subst y; exact absurd q2.symm hne
                  rcases hF with ⟨w1, w2⟩ | ⟨w0, w1, w2⟩
                  · exact absurd hg (w2 g ⟨q, q0, hqp, q2⟩)
                  · first
                      | (exfalso; have := w1.1.1; omega)
                      | (by_cases e : g = f
                         · subst e; exact c83
                         · exact c83.trans (w2 g ⟨q, q0, hqp, q2⟩ hg e))
        · skip
          refine wq_iconst (n := 1) (q := 57) rfl rfl rfl ?_
          refine wq_goto (tgt := 61) rfl rfl ?_
          refine wq_istore (i := 7) (q := 63) rfl rfl (Nat.le_of_ble_eq_true rfl) rfl ?_
          refine wq_iload (i := 7) (q := 65) rfl rfl rfl ?_
          refine wq_if_eq (tgt := 90) (q := 68) rfl rfl rfl (fun c65 => ?_) (fun c65 => ?_)
          · skip
            refine wq_iinc (i := 5) (n := 1) (q := 93) rfl rfl rfl (Nat.le_of_ble_eq_true rfl) rfl (by omega) (by omega) ?_
            refine wq_goto (tgt := 11) rfl rfl ?_
            first
              | (refine ih _ ?_ (p + 1) f _ _ rfl (by omega) (by omega) (skip (fun hc => ?_))
                 · omega
                 · have := (hfc (by omega)).mp hc
                   omega)
              | (refine ih _ ?_ (p + 1) f _ _ rfl (by omega) (by omega) ?_
                 · omega
                 · rcases hF with ⟨w1, w2⟩ | ⟨⟨q, q0, q1, q2⟩, w1, w2⟩
                   · exact absurd w1 c71
                   · refine Or.inr ⟨⟨q, q0, by omega, q2⟩, w1, ?_⟩
                     rintro g ⟨q', q0', q1', q2'⟩ hc hne
                     by_cases e : q' = p
                     · subst e; subst q2'; exact kf.tot hne c83
                     · exact w2 g ⟨q', q0', by omega, q2'⟩ hc hne)
          · skip
            refine wq_iload (i := 4) (q := 70) rfl rfl rfl ?_
            refine wq_iconst (n := -1) (q := 71) rfl rfl rfl ?_
            refine wq_icmp_eq (tgt := 86) (q := 74) rfl rfl rfl (fun c71 => ?_) (fun c71 => ?_)
            · skip
              have hc : Fc N 1000000 (h 44) a t (h 36 p) := (hfc (by omega)).mpr ⟨by omega, by omega⟩
              refine wq_iload (i := 6) (q := 88) rfl rfl rfl ?_
              refine wq_istore (i := 4) (q := 90) rfl rfl (Nat.le_of_ble_eq_true rfl) rfl ?_
              refine wq_iinc (i := 5) (n := 1) (q := 93) rfl rfl rfl (Nat.le_of_ble_eq_true rfl) rfl (by omega) (by omega) ?_
              refine wq_goto (tgt := 11) rfl rfl ?_
              refine ih _ ?_ (p + 1) (h 36 p) _ _ rfl (by omega) (by omega) (Or.inr ⟨⟨p, p0, by omega, rfl⟩, hc, ?_⟩)
              · omega
              · rintro g ⟨q, q0, q1, q2⟩ hg hne
                have hqp : q < p := by
                  rcases (show q < p ∨ q = p by omega) with y | y
                  · exact y
                  · subst y; exact absurd q2.symm hne
                rcases hF with ⟨w1, w2⟩ | ⟨w0, w1, w2⟩
                · exact absurd hg (w2 g ⟨q, q0, hqp, q2⟩)
                · first
                    | (exfalso; have := w1.1.1; omega)
                    | (by_cases e : g = f
                       · subst e; exact c83
                       · exact c83.trans (w2 g ⟨q, q0, hqp, q2⟩ hg e))
            · skip
              refine wq_aload_n (kk := 0) (q := 75) rfl rfl rfl ?_
              refine wq_aload_n (kk := 1) (q := 76) rfl rfl rfl ?_
              refine wq_iload (i := 6) (q := 78) rfl rfl rfl ?_
              refine wq_iload (i := 4) (q := 80) rfl rfl rfl ?_
              refine wq_callV (q := 83) (m' := m_Se_isBetterFirst) (R' := rm 1) (As := [_, _, _]) rfl rfl l_Se_125 vm_Se_isBetterFirst rfl rfl rfl (Or.inl ⟨rfl, Nat.le_of_ble_eq_true rfl⟩) (Nat.le_of_ble_eq_true rfl) (Nat.le_of_ble_eq_true rfl) (Nat.le_refl _) (Nat.le_refl _) (Nat.le_of_ble_eq_true rfl) (Se_isBetterFirst_ok N (h 36 p) f h r hN hV (gd (by omega)).1 (by rcases hF with ⟨w, -⟩ | ⟨-, w, -⟩; exact absurd w c71; exact w.1)) rfl ?_
              rintro rv h r ⟨rfl, rfl, rfl⟩ -
              refine wq_cif_eq (tgt := 90) (q := 86) rfl rfl rfl (fun c83 => ?_) (fun c83 => ?_)
              · skip
                refine wq_iinc (i := 5) (n := 1) (q := 93) rfl rfl rfl (Nat.le_of_ble_eq_true rfl) rfl (by omega) (by omega) ?_
                refine wq_goto (tgt := 11) rfl rfl ?_
                first
                  | (refine ih _ ?_ (p + 1) f _ _ rfl (by omega) (by omega) (skip (fun hc => ?_))
                     · omega
                     · have := (hfc (by omega)).mp hc
                       omega)
                  | (refine ih _ ?_ (p + 1) f _ _ rfl (by omega) (by omega) ?_
                     · omega
                     · rcases hF with ⟨w1, w2⟩ | ⟨⟨q, q0, q1, q2⟩, w1, w2⟩
                       · exact absurd w1 c71
                       · refine Or.inr ⟨⟨q, q0, by omega, q2⟩, w1, ?_⟩
                         rintro g ⟨q', q0', q1', q2'⟩ hc hne
                         by_cases e : q' = p
                         · subst e; subst q2'; exact kf.tot hne c83
                         · exact w2 g ⟨q', q0', by omega, q2'⟩ hc hne)
              · skip
                have hc : Fc N 1000000 (h 44) a t (h 36 p) := (hfc (by omega)).mpr ⟨by omega, by omega⟩
                refine wq_iload (i := 6) (q := 88) rfl rfl rfl ?_
                refine wq_istore (i := 4) (q := 90) rfl rfl (Nat.le_of_ble_eq_true rfl) rfl ?_
                refine wq_iinc (i := 5) (n := 1) (q := 93) rfl rfl rfl (Nat.le_of_ble_eq_true rfl) rfl (by omega) (by omega) ?_
                refine wq_goto (tgt := 11) rfl rfl ?_
                refine ih _ ?_ (p + 1) (h 36 p) _ _ rfl (by omega) (by omega) (Or.inr ⟨⟨p, p0, by omega, rfl⟩, hc, ?_⟩)
                · omega
                · rintro g ⟨q, q0, q1, q2⟩ hg hne
                  have hqp : q < p := by
                    rcases (show q < p ∨ q = p by omega) with y | y
                    · exact y
                    · subst y; exact absurd q2.symm hne
                  rcases hF with ⟨w1, w2⟩ | ⟨w0, w1, w2⟩
                  · exact absurd hg (w2 g ⟨q, q0, hqp, q2⟩)
                  · first
                      | (exfalso; have := w1.1.1; omega)
                      | (by_cases e : g = f
                         · subst e; exact c83
                         · exact c83.trans (w2 g ⟨q, q0, hqp, q2⟩ hg e))
set_option maxRecDepth 100000 in
theorem Se_pickFirst_ok (N : mN) (a t b : Int) (h : mH) (r : mR) (hw : netW h r N) (ha : 0 ≤ a ∧ a < nS N) (hA : aimed N b h) : Meets true (rm 2) m_Se_pickFirst [vR 40, vR 31, vI a, vI t] h r (fun rv h1 r1 => ∃ f, rv = some (vI f) ∧ h1 = h ∧ r1 = r ∧ Fs N 1000000 (h 44) (h 45) (h 46) a t (fun _ => True) f) := by
  have g1 := hw.2.2.2.2.1 a ha.1 ha.2
  have hS := hw.2.1.2.1
  refine ⟨ok_Se_pickFirst, Nat.le_of_ble_eq_true rfl, ?_⟩
  refine wq_iconst (n := -1) (q := 1) rfl rfl rfl ?_
  refine wq_istore (i := 4) (q := 3) rfl rfl (Nat.le_of_ble_eq_true rfl) rfl ?_
  refine wq_aload_n (kk := 1) (q := 4) rfl rfl rfl ?_
  refine wq_getF (q := 7) f_Se_94 rfl rfl (Nat.le_of_ble_eq_true rfl) rfl rfl rfl ?_
  refine wq_iload_n (kk := 2) (q := 8) rfl rfl rfl ?_
  refine wq_iald (q := 9) rfl (Or.inl ⟨rfl, Nat.le_of_ble_eq_true rfl⟩) rfl rfl (by first | omega | (simp [hup]; omega)) (by first | omega | (simp [hup]; omega)) ?_
  refine wq_istore (i := 5) (q := 11) rfl rfl (Nat.le_of_ble_eq_true rfl) rfl ?_
  refine Se_pickA N a t b h r hw ha hA _ _ (-1) _ _ rfl (Int.le_refl _) (by omega) (Or.inl ⟨rfl, ?_⟩)
  rintro d ⟨q, q0, q1, -⟩
  omega
/-- from f on, k times to the next -/
def itr (x : mF) : Nat → Int → Int
  | 0, f => f
  | k + 1, f => x (itr x k f)
theorem chain {N : mN} {b : Int} {h : mH} (hA : aimed N b h) {d : Int} (hd : dp N d) (hr : rn N d = 1) (he : h 44 d ≠ 1000000) : (h 47 d = -1 ∧ h 46 d = 1 ∧ dst N d = b) ∨ (Cd N 1000000 (h 44) d (h 47 d) ∧ h 46 (h 47 d) = h 46 d - 1 ∧ dst N d ≠ b ∧ h 44 d = h 44 (h 47 d) ∧ h 45 d = h 45 (h 47 d) + tn N d (h 47 d)) := by
  have hL := hA.1 d hd hr
  by_cases hb : dst N d = b
  · obtain ⟨-, -, a3, a4⟩ := hL.1 hb
    exact Or.inl ⟨a4, a3, hb⟩
  · rcases hL.2 hb with ⟨-, w, -⟩ | ⟨f, -, w1, w2, w3, w4, w5, -⟩
    · exact absurd w he
    · rw [w2]
      exact Or.inr ⟨w1, by omega, hb, w3, w4⟩
/-- where the k-th of a way stands -/
theorem itr_in {N : mN} {b : Int} {h : mH} (hA : aimed N b h) {f : Int} (hd : dp N f) (hr : rn N f = 1) (he : h 44 f ≠ 1000000) : ∀ k : Nat, (k : Int) < h 46 f → dp N (itr (h 47) k f) ∧ rn N (itr (h 47) k f) = 1 ∧ h 44 (itr (h 47) k f) = h 44 f ∧ h 46 (itr (h 47) k f) = h 46 f - k := by
  intro k
  induction k with
  | zero => intro _; exact ⟨hd, hr, rfl, by show h 46 f = _; omega⟩
  | succ k ih =>
    intro hk
    obtain ⟨a1, a2, a3, a4⟩ := ih (by omega)
    rcases chain hA a1 a2 (by rw [a3]; exact he) with ⟨z1, z2, -⟩ | ⟨z1, z2, -, z3, -⟩
    · omega
    · exact ⟨z1.1, z1.2.1, by show h 44 (h 47 (itr (h 47) k f)) = _; rw [← z3, a3], by show h 46 (h 47 (itr (h 47) k f)) = _; omega⟩
theorem itr_end {N : mN} {b : Int} {h : mH} (hA : aimed N b h) {f : Int} (hd : dp N f) (hr : rn N f = 1) (he : h 44 f ≠ 1000000) (k : Nat) (hk : (k : Int) = h 46 f) : itr (h 47) k f = -1 := by
  have hb := (hA.2 f hd).2
  obtain ⟨j, rfl⟩ : ∃ j, k = j + 1 := ⟨k - 1, by omega⟩
  obtain ⟨a1, a2, a3, a4⟩ := itr_in hA hd hr he j (by omega)
  show h 47 (itr (h 47) j f) = -1
  rcases chain hA a1 a2 (by rw [a3]; exact he) with ⟨z1, -⟩ | ⟨z1, z2, -⟩
  · exact z1
  · have := (hA.2 _ z1.1).2
    have := z1.2.2.2.2
    omega
def wayIs (N : mN) (h : mH) (f : Int) : Prop := h 41 0 = h 46 f ∧ h 41 1 = lv N f ∧ h 41 2 = h 44 f ∧ h 41 3 = h 45 f ∧ ∀ k : Nat, (k : Int) < h 46 f → h 42 k = itr (h 47) k f
set_option maxRecDepth 100000 in
set_option maxHeartbeats 2000000 in
theorem Se_traceA (N : mN) (a t b f : Int) (h : mH) (r : mR) (hw : netW h r N) (hA : aimed N b h) (hf : dp N f) (hr : rn N f = 1) (he : h 44 f ≠ 1000000) (Q : mP) (K : ∀ h1, fr [41, 42] h h1 → wayIs N h1 f → Q (some (vI 1)) h1 r) : ∀ (M : Nat) (c : Nat) (h' : mH), (h 46 f - c).toNat = M → (c : Int) ≤ h 46 f → fr [41, 42] h h' → h' 41 0 = c → h' 41 1 = lv N f → h' 41 2 = h 44 f → h' 41 3 = h 45 f → (∀ k : Nat, k < c → h' 42 k = itr (h 47) k f) → WP (true, rm 3) m_Se_trace (rt m_Se_trace (rm 3) Q) 71 [some (vR 40), some (vR 31), some (vI a), some (vI t), some (vI f), some (vI (itr (h 47) c f))] [] h' r (0, 0) := by
  intro M
  induction M using Nat.strongRecOn with
  | ind M ih =>
    intro c h' hM hc hfr c0 c1 c2 c3 hx
    have hb := (hA.2 f hf).2
    have hV := hw.2.1
    have hn := hV.1
    have e46 : h' 46 = h 46 := hfr 46 (by decide)
    have e47 : h' 47 = h 47 := hfr 47 (by decide)
    have hin := fun y : (c : Int) < h 46 f => itr_in hA hf hr he c y
    have hd0 : (c : Int) < h 46 f → 0 ≤ itr (h 47) c f ∧ itr (h 47) c f < 120 := fun y => by
      have y1 := (hin y).1.1
      have y2 := (hin y).1.2
      omega
    have fin : (c : Int) = h 46 f → wayIs N h' f := fun y => ⟨by rw [c0, e46, y], c1, by rw [c2, hfr.at 44 f (by decide)], by rw [c3, hfr.at 45 f (by decide)], fun k hk => by rw [e47]; exact hx k (by rw [e46] at hk; omega)⟩
    have end1 : itr (h 47) c f = -1 → (c : Int) = h 46 f := fun y => by
      rcases (show (c : Int) < h 46 f ∨ (c : Int) = h 46 f by omega) with q | q
      · have := (hd0 q).1; omega
      · exact q
    refine wq_iload (i := 5) (q := 73) rfl rfl rfl ?_
    refine wq_iconst (n := -1) (q := 74) rfl rfl rfl ?_
    refine wq_icmp_eq (tgt := 131) (q := 77) rfl rfl rfl (fun c74 => ?_) (fun c74 => ?_)
    · skip
      refine wq_iconst (n := 1) (q := 132) rfl rfl rfl ?_
      refine wq_zret rfl rfl (Nat.le_refl _) (Nat.le_refl _) (by omega) (K h' hfr (fin ?_))
      first | exact end1 c74 | omega
    · skip
      refine wq_aload_n (kk := 0) (q := 78) rfl rfl rfl ?_
      refine wq_getF (q := 81) f_Se_12 rfl rfl (Nat.le_of_ble_eq_true rfl) rfl rfl rfl ?_
      refine wq_getI (kz := 0) (q := 84) rfl f_Se_62 rfl rfl (Or.inl ⟨rfl, Nat.le_of_ble_eq_true rfl⟩) rfl rfl ?_
      refine wq_bipush (n := 120) (q := 86) rfl rfl rfl ?_
      refine wq_icmp_ge (tgt := 131) (q := 89) rfl rfl rfl (fun c86 => ?_) (fun c86 => ?_)
      · skip
        refine wq_iconst (n := 1) (q := 132) rfl rfl rfl ?_
        refine wq_zret rfl rfl (Nat.le_refl _) (Nat.le_refl _) (by omega) (K h' hfr (fin ?_))
        first | exact end1 c74 | omega
      · skip
        refine wq_aload_n (kk := 0) (q := 90) rfl rfl rfl ?_
        refine wq_getF (q := 93) f_Se_12 rfl rfl (Nat.le_of_ble_eq_true rfl) rfl rfl rfl ?_
        refine wq_getF (q := 96) f_Se_65 rfl rfl (Nat.le_of_ble_eq_true rfl) rfl rfl rfl ?_
        refine wq_aload_n (kk := 0) (q := 97) rfl rfl rfl ?_
        refine wq_getF (q := 100) f_Se_12 rfl rfl (Nat.le_of_ble_eq_true rfl) rfl rfl rfl ?_
        refine wq_getI (kz := 0) (q := 103) rfl f_Se_62 rfl rfl (Or.inl ⟨rfl, Nat.le_of_ble_eq_true rfl⟩) rfl rfl ?_
        refine wq_iload (i := 5) (q := 105) rfl rfl rfl ?_
        refine wq_iast (q := 106) rfl (Or.inl ⟨rfl, Nat.le_of_ble_eq_true rfl⟩) rfl rfl (by first | omega | (have y : (c : Int) < h 46 f := by { rcases (show (c : Int) < h 46 f ∨ (c : Int) = h 46 f by omega) with q | q; exact q; exact absurd (itr_end hA hf hr he c q) c74 }; have y1 := hd0 y; first | omega | (simp [hup]; omega))) (by first | omega | (have y : (c : Int) < h 46 f := by { rcases (show (c : Int) < h 46 f ∨ (c : Int) = h 46 f by omega) with q | q; exact q; exact absurd (itr_end hA hf hr he c q) c74 }; have y1 := hd0 y; first | omega | (simp [hup]; omega))) ?_
        refine wq_aload_n (kk := 0) (q := 107) rfl rfl rfl ?_
        refine wq_getF (q := 110) f_Se_12 rfl rfl (Nat.le_of_ble_eq_true rfl) rfl rfl rfl ?_
        refine wq_dup (q := 111) rfl rfl rfl ?_
        refine wq_getI (kz := 0) (q := 114) rfl f_Se_62 rfl rfl (Or.inl ⟨rfl, Nat.le_of_ble_eq_true rfl⟩) rfl rfl ?_
        refine wq_iconst (n := 1) (q := 115) rfl rfl rfl ?_
        refine wq_iadd (q := 116) rfl rfl (by first | omega | (have y : (c : Int) < h 46 f := by { rcases (show (c : Int) < h 46 f ∨ (c : Int) = h 46 f by omega) with q | q; exact q; exact absurd (itr_end hA hf hr he c q) c74 }; have y1 := hd0 y; first | omega | (simp [hup]; omega))) (by first | omega | (have y : (c : Int) < h 46 f := by { rcases (show (c : Int) < h 46 f ∨ (c : Int) = h 46 f by omega) with q | q; exact q; exact absurd (itr_end hA hf hr he c q) c74 }; have y1 := hd0 y; first | omega | (simp [hup]; omega))) ?_
        refine wq_putI (kz := 0) (q := 119) rfl f_Se_62 rfl rfl rfl (Or.inl ⟨rfl, Nat.le_of_ble_eq_true rfl⟩) rfl rfl ?_
        refine wq_aload_n (kk := 0) (q := 120) rfl rfl rfl ?_
        refine wq_getF (q := 123) f_Se_31 rfl rfl (Nat.le_of_ble_eq_true rfl) rfl rfl rfl ?_
        refine wq_iload (i := 5) (q := 125) rfl rfl rfl ?_
        refine wq_iald (q := 126) rfl (Or.inl ⟨rfl, Nat.le_of_ble_eq_true rfl⟩) rfl rfl (by first | omega | (have y : (c : Int) < h 46 f := by { rcases (show (c : Int) < h 46 f ∨ (c : Int) = h 46 f by omega) with q | q; exact q; exact absurd (itr_end hA hf hr he c q) c74 }; have y1 := hd0 y; first | omega | (simp [hup]; omega))) (by first | omega | (have y : (c : Int) < h 46 f := by { rcases (show (c : Int) < h 46 f ∨ (c : Int) = h 46 f by omega) with q | q; exact q; exact absurd (itr_end hA hf hr he c q) c74 }; have y1 := hd0 y; first | omega | (simp [hup]; omega))) ?_
        refine wq_istore (i := 5) (q := 128) rfl rfl (Nat.le_of_ble_eq_true rfl) rfl ?_
        refine wq_goto (tgt := 71) rfl rfl ?_
        have y : (c : Int) < h 46 f := by
          rcases (show (c : Int) < h 46 f ∨ (c : Int) = h 46 f by omega) with q | q
          · exact q
          · exact absurd (itr_end hA hf hr he c q) c74
        have e1 : hup (hup h' 42 (h' 41 0) (itr (h 47) c f)) 41 0 (hup h' 42 (h' 41 0) (itr (h 47) c f) 41 0 + 1) 47 (itr (h 47) c f) = itr (h 47) (c + 1) f := by
          rw [hup_i (by decide), hup_i (by decide), e47]; rfl
        rw [e1]
        refine ih _ ?_ (c + 1) _ rfl (by omega) ((hfr.up (by decide)).up (by decide)) ?_ ?_ ?_ ?_ ?_
        · omega
        · simp [hup]; omega
        · simp [hup]; exact c1
        · simp [hup]; exact c2
        · simp [hup]; exact c3
        · intro k hk
          rw [hup_i (by decide), c0]
          by_cases ek : k = c
          · subst ek; rw [hup_s]
          · rw [hup_j (by omega)]; exact hx k (by omega)
abbrev traQ (N : mN) (b a t : Int) (h : mH) (r : mR) : mP := fun rv h1 r1 => r1 = r ∧ fr [41, 42] h h1 ∧ ∃ f, Fs N 1000000 (h 44) (h 45) (h 46) a t (fun _ => True) f ∧ (f = -1 ∧ rv = some (vI 0) ∧ h1 41 0 = 0 ∨ f ≠ -1 ∧ rv = some (vI 1) ∧ wayIs N h1 f)
set_option maxRecDepth 100000 in
set_option maxHeartbeats 2000000 in
theorem Se_trace_ok (N : mN) (a t b : Int) (h : mH) (r : mR) (hw : netW h r N) (ha : 0 ≤ a ∧ a < nS N) (hA : aimed N b h) : Meets true (rm 3) m_Se_trace [vR 40, vR 31, vI a, vI t] h r (traQ N b a t h r) := by
  have hn := hw.2.1.1
  refine ⟨ok_Se_trace, Nat.le_of_ble_eq_true rfl, ?_⟩
  refine wq_aload_n (kk := 0) (q := 1) rfl rfl rfl ?_
  refine wq_aload_n (kk := 1) (q := 2) rfl rfl rfl ?_
  refine wq_iload_n (kk := 2) (q := 3) rfl rfl rfl ?_
  refine wq_iload_n (kk := 3) (q := 4) rfl rfl rfl ?_
  refine wq_callV (q := 7) (m' := m_Se_pickFirst) (R' := rm 2) (As := [_, _, _]) rfl rfl l_Se_111 vm_Se_pickFirst rfl rfl rfl (Or.inl ⟨rfl, Nat.le_of_ble_eq_true rfl⟩) (Nat.le_of_ble_eq_true rfl) (Nat.le_of_ble_eq_true rfl) (Nat.le_refl _) (Nat.le_refl _) (Nat.le_of_ble_eq_true rfl) (Se_pickFirst_ok N a t b h r hw ha hA) rfl ?_
  rintro rv h r ⟨f, rfl, rfl, rfl, hF⟩ -
  have hfc : f ≠ -1 → Fc N 1000000 (h 44) a t f := fun y => hF.elim (fun q => absurd q.1 y) (fun q => q.2.1)
  have hfb : f ≠ -1 → 0 ≤ f ∧ f < 120 := fun y => by
    have y1 := (hfc y).1.1
    have y2 := (hfc y).1.2
    omega
  have hfl : f ≠ -1 → h 32 f = lv N f := fun y => (hw.2.2.1.2.2.1 f (hfc y).1).1
  refine wq_istore (i := 4) (q := 9) rfl rfl (Nat.le_of_ble_eq_true rfl) rfl ?_
  refine wq_aload_n (kk := 0) (q := 10) rfl rfl rfl ?_
  refine wq_getF (q := 13) f_Se_12 rfl rfl (Nat.le_of_ble_eq_true rfl) rfl rfl rfl ?_
  refine wq_iconst (n := 0) (q := 14) rfl rfl rfl ?_
  refine wq_putI (kz := 0) (q := 17) rfl f_Se_62 rfl rfl rfl (Or.inl ⟨rfl, Nat.le_of_ble_eq_true rfl⟩) rfl rfl ?_
  refine wq_iload (i := 4) (q := 19) rfl rfl rfl ?_
  refine wq_iconst (n := -1) (q := 20) rfl rfl rfl ?_
  refine wq_icmp_ne (tgt := 25) (q := 23) rfl rfl rfl (fun c20 => ?_) (fun c20 => ?_)
  · skip
    refine wq_aload_n (kk := 0) (q := 26) rfl rfl rfl ?_
    refine wq_getF (q := 29) f_Se_12 rfl rfl (Nat.le_of_ble_eq_true rfl) rfl rfl rfl ?_
    refine wq_aload_n (kk := 1) (q := 30) rfl rfl rfl ?_
    refine wq_getF (q := 33) f_Se_115 rfl rfl (Nat.le_of_ble_eq_true rfl) rfl rfl rfl ?_
    refine wq_iload (i := 4) (q := 35) rfl rfl rfl ?_
    refine wq_iald (q := 36) rfl (Or.inl ⟨rfl, Nat.le_of_ble_eq_true rfl⟩) rfl rfl (by first | omega | (have y := hfb (by omega); omega)) (by first | omega | (have y := hfb (by omega); omega)) ?_
    refine wq_putI (kz := 1) (q := 39) rfl f_Se_118 rfl rfl rfl (Or.inl ⟨rfl, Nat.le_of_ble_eq_true rfl⟩) rfl rfl ?_
    refine wq_aload_n (kk := 0) (q := 40) rfl rfl rfl ?_
    refine wq_getF (q := 43) f_Se_12 rfl rfl (Nat.le_of_ble_eq_true rfl) rfl rfl rfl ?_
    refine wq_aload_n (kk := 0) (q := 44) rfl rfl rfl ?_
    refine wq_getF (q := 47) f_Se_22 rfl rfl (Nat.le_of_ble_eq_true rfl) rfl rfl rfl ?_
    refine wq_iload (i := 4) (q := 49) rfl rfl rfl ?_
    refine wq_iald (q := 50) rfl (Or.inl ⟨rfl, Nat.le_of_ble_eq_true rfl⟩) rfl rfl (by first | omega | (have y := hfb (by omega); omega)) (by first | omega | (have y := hfb (by omega); omega)) ?_
    refine wq_putI (kz := 2) (q := 53) rfl f_Se_121 rfl rfl rfl (Or.inl ⟨rfl, Nat.le_of_ble_eq_true rfl⟩) rfl rfl ?_
    refine wq_aload_n (kk := 0) (q := 54) rfl rfl rfl ?_
    refine wq_getF (q := 57) f_Se_12 rfl rfl (Nat.le_of_ble_eq_true rfl) rfl rfl rfl ?_
    refine wq_aload_n (kk := 0) (q := 58) rfl rfl rfl ?_
    refine wq_getF (q := 61) f_Se_25 rfl rfl (Nat.le_of_ble_eq_true rfl) rfl rfl rfl ?_
    refine wq_iload (i := 4) (q := 63) rfl rfl rfl ?_
    refine wq_iald (q := 64) rfl (Or.inl ⟨rfl, Nat.le_of_ble_eq_true rfl⟩) rfl rfl (by first | omega | (have y := hfb (by omega); omega)) (by first | omega | (have y := hfb (by omega); omega)) ?_
    refine wq_putI (kz := 3) (q := 67) rfl f_Se_123 rfl rfl rfl (Or.inl ⟨rfl, Nat.le_of_ble_eq_true rfl⟩) rfl rfl ?_
    refine wq_iload (i := 4) (q := 69) rfl rfl rfl ?_
    refine wq_istore (i := 5) (q := 71) rfl rfl (Nat.le_of_ble_eq_true rfl) rfl ?_
    have y := hfc c20
    refine Se_traceA N a t b f h r hw hA y.1 y.2.1 y.2.2.2.2 _ (fun h1 f1 w1 => ⟨rfl, f1, f, hF, Or.inr ⟨c20, rfl, w1⟩⟩) _ 0 _ rfl ?_ ((((fr.rf.up (by decide)).up (by decide)).up (by decide)).up (by decide)) ?_ ?_ ?_ ?_ (fun k hk => by omega)
    · have := (hA.2 f y.1).2
      have := y.2.2.2.2
      omega
    · simp [hup]
    · simp [hup]; exact hfl c20
    · simp [hup]
    · simp [hup]
  · skip
    refine wq_iconst (n := 0) (q := 24) rfl rfl rfl ?_
    refine wq_zret rfl rfl (Nat.le_refl _) (Nat.le_refl _) (by omega) ⟨rfl, fr.rf.up (by decide), f, hF, Or.inl ⟨by omega, rfl, by simp [hup]⟩⟩

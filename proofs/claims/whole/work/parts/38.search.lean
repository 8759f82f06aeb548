/-! LinkTimes$Search: cell 40; way 41, row 42; turnsAt 43; end 44, turns 45, length 46, next 47 -/
set_option maxRecDepth 100000 in
set_option maxHeartbeats 1000000 in
theorem Se_isBetter_ok (f k d : Int) (h : mH) (r : mR) (hf : 0 ≤ f ∧ f < 120) (hd : 0 ≤ d ∧ d < 120) (hb : -1000 ≤ h 46 f ∧ h 46 f ≤ 1000) : Meets true (rm 1) m_Se_isBetter [vR 40, vI f, vI k, vI d] h r (pI (bI (kl (h 44 f) k (h 46 f + 1) f (h 44 d) (h 45 d) (h 46 d) (h 47 d))) h r) := by
  refine ⟨ok_Se_isBetter, Nat.le_of_ble_eq_true rfl, ?_⟩
  refine wq_aload_n (kk := 0) (q := 1) rfl rfl rfl ?_
  refine wq_getF (q := 4) f_Se_22 rfl rfl (Nat.le_of_ble_eq_true rfl) rfl rfl rfl ?_
  refine wq_iload_n (kk := 1) (q := 5) rfl rfl rfl ?_
  refine wq_iald (q := 6) rfl (Or.inl ⟨rfl, Nat.le_of_ble_eq_true rfl⟩) rfl rfl (by first | omega | (simp [hup]; omega)) (by first | omega | (simp [hup]; omega)) ?_
  refine wq_aload_n (kk := 0) (q := 7) rfl rfl rfl ?_
  refine wq_getF (q := 10) f_Se_22 rfl rfl (Nat.le_of_ble_eq_true rfl) rfl rfl rfl ?_
  refine wq_iload_n (kk := 3) (q := 11) rfl rfl rfl ?_
  refine wq_iald (q := 12) rfl (Or.inl ⟨rfl, Nat.le_of_ble_eq_true rfl⟩) rfl rfl (by first | omega | (simp [hup]; omega)) (by first | omega | (simp [hup]; omega)) ?_
  refine wq_icmp_eq (tgt := 36) (q := 15) rfl rfl rfl (fun c12 => ?_) (fun c12 => ?_)
  · skip
    refine wq_iload_n (kk := 2) (q := 37) rfl rfl rfl ?_
    refine wq_aload_n (kk := 0) (q := 38) rfl rfl rfl ?_
    refine wq_getF (q := 41) f_Se_25 rfl rfl (Nat.le_of_ble_eq_true rfl) rfl rfl rfl ?_
    refine wq_iload_n (kk := 3) (q := 42) rfl rfl rfl ?_
    refine wq_iald (q := 43) rfl (Or.inl ⟨rfl, Nat.le_of_ble_eq_true rfl⟩) rfl rfl (by first | omega | (simp [hup]; omega)) (by first | omega | (simp [hup]; omega)) ?_
    refine wq_icmp_eq (tgt := 62) (q := 46) rfl rfl rfl (fun c43 => ?_) (fun c43 => ?_)
    · skip
      refine wq_aload_n (kk := 0) (q := 63) rfl rfl rfl ?_
      refine wq_getF (q := 66) f_Se_28 rfl rfl (Nat.le_of_ble_eq_true rfl) rfl rfl rfl ?_
      refine wq_iload_n (kk := 1) (q := 67) rfl rfl rfl ?_
      refine wq_iald (q := 68) rfl (Or.inl ⟨rfl, Nat.le_of_ble_eq_true rfl⟩) rfl rfl (by first | omega | (simp [hup]; omega)) (by first | omega | (simp [hup]; omega)) ?_
      refine wq_iconst (n := 1) (q := 69) rfl rfl rfl ?_
      refine wq_iadd (q := 70) rfl rfl (by first | omega | (simp [hup]; omega)) (by first | omega | (simp [hup]; omega)) ?_
      refine wq_aload_n (kk := 0) (q := 71) rfl rfl rfl ?_
      refine wq_getF (q := 74) f_Se_28 rfl rfl (Nat.le_of_ble_eq_true rfl) rfl rfl rfl ?_
      refine wq_iload_n (kk := 3) (q := 75) rfl rfl rfl ?_
      refine wq_iald (q := 76) rfl (Or.inl ⟨rfl, Nat.le_of_ble_eq_true rfl⟩) rfl rfl (by first | omega | (simp [hup]; omega)) (by first | omega | (simp [hup]; omega)) ?_
      refine wq_icmp_eq (tgt := 102) (q := 79) rfl rfl rfl (fun c76 => ?_) (fun c76 => ?_)
      · skip
        refine wq_iload_n (kk := 1) (q := 103) rfl rfl rfl ?_
        refine wq_aload_n (kk := 0) (q := 104) rfl rfl rfl ?_
        refine wq_getF (q := 107) f_Se_31 rfl rfl (Nat.le_of_ble_eq_true rfl) rfl rfl rfl ?_
        refine wq_iload_n (kk := 3) (q := 108) rfl rfl rfl ?_
        refine wq_iald (q := 109) rfl (Or.inl ⟨rfl, Nat.le_of_ble_eq_true rfl⟩) rfl rfl (by first | omega | (simp [hup]; omega)) (by first | omega | (simp [hup]; omega)) ?_
        refine wq_icmp_ge (tgt := 116) (q := 112) rfl rfl rfl (fun c109 => ?_) (fun c109 => ?_)
        · skip
          refine wq_iconst (n := 0) (q := 117) rfl rfl rfl ?_
          refine wq_zret rfl rfl (Nat.le_refl _) (Nat.le_refl _) (by omega) ?_
          first | exact pC_t (by unfold kl; omega) | exact pC_f (by unfold kl; omega)
        · skip
          refine wq_iconst (n := 1) (q := 113) rfl rfl rfl ?_
          refine wq_goto (tgt := 117) rfl rfl ?_
          refine wq_zret rfl rfl (Nat.le_refl _) (Nat.le_refl _) (by omega) ?_
          first | exact pC_t (by unfold kl; omega) | exact pC_f (by unfold kl; omega)
      · skip
        refine wq_aload_n (kk := 0) (q := 80) rfl rfl rfl ?_
        refine wq_getF (q := 83) f_Se_28 rfl rfl (Nat.le_of_ble_eq_true rfl) rfl rfl rfl ?_
        refine wq_iload_n (kk := 1) (q := 84) rfl rfl rfl ?_
        refine wq_iald (q := 85) rfl (Or.inl ⟨rfl, Nat.le_of_ble_eq_true rfl⟩) rfl rfl (by first | omega | (simp [hup]; omega)) (by first | omega | (simp [hup]; omega)) ?_
        refine wq_iconst (n := 1) (q := 86) rfl rfl rfl ?_
        refine wq_iadd (q := 87) rfl rfl (by first | omega | (simp [hup]; omega)) (by first | omega | (simp [hup]; omega)) ?_
        refine wq_aload_n (kk := 0) (q := 88) rfl rfl rfl ?_
        refine wq_getF (q := 91) f_Se_28 rfl rfl (Nat.le_of_ble_eq_true rfl) rfl rfl rfl ?_
        refine wq_iload_n (kk := 3) (q := 92) rfl rfl rfl ?_
        refine wq_iald (q := 93) rfl (Or.inl ⟨rfl, Nat.le_of_ble_eq_true rfl⟩) rfl rfl (by first | omega | (simp [hup]; omega)) (by first | omega | (simp [hup]; omega)) ?_
        refine wq_icmp_ge (tgt := 100) (q := 96) rfl rfl rfl (fun c93 => ?_) (fun c93 => ?_)
        · skip
          refine wq_iconst (n := 0) (q := 101) rfl rfl rfl ?_
          refine wq_zret rfl rfl (Nat.le_refl _) (Nat.le_refl _) (by omega) ?_
          first | exact pC_t (by unfold kl; omega) | exact pC_f (by unfold kl; omega)
        · skip
          refine wq_iconst (n := 1) (q := 97) rfl rfl rfl ?_
          refine wq_goto (tgt := 101) rfl rfl ?_
          refine wq_zret rfl rfl (Nat.le_refl _) (Nat.le_refl _) (by omega) ?_
          first | exact pC_t (by unfold kl; omega) | exact pC_f (by unfold kl; omega)
    · skip
      refine wq_iload_n (kk := 2) (q := 47) rfl rfl rfl ?_
      refine wq_aload_n (kk := 0) (q := 48) rfl rfl rfl ?_
      refine wq_getF (q := 51) f_Se_25 rfl rfl (Nat.le_of_ble_eq_true rfl) rfl rfl rfl ?_
      refine wq_iload_n (kk := 3) (q := 52) rfl rfl rfl ?_
      refine wq_iald (q := 53) rfl (Or.inl ⟨rfl, Nat.le_of_ble_eq_true rfl⟩) rfl rfl (by first | omega | (simp [hup]; omega)) (by first | omega | (simp [hup]; omega)) ?_
      refine wq_icmp_ge (tgt := 60) (q := 56) rfl rfl rfl (fun c53 => ?_) (fun c53 => ?_)
      · skip
        refine wq_iconst (n := 0) (q := 61) rfl rfl rfl ?_
        refine wq_zret rfl rfl (Nat.le_refl _) (Nat.le_refl _) (by omega) ?_
        first | exact pC_t (by unfold kl; omega) | exact pC_f (by unfold kl; omega)
      · skip
        refine wq_iconst (n := 1) (q := 57) rfl rfl rfl ?_
        refine wq_goto (tgt := 61) rfl rfl ?_
        refine wq_zret rfl rfl (Nat.le_refl _) (Nat.le_refl _) (by omega) ?_
        first | exact pC_t (by unfold kl; omega) | exact pC_f (by unfold kl; omega)
  · skip
    refine wq_aload_n (kk := 0) (q := 16) rfl rfl rfl ?_
    refine wq_getF (q := 19) f_Se_22 rfl rfl (Nat.le_of_ble_eq_true rfl) rfl rfl rfl ?_
    refine wq_iload_n (kk := 1) (q := 20) rfl rfl rfl ?_
    refine wq_iald (q := 21) rfl (Or.inl ⟨rfl, Nat.le_of_ble_eq_true rfl⟩) rfl rfl (by first | omega | (simp [hup]; omega)) (by first | omega | (simp [hup]; omega)) ?_
    refine wq_aload_n (kk := 0) (q := 22) rfl rfl rfl ?_
    refine wq_getF (q := 25) f_Se_22 rfl rfl (Nat.le_of_ble_eq_true rfl) rfl rfl rfl ?_
    refine wq_iload_n (kk := 3) (q := 26) rfl rfl rfl ?_
    refine wq_iald (q := 27) rfl (Or.inl ⟨rfl, Nat.le_of_ble_eq_true rfl⟩) rfl rfl (by first | omega | (simp [hup]; omega)) (by first | omega | (simp [hup]; omega)) ?_
    refine wq_icmp_ge (tgt := 34) (q := 30) rfl rfl rfl (fun c27 => ?_) (fun c27 => ?_)
    · skip
      refine wq_iconst (n := 0) (q := 35) rfl rfl rfl ?_
      refine wq_zret rfl rfl (Nat.le_refl _) (Nat.le_refl _) (by omega) ?_
      first | exact pC_t (by unfold kl; omega) | exact pC_f (by unfold kl; omega)
    · skip
      refine wq_iconst (n := 1) (q := 31) rfl rfl rfl ?_
      refine wq_goto (tgt := 35) rfl rfl ?_
      refine wq_zret rfl rfl (Nat.le_refl _) (Nat.le_refl _) (by omega) ?_
      first | exact pC_t (by unfold kl; omega) | exact pC_f (by unfold kl; omega)
def x_offer (h : mH) (d f k : Int) : mH := hup (hup (hup (hup h 44 d (h 44 f)) 45 d k) 46 d (h 46 f + 1)) 47 d f
set_option maxRecDepth 100000 in
set_option maxHeartbeats 1000000 in
theorem Se_offer_ok (d f k : Int) (h : mH) (r : mR) (hf : 0 ≤ f ∧ f < 120) (hd : 0 ≤ d ∧ d < 120) (hb : -1000 ≤ h 46 f ∧ h 46 f ≤ 1000) : Meets true (rm 2) m_Se_offer [vR 40, vI d, vI f, vI k] h r (fun rv h1 r1 => rv = none ∧ r1 = r ∧ (kl (h 44 f) k (h 46 f + 1) f (h 44 d) (h 45 d) (h 46 d) (h 47 d) ∧ h1 = x_offer h d f k ∨ ¬ kl (h 44 f) k (h 46 f + 1) f (h 44 d) (h 45 d) (h 46 d) (h 47 d) ∧ h1 = h)) := by
  refine ⟨ok_Se_offer, Nat.le_of_ble_eq_true rfl, ?_⟩
  refine wq_aload_n (kk := 0) (q := 1) rfl rfl rfl ?_
  refine wq_iload_n (kk := 2) (q := 2) rfl rfl rfl ?_
  refine wq_iload_n (kk := 3) (q := 3) rfl rfl rfl ?_
  refine wq_iload_n (kk := 1) (q := 4) rfl rfl rfl ?_
  refine wq_callV (q := 7) (m' := m_Se_isBetter) (R' := rm 1) (As := [_, _, _]) rfl rfl l_Se_107 vm_Se_isBetter rfl rfl rfl (Or.inl ⟨rfl, Nat.le_of_ble_eq_true rfl⟩) (Nat.le_of_ble_eq_true rfl) (Nat.le_of_ble_eq_true rfl) (Nat.le_refl _) (Nat.le_refl _) (Nat.le_of_ble_eq_true rfl) (Se_isBetter_ok f k d h r hf hd hb) rfl ?_
  rintro rv h' r' ⟨rfl, rfl, rfl⟩ -
  refine wq_cif_eq (tgt := 50) (q := 10) rfl rfl rfl (fun c7 => ?_) (fun c7 => ?_)
  · skip
    refine wq_vret rfl rfl (Nat.le_refl _) (Nat.le_refl _) ?_
    first
      | exact ⟨rfl, rfl, Or.inl ⟨c7, rfl⟩⟩
      | exact ⟨rfl, rfl, Or.inr ⟨c7, rfl⟩⟩
  · skip
    refine wq_aload_n (kk := 0) (q := 11) rfl rfl rfl ?_
    refine wq_getF (q := 14) f_Se_22 rfl rfl (Nat.le_of_ble_eq_true rfl) rfl rfl rfl ?_
    refine wq_iload_n (kk := 1) (q := 15) rfl rfl rfl ?_
    refine wq_aload_n (kk := 0) (q := 16) rfl rfl rfl ?_
    refine wq_getF (q := 19) f_Se_22 rfl rfl (Nat.le_of_ble_eq_true rfl) rfl rfl rfl ?_
    refine wq_iload_n (kk := 2) (q := 20) rfl rfl rfl ?_
    refine wq_iald (q := 21) rfl (Or.inl ⟨rfl, Nat.le_of_ble_eq_true rfl⟩) rfl rfl (by first | omega | (simp [hup]; omega)) (by first | omega | (simp [hup]; omega)) ?_
    refine wq_iast (q := 22) rfl (Or.inl ⟨rfl, Nat.le_of_ble_eq_true rfl⟩) rfl rfl (by first | omega | (simp [hup]; omega)) (by first | omega | (simp [hup]; omega)) ?_
    refine wq_aload_n (kk := 0) (q := 23) rfl rfl rfl ?_
    refine wq_getF (q := 26) f_Se_25 rfl rfl (Nat.le_of_ble_eq_true rfl) rfl rfl rfl ?_
    refine wq_iload_n (kk := 1) (q := 27) rfl rfl rfl ?_
    refine wq_iload_n (kk := 3) (q := 28) rfl rfl rfl ?_
    refine wq_iast (q := 29) rfl (Or.inl ⟨rfl, Nat.le_of_ble_eq_true rfl⟩) rfl rfl (by first | omega | (simp [hup]; omega)) (by first | omega | (simp [hup]; omega)) ?_
    refine wq_aload_n (kk := 0) (q := 30) rfl rfl rfl ?_
    refine wq_getF (q := 33) f_Se_28 rfl rfl (Nat.le_of_ble_eq_true rfl) rfl rfl rfl ?_
    refine wq_iload_n (kk := 1) (q := 34) rfl rfl rfl ?_
    refine wq_aload_n (kk := 0) (q := 35) rfl rfl rfl ?_
    refine wq_getF (q := 38) f_Se_28 rfl rfl (Nat.le_of_ble_eq_true rfl) rfl rfl rfl ?_
    refine wq_iload_n (kk := 2) (q := 39) rfl rfl rfl ?_
    refine wq_iald (q := 40) rfl (Or.inl ⟨rfl, Nat.le_of_ble_eq_true rfl⟩) rfl rfl (by first | omega | (simp [hup]; omega)) (by first | omega | (simp [hup]; omega)) ?_
    refine wq_iconst (n := 1) (q := 41) rfl rfl rfl ?_
    refine wq_iadd (q := 42) rfl rfl (by first | omega | (simp [hup]; omega)) (by first | omega | (simp [hup]; omega)) ?_
    refine wq_iast (q := 43) rfl (Or.inl ⟨rfl, Nat.le_of_ble_eq_true rfl⟩) rfl rfl (by first | omega | (simp [hup]; omega)) (by first | omega | (simp [hup]; omega)) ?_
    refine wq_aload_n (kk := 0) (q := 44) rfl rfl rfl ?_
    refine wq_getF (q := 47) f_Se_31 rfl rfl (Nat.le_of_ble_eq_true rfl) rfl rfl rfl ?_
    refine wq_iload_n (kk := 1) (q := 48) rfl rfl rfl ?_
    refine wq_iload_n (kk := 2) (q := 49) rfl rfl rfl ?_
    refine wq_iast (q := 50) rfl (Or.inl ⟨rfl, Nat.le_of_ble_eq_true rfl⟩) rfl rfl (by first | omega | (simp [hup]; omega)) (by first | omega | (simp [hup]; omega)) ?_
    refine wq_vret rfl rfl (Nat.le_refl _) (Nat.le_refl _) ?_
    first
      | exact ⟨rfl, rfl, Or.inl ⟨c7, rfl⟩⟩
      | exact ⟨rfl, rfl, Or.inr ⟨c7, rfl⟩⟩
abbrev seC : List Nat := [44, 45, 46, 47]
/-- only what stands at d has changed -/
def sd (h h1 : mH) (d : Int) : Prop := fr seC h h1 ∧ ∀ a i, i ≠ d → h1 a i = h a i
theorem sd.rf {h : mH} {d : Int} : sd h h d := ⟨fr.rf, fun _ _ _ => rfl⟩
theorem sd.up {h h1 : mH} {d v : Int} {a : Nat} (hs : sd h h1 d) (ha : a ∈ seC) : sd h (hup h1 a d v) d := ⟨hs.1.up ha, fun b i hi => by rw [hup_j hi]; exact hs.2 b i hi⟩
/-- what is told of the labels behind d -/
def bh (N : mN) (h : mH) (d : Int) : Prop := ∀ f, dp N f → J N d f → frm N f = dst N d → (rn N f ≠ 1 → h 44 f = 1000000) ∧ (h 44 f = 1000000 ∨ (0 ≤ h 44 f ∧ h 44 f ≤ 1700) ∧ 0 ≤ h 45 f ∧ h 45 f < h 46 f ∧ h 46 f ≤ 120)
set_option maxRecDepth 100000 in
set_option maxHeartbeats 4000000 in
theorem Se_aimA (N : mN) (d b : Int) (h : mH) (r : mR) (hw : netW h r N) (hd : dp N d) (hb : dst N d ≠ b) (hh : bh N h d) : ∀ (M : Nat) (p : Int) (h' : mH) (z : Option mV), (h 37 (dst N d + 1) - p).toNat = M → h 37 (dst N d) ≤ p → p ≤ h 37 (dst N d + 1) → sd h h' d → Lm N 1000000 (h' 44) (h' 45) (h' 46) (h' 47) (fun f => ∃ q, h 37 (dst N d) ≤ q ∧ q < p ∧ h 36 q = f) d → WP (true, rm 3) m_Se_aimFrom (rt m_Se_aimFrom (rm 3) (fun rv h1 r1 => rv = none ∧ r1 = r ∧ sd h h1 d ∧ LabAt N b 1000000 (h1 44) (h1 45) (h1 46) (h1 47) d)) 53 [some (vR 40), some (vR 31), some (vI d), some (vI b), some (vI (dst N d)), some (vI p), z] [] h' r (0, 0) := by
  intro M
  induction M using Nat.strongRecOn with
  | ind M ih =>
    intro p h' z hM p0 p1 hs hL
    obtain ⟨hnde, hV, hN, hO, hG⟩ := id hw
    have hve := hV.2.2.1 d hd
    have hn := hV.1
    have hS := hV.2.1
    have hd0 := hd.1
    have hd1 := hd.2
    have g1 := hG.1 (dst N d) (by omega) (by omega)
    have hw' : netW h' r N := hw.fr hs.1 (by decide)
    have e37 : h' 37 = h 37 := hs.1 37 (by decide)
    have e36 : h' 36 = h 36 := hs.1 36 (by decide)
    have gd : p < h 37 (dst N d + 1) → dp N (h 36 p) ∧ frm N (h 36 p) = dst N d := fun y => hG.2.1 (dst N d) p (by omega) (by omega) p0 y
    have same : ∀ a, J N d (h 36 p) → h' a (h 36 p) = h a (h 36 p) := fun a hj => hs.2 a _ (J.ne hV hd hj)
    have hbh : p < h 37 (dst N d + 1) → J N d (h 36 p) → (rn N (h 36 p) ≠ 1 → h 44 (h 36 p) = 1000000) ∧ (h 44 (h 36 p) = 1000000 ∨ (0 ≤ h 44 (h 36 p) ∧ h 44 (h 36 p) ≤ 1700) ∧ 0 ≤ h 45 (h 36 p) ∧ h 45 (h 36 p) < h 46 (h 36 p) ∧ h 46 (h 36 p) ≤ 120) := fun y hj => hh _ (gd y).1 hj (gd y).2
    have skip : (∀ f, Cd N 1000000 (h' 44) d f → f ≠ h 36 p) → Lm N 1000000 (h' 44) (h' 45) (h' 46) (h' 47) (fun f => ∃ q, h 37 (dst N d) ≤ q ∧ q < p + 1 ∧ h 36 q = f) d := fun hz => by
      refine hL.congr ⟨rfl, rfl, rfl, rfl⟩ (fun _ _ _ => ⟨rfl, rfl, rfl⟩) (fun f hc => ⟨fun ⟨q, q0, q1, q2⟩ => ?_, fun ⟨q, q0, q1, q2⟩ => ⟨q, q0, by omega, q2⟩⟩)
      by_cases eq : q = p
      · subst eq; exact absurd q2.symm (hz f hc)
      · exact ⟨q, q0, by omega, q2⟩
    refine wq_iload (i := 5) (q := 55) rfl rfl rfl ?_
    refine wq_aload_n (kk := 1) (q := 56) rfl rfl rfl ?_
    refine wq_getF (q := 59) f_Se_94 rfl rfl (Nat.le_of_ble_eq_true rfl) rfl rfl rfl ?_
    refine wq_iload (i := 4) (q := 61) rfl rfl rfl ?_
    refine wq_iconst (n := 1) (q := 62) rfl rfl rfl ?_
    refine wq_iadd (q := 63) rfl rfl (by first | omega | (rw [e37]; omega) | (have y := gd (by omega); have y1 := y.1.1; have y2 := y.1.2; have y3 := hbh (by omega) c83; have y4 := same 44 c83; have y5 := same 45 c83; have y6 := same 46 c83; omega) | (have y := gd (by omega); have y1 := y.1.1; have y2 := y.1.2; first | omega | (rw [e36]; omega))) (by first | omega | (rw [e37]; omega) | (have y := gd (by omega); have y1 := y.1.1; have y2 := y.1.2; have y3 := hbh (by omega) c83; have y4 := same 44 c83; have y5 := same 45 c83; have y6 := same 46 c83; omega) | (have y := gd (by omega); have y1 := y.1.1; have y2 := y.1.2; first | omega | (rw [e36]; omega))) ?_
    refine wq_iald (q := 64) rfl (Or.inl ⟨rfl, Nat.le_of_ble_eq_true rfl⟩) rfl rfl (by first | omega | (rw [e37]; omega) | (have y := gd (by omega); have y1 := y.1.1; have y2 := y.1.2; have y3 := hbh (by omega) c83; have y4 := same 44 c83; have y5 := same 45 c83; have y6 := same 46 c83; omega) | (have y := gd (by omega); have y1 := y.1.1; have y2 := y.1.2; first | omega | (rw [e36]; omega))) (by first | omega | (rw [e37]; omega) | (have y := gd (by omega); have y1 := y.1.1; have y2 := y.1.2; have y3 := hbh (by omega) c83; have y4 := same 44 c83; have y5 := same 45 c83; have y6 := same 46 c83; omega) | (have y := gd (by omega); have y1 := y.1.1; have y2 := y.1.2; first | omega | (rw [e36]; omega))) ?_
    rw [e37]
    refine wq_icmp_ge (tgt := 134) (q := 67) rfl rfl rfl (fun c64 => ?_) (fun c64 => ?_)
    · skip
      refine wq_vret rfl rfl (Nat.le_refl _) (Nat.le_refl _) ⟨rfl, rfl, hs, fun y => absurd y hb, fun _ => hL.congr ⟨rfl, rfl, rfl, rfl⟩ (fun _ _ _ => ⟨rfl, rfl, rfl⟩) (fun f hc => ⟨fun _ => ?_, fun _ => trivial⟩)⟩
      obtain ⟨q, q0, q1, q2⟩ := hG.2.2.1 f hc.1
      rw [hc.2.2.2.1] at q0 q1
      exact ⟨q, q0, by omega, q2⟩
    · skip
      refine wq_aload_n (kk := 1) (q := 68) rfl rfl rfl ?_
      refine wq_getF (q := 71) f_Se_97 rfl rfl (Nat.le_of_ble_eq_true rfl) rfl rfl rfl ?_
      refine wq_iload (i := 5) (q := 73) rfl rfl rfl ?_
      refine wq_iald (q := 74) rfl (Or.inl ⟨rfl, Nat.le_of_ble_eq_true rfl⟩) rfl rfl (by first | omega | (rw [e37]; omega) | (have y := gd (by omega); have y1 := y.1.1; have y2 := y.1.2; have y3 := hbh (by omega) c83; have y4 := same 44 c83; have y5 := same 45 c83; have y6 := same 46 c83; omega) | (have y := gd (by omega); have y1 := y.1.1; have y2 := y.1.2; first | omega | (rw [e36]; omega))) (by first | omega | (rw [e37]; omega) | (have y := gd (by omega); have y1 := y.1.1; have y2 := y.1.2; have y3 := hbh (by omega) c83; have y4 := same 44 c83; have y5 := same 45 c83; have y6 := same 46 c83; omega) | (have y := gd (by omega); have y1 := y.1.1; have y2 := y.1.2; first | omega | (rw [e36]; omega))) ?_
      rw [e36]
      refine wq_istore (i := 6) (q := 76) rfl rfl (Nat.le_of_ble_eq_true rfl) rfl ?_
      refine wq_aload_n (kk := 1) (q := 77) rfl rfl rfl ?_
      refine wq_iload_n (kk := 2) (q := 78) rfl rfl rfl ?_
      refine wq_iload (i := 6) (q := 80) rfl rfl rfl ?_
      refine wq_callV (q := 83) (m' := m_Ne_joins) (R' := rm 2) (As := [_, _]) rfl rfl l_Se_100 vm_Ne_joins rfl rfl rfl (Or.inl ⟨rfl, Nat.le_of_ble_eq_true rfl⟩) (Nat.le_of_ble_eq_true rfl) (Nat.le_of_ble_eq_true rfl) (Nat.le_refl _) (Nat.le_refl _) (Nat.le_of_ble_eq_true rfl) (Ne_joins_ok N d (h 36 p) h' r hnde hV hw'.2.2.1 hd (gd (by omega)).1) rfl ?_
      rintro rv h' r' ⟨rfl, rfl, rfl⟩ -
      refine wq_cif_eq (tgt := 128) (q := 86) rfl rfl rfl (fun c83 => ?_) (fun c83 => ?_)
      · skip
        refine wq_iinc (i := 5) (n := 1) (q := 131) rfl rfl rfl (Nat.le_of_ble_eq_true rfl) rfl (by first | omega | (rw [e37]; omega) | (have y := gd (by omega); have y1 := y.1.1; have y2 := y.1.2; have y3 := hbh (by omega) c83; have y4 := same 44 c83; have y5 := same 45 c83; have y6 := same 46 c83; omega) | (have y := gd (by omega); have y1 := y.1.1; have y2 := y.1.2; first | omega | (rw [e36]; omega))) (by first | omega | (rw [e37]; omega) | (have y := gd (by omega); have y1 := y.1.1; have y2 := y.1.2; have y3 := hbh (by omega) c83; have y4 := same 44 c83; have y5 := same 45 c83; have y6 := same 46 c83; omega) | (have y := gd (by omega); have y1 := y.1.1; have y2 := y.1.2; first | omega | (rw [e36]; omega))) ?_
        refine wq_goto (tgt := 53) rfl rfl ?_
        refine ih _ ?_ (p + 1) _ _ rfl (by omega) (by omega) hs (skip (fun f hc e => ?_))
        · omega
        · subst e
          first
            | exact absurd hc.2.2.1 c83
            | (have y3 := hbh (by omega) hc.2.2.1
               have y4 := same 44 hc.2.2.1
               have := hc.2.2.2.2
               omega)
      · skip
        refine wq_aload_n (kk := 0) (q := 87) rfl rfl rfl ?_
        refine wq_getF (q := 90) f_Se_22 rfl rfl (Nat.le_of_ble_eq_true rfl) rfl rfl rfl ?_
        refine wq_iload (i := 6) (q := 92) rfl rfl rfl ?_
        refine wq_iald (q := 93) rfl (Or.inl ⟨rfl, Nat.le_of_ble_eq_true rfl⟩) rfl rfl (by first | omega | (rw [e37]; omega) | (have y := gd (by omega); have y1 := y.1.1; have y2 := y.1.2; have y3 := hbh (by omega) c83; have y4 := same 44 c83; have y5 := same 45 c83; have y6 := same 46 c83; omega) | (have y := gd (by omega); have y1 := y.1.1; have y2 := y.1.2; first | omega | (rw [e36]; omega))) (by first | omega | (rw [e37]; omega) | (have y := gd (by omega); have y1 := y.1.1; have y2 := y.1.2; have y3 := hbh (by omega) c83; have y4 := same 44 c83; have y5 := same 45 c83; have y6 := same 46 c83; omega) | (have y := gd (by omega); have y1 := y.1.1; have y2 := y.1.2; first | omega | (rw [e36]; omega))) ?_
        refine wq_ldc (n := 1000000) (q := 95) k_Se_79 rfl rfl rfl ?_
        refine wq_icmp_ge (tgt := 128) (q := 98) rfl rfl rfl (fun c95 => ?_) (fun c95 => ?_)
        · skip
          refine wq_iinc (i := 5) (n := 1) (q := 131) rfl rfl rfl (Nat.le_of_ble_eq_true rfl) rfl (by first | omega | (rw [e37]; omega) | (have y := gd (by omega); have y1 := y.1.1; have y2 := y.1.2; have y3 := hbh (by omega) c83; have y4 := same 44 c83; have y5 := same 45 c83; have y6 := same 46 c83; omega) | (have y := gd (by omega); have y1 := y.1.1; have y2 := y.1.2; first | omega | (rw [e36]; omega))) (by first | omega | (rw [e37]; omega) | (have y := gd (by omega); have y1 := y.1.1; have y2 := y.1.2; have y3 := hbh (by omega) c83; have y4 := same 44 c83; have y5 := same 45 c83; have y6 := same 46 c83; omega) | (have y := gd (by omega); have y1 := y.1.1; have y2 := y.1.2; first | omega | (rw [e36]; omega))) ?_
          refine wq_goto (tgt := 53) rfl rfl ?_
          refine ih _ ?_ (p + 1) _ _ rfl (by omega) (by omega) hs (skip (fun f hc e => ?_))
          · omega
          · subst e
            first
              | exact absurd hc.2.2.1 c83
              | (have y3 := hbh (by omega) hc.2.2.1
                 have y4 := same 44 hc.2.2.1
                 have := hc.2.2.2.2
                 omega)
        · skip
          refine wq_aload_n (kk := 0) (q := 99) rfl rfl rfl ?_
          refine wq_iload_n (kk := 2) (q := 100) rfl rfl rfl ?_
          refine wq_iload (i := 6) (q := 102) rfl rfl rfl ?_
          refine wq_aload_n (kk := 0) (q := 103) rfl rfl rfl ?_
          refine wq_getF (q := 106) f_Se_25 rfl rfl (Nat.le_of_ble_eq_true rfl) rfl rfl rfl ?_
          refine wq_iload (i := 6) (q := 108) rfl rfl rfl ?_
          refine wq_iald (q := 109) rfl (Or.inl ⟨rfl, Nat.le_of_ble_eq_true rfl⟩) rfl rfl (by first | omega | (rw [e37]; omega) | (have y := gd (by omega); have y1 := y.1.1; have y2 := y.1.2; have y3 := hbh (by omega) c83; have y4 := same 44 c83; have y5 := same 45 c83; have y6 := same 46 c83; omega) | (have y := gd (by omega); have y1 := y.1.1; have y2 := y.1.2; first | omega | (rw [e36]; omega))) (by first | omega | (rw [e37]; omega) | (have y := gd (by omega); have y1 := y.1.1; have y2 := y.1.2; have y3 := hbh (by omega) c83; have y4 := same 44 c83; have y5 := same 45 c83; have y6 := same 46 c83; omega) | (have y := gd (by omega); have y1 := y.1.1; have y2 := y.1.2; first | omega | (rw [e36]; omega))) ?_
          refine wq_aload_n (kk := 1) (q := 110) rfl rfl rfl ?_
          refine wq_iload_n (kk := 2) (q := 111) rfl rfl rfl ?_
          refine wq_iload (i := 6) (q := 113) rfl rfl rfl ?_
          refine wq_callV (q := 116) (m' := m_Ne_isTurn) (R' := rm 1) (As := [_, _]) rfl rfl l_Se_68 vm_Ne_isTurn rfl rfl rfl (Or.inl ⟨rfl, Nat.le_of_ble_eq_true rfl⟩) (Nat.le_of_ble_eq_true rfl) (Nat.le_of_ble_eq_true rfl) (Nat.le_refl _) (Nat.le_refl _) (Nat.le_of_ble_eq_true rfl) (Ne_isTurn_ok N d (h 36 p) h' r' hnde hV hw'.2.2.1 hd (gd (by omega)).1) rfl ?_
          rintro rv h' r' ⟨rfl, rfl, rfl⟩ -
          refine wq_cif_eq (tgt := 123) (q := 119) rfl rfl rfl (fun c116 => ?_) (fun c116 => ?_)
          · skip
            refine wq_iconst (n := 0) (q := 124) rfl rfl rfl ?_
            have y1 := (gd (by omega)).1.1
            have y2 := (gd (by omega)).1.2
            have y3 := hbh (by omega) c83
            have y4 := same 44 c83
            have y5 := same 45 c83
            have y6 := same 46 c83
            have ht : ∃ k, k = h' 45 (h 36 p) + tn N d (h 36 p) := ⟨_, rfl⟩
            obtain ⟨k, hk⟩ := ht
            have hrn : rn N (h 36 p) = 1 := by
              rcases (hV.2.2.1 _ (gd (by omega)).1).2.2.2.2 with q | q
              · have := y3.1 (by omega); omega
              · exact q
            have hcd : Cd N 1000000 (h' 44) d (h 36 p) := ⟨(gd (by omega)).1, hrn, c83, (gd (by omega)).2, by omega⟩
            refine wq_iadd (q := 125) rfl rfl (by omega) (by omega) ?_
            rw [show ∀ (A B : Int), A = h' 45 (h 36 p) → B = tn N d (h 36 p) → A + B = k from fun A B h1 h2 => by rw [h1, h2, hk]] <;> first | rfl | (unfold tn; first | (rw [if_pos (Classical.byContradiction fun q => c116 q)]; done) | (rw [if_neg c116]; done)) | skip
            refine wq_callV (q := 128) (m' := m_Se_offer) (R' := rm 2) (As := [_, _, _]) rfl rfl l_Se_103 vm_Se_offer rfl rfl rfl (Or.inl ⟨rfl, Nat.le_of_ble_eq_true rfl⟩) (Nat.le_of_ble_eq_true rfl) (Nat.le_of_ble_eq_true rfl) (Nat.le_refl _) (Nat.le_refl _) (Nat.le_of_ble_eq_true rfl) (Se_offer_ok d (h 36 p) k h' r' (by omega) (by omega) (by omega)) rfl ?_
            rintro rv h3 r3 ⟨rfl, rfl, hcase⟩ -
            refine wq_iinc (i := 5) (n := 1) (q := 131) rfl rfl rfl (Nat.le_of_ble_eq_true rfl) rfl (by omega) (by omega) ?_
            refine wq_goto (tgt := 53) rfl rfl ?_
            have hne : h 36 p ≠ d := J.ne hV hd c83
            rcases hcase with ⟨hk1, rfl⟩ | ⟨hk1, rfl⟩
            · have hs3 : sd h (x_offer h' d (h 36 p) k) d := (((hs.up (by decide)).up (by decide)).up (by decide)).up (by decide)
              refine ih _ ?_ (p + 1) _ _ rfl (by omega) (by omega) hs3 (Or.inr ⟨h 36 p, ⟨p, p0, by omega, rfl⟩, ?_, ?_, ?_, ?_, ?_, ?_⟩)
              · omega
              · refine ⟨hcd.1, hcd.2.1, hcd.2.2.1, hcd.2.2.2.1, ?_⟩
                simp [x_offer, hup, hne]; omega
              · simp [x_offer, hup]
              · simp [x_offer, hup, hne]
              · simp [x_offer, hup, hne]; exact hk
              · simp [x_offer, hup, hne]
              · rintro g ⟨q, q0, q1, q2⟩ hcg hgne
                have gne : g ≠ d := J.ne hV hd hcg.2.2.1
                have hcg' : Cd N 1000000 (h' 44) d g := ⟨hcg.1, hcg.2.1, hcg.2.2.1, hcg.2.2.2.1, by have := hcg.2.2.2.2; simpa [x_offer, hup, gne] using this⟩
                simp [x_offer, hup, hne, gne]
                rw [← hk]
                have hgq : q < p := by
                  rcases (show q < p ∨ q = p by omega) with y | y
                  · exact y
                  · subst y; exact absurd q2.symm hgne
                rcases hL with ⟨w1, w2, -⟩ | ⟨w, -, w1, w2, w3, w4, w5, w6⟩
                · exact absurd hcg' (w1 g ⟨q, q0, hgq, q2⟩)
                · have base : kl (h' 44 (h 36 p)) k (h' 46 (h 36 p)) (h 36 p) (h' 44 w) (h' 45 w + tn N d w) (h' 46 w) w := by
                    rw [w3, w4, w5, w2] at hk1
                    unfold kl at hk1 ⊢
                    omega
                  by_cases gw : g = w
                  · subst gw; exact base
                  · exact base.trans (w6 g ⟨q, q0, hgq, q2⟩ hcg' gw)
            · refine ih _ ?_ (p + 1) _ _ rfl (by omega) (by omega) hs ?_
              · omega
              · rcases hL with ⟨w1, w2, w3⟩ | ⟨w, w0, w1, w2, w3, w4, w5, w6⟩
                · exfalso
                  apply hk1
                  unfold kl
                  omega
                · obtain ⟨q, q0, q1, q2⟩ := w0
                  refine Or.inr ⟨w, ⟨q, q0, by omega, q2⟩, w1, w2, w3, w4, w5, ?_⟩
                  rintro g ⟨q', q0', q1', q2'⟩ hcg hgne
                  by_cases y : q' = p
                  · subst y
                    rw [← q2']
                    have wne : h 36 q' ≠ w := by rw [q2']; exact hgne
                    rw [w3, w4, w5, w2] at hk1
                    rw [← hk]
                    unfold kl at hk1 ⊢
                    omega
                  · exact w6 g ⟨q', q0', by omega, q2'⟩ hcg hgne
          · skip
            refine wq_iconst (n := 1) (q := 120) rfl rfl rfl ?_
            refine wq_goto (tgt := 124) rfl rfl ?_
            have y1 := (gd (by omega)).1.1
            have y2 := (gd (by omega)).1.2
            have y3 := hbh (by omega) c83
            have y4 := same 44 c83
            have y5 := same 45 c83
            have y6 := same 46 c83
            have ht : ∃ k, k = h' 45 (h 36 p) + tn N d (h 36 p) := ⟨_, rfl⟩
            obtain ⟨k, hk⟩ := ht
            have hrn : rn N (h 36 p) = 1 := by
              rcases (hV.2.2.1 _ (gd (by omega)).1).2.2.2.2 with q | q
              · have := y3.1 (by omega); omega
              · exact q
            have hcd : Cd N 1000000 (h' 44) d (h 36 p) := ⟨(gd (by omega)).1, hrn, c83, (gd (by omega)).2, by omega⟩
            refine wq_iadd (q := 125) rfl rfl (by omega) (by omega) ?_
            rw [show ∀ (A B : Int), A = h' 45 (h 36 p) → B = tn N d (h 36 p) → A + B = k from fun A B h1 h2 => by rw [h1, h2, hk]] <;> first | rfl | (unfold tn; first | (rw [if_pos (Classical.byContradiction fun q => c116 q)]; done) | (rw [if_neg c116]; done)) | skip
            refine wq_callV (q := 128) (m' := m_Se_offer) (R' := rm 2) (As := [_, _, _]) rfl rfl l_Se_103 vm_Se_offer rfl rfl rfl (Or.inl ⟨rfl, Nat.le_of_ble_eq_true rfl⟩) (Nat.le_of_ble_eq_true rfl) (Nat.le_of_ble_eq_true rfl) (Nat.le_refl _) (Nat.le_refl _) (Nat.le_of_ble_eq_true rfl) (Se_offer_ok d (h 36 p) k h' r' (by omega) (by omega) (by omega)) rfl ?_
            rintro rv h3 r3 ⟨rfl, rfl, hcase⟩ -
            refine wq_iinc (i := 5) (n := 1) (q := 131) rfl rfl rfl (Nat.le_of_ble_eq_true rfl) rfl (by omega) (by omega) ?_
            refine wq_goto (tgt := 53) rfl rfl ?_
            have hne : h 36 p ≠ d := J.ne hV hd c83
            rcases hcase with ⟨hk1, rfl⟩ | ⟨hk1, rfl⟩
            · have hs3 : sd h (x_offer h' d (h 36 p) k) d := (((hs.up (by decide)).up (by decide)).up (by decide)).up (by decide)
              refine ih _ ?_ (p + 1) _ _ rfl (by omega) (by omega) hs3 (Or.inr ⟨h 36 p, ⟨p, p0, by omega, rfl⟩, ?_, ?_, ?_, ?_, ?_, ?_⟩)
              · omega
              · refine ⟨hcd.1, hcd.2.1, hcd.2.2.1, hcd.2.2.2.1, ?_⟩
                simp [x_offer, hup, hne]; omega
              · simp [x_offer, hup]
              · simp [x_offer, hup, hne]
              · simp [x_offer, hup, hne]; exact hk
              · simp [x_offer, hup, hne]
              · rintro g ⟨q, q0, q1, q2⟩ hcg hgne
                have gne : g ≠ d := J.ne hV hd hcg.2.2.1
                have hcg' : Cd N 1000000 (h' 44) d g := ⟨hcg.1, hcg.2.1, hcg.2.2.1, hcg.2.2.2.1, by have := hcg.2.2.2.2; simpa [x_offer, hup, gne] using this⟩
                simp [x_offer, hup, hne, gne]
                rw [← hk]
                have hgq : q < p := by
                  rcases (show q < p ∨ q = p by omega) with y | y
                  · exact y
                  · subst y; exact absurd q2.symm hgne
                rcases hL with ⟨w1, w2, -⟩ | ⟨w, -, w1, w2, w3, w4, w5, w6⟩
                · exact absurd hcg' (w1 g ⟨q, q0, hgq, q2⟩)
                · have base : kl (h' 44 (h 36 p)) k (h' 46 (h 36 p)) (h 36 p) (h' 44 w) (h' 45 w + tn N d w) (h' 46 w) w := by
                    rw [w3, w4, w5, w2] at hk1
                    unfold kl at hk1 ⊢
                    omega
                  by_cases gw : g = w
                  · subst gw; exact base
                  · exact base.trans (w6 g ⟨q, q0, hgq, q2⟩ hcg' gw)
            · refine ih _ ?_ (p + 1) _ _ rfl (by omega) (by omega) hs ?_
              · omega
              · rcases hL with ⟨w1, w2, w3⟩ | ⟨w, w0, w1, w2, w3, w4, w5, w6⟩
                · exfalso
                  apply hk1
                  unfold kl
                  omega
                · obtain ⟨q, q0, q1, q2⟩ := w0
                  refine Or.inr ⟨w, ⟨q, q0, by omega, q2⟩, w1, w2, w3, w4, w5, ?_⟩
                  rintro g ⟨q', q0', q1', q2'⟩ hcg hgne
                  by_cases y : q' = p
                  · subst y
                    rw [← q2']
                    have wne : h 36 q' ≠ w := by rw [q2']; exact hgne
                    rw [w3, w4, w5, w2] at hk1
                    rw [← hk]
                    unfold kl at hk1 ⊢
                    omega
                  · exact w6 g ⟨q', q0', by omega, q2'⟩ hcg hgne

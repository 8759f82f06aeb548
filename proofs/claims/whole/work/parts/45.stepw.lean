/-! LinkTimes$Steps: cell 54; starts 55, ends 56, turns 57, the latest first -/
abbrev spC : List Nat := [54, 55, 56, 57]
def stI (N : mN) (a : Int) (e t : mF) (Q : Int → Prop) (h : mH) : Prop := StR N a 1000000 e t Q (h 54 0) (h 55) (h 56) (h 57)
set_option maxRecDepth 100000 in
set_option maxHeartbeats 1000000 in
theorem St_put (L A T : Int) (x : mV) (h : mH) (r : mR) (Q : mP) (hc : 0 ≤ h 54 0 ∧ h 54 0 < 120) (K : ∀ h1, fr spC h h1 → h1 54 0 = h 54 0 + 1 → (∀ k, k ≠ h 54 0 → h1 55 k = h 55 k ∧ h1 56 k = h 56 k ∧ h1 57 k = h 57 k) → (h1 55 (h 54 0) = L ∧ h1 56 (h 54 0) = A ∧ h1 57 (h 54 0) = T) → Q none h1 r) : WP (true, rm 2) m_St_consider (rt m_St_consider (rm 2) Q) 113 [some (vR 54), some (vI L), some (vI A), some (vI T), some x] [] h r (0, 0) := by
  refine wq_aload_n (kk := 0) (q := 114) rfl rfl rfl ?_
  refine wq_getF (q := 117) f_St_9 rfl rfl (Nat.le_of_ble_eq_true rfl) rfl rfl rfl ?_
  refine wq_aload_n (kk := 0) (q := 118) rfl rfl rfl ?_
  refine wq_getI (kz := 0) (q := 121) rfl f_St_21 rfl rfl (Or.inl ⟨rfl, Nat.le_of_ble_eq_true rfl⟩) rfl rfl ?_
  refine wq_iload_n (kk := 1) (q := 122) rfl rfl rfl ?_
  refine wq_iast (q := 123) rfl (Or.inl ⟨rfl, Nat.le_of_ble_eq_true rfl⟩) rfl rfl (by first | omega | (simp [hup]; omega)) (by first | omega | (simp [hup]; omega)) ?_
  refine wq_aload_n (kk := 0) (q := 124) rfl rfl rfl ?_
  refine wq_getF (q := 127) f_St_15 rfl rfl (Nat.le_of_ble_eq_true rfl) rfl rfl rfl ?_
  refine wq_aload_n (kk := 0) (q := 128) rfl rfl rfl ?_
  refine wq_getI (kz := 0) (q := 131) rfl f_St_21 rfl rfl (Or.inl ⟨rfl, Nat.le_of_ble_eq_true rfl⟩) rfl rfl ?_
  refine wq_iload_n (kk := 2) (q := 132) rfl rfl rfl ?_
  refine wq_iast (q := 133) rfl (Or.inl ⟨rfl, Nat.le_of_ble_eq_true rfl⟩) rfl rfl (by first | omega | (simp [hup]; omega)) (by first | omega | (simp [hup]; omega)) ?_
  refine wq_aload_n (kk := 0) (q := 134) rfl rfl rfl ?_
  refine wq_getF (q := 137) f_St_18 rfl rfl (Nat.le_of_ble_eq_true rfl) rfl rfl rfl ?_
  refine wq_aload_n (kk := 0) (q := 138) rfl rfl rfl ?_
  refine wq_getI (kz := 0) (q := 141) rfl f_St_21 rfl rfl (Or.inl ⟨rfl, Nat.le_of_ble_eq_true rfl⟩) rfl rfl ?_
  refine wq_iload_n (kk := 3) (q := 142) rfl rfl rfl ?_
  refine wq_iast (q := 143) rfl (Or.inl ⟨rfl, Nat.le_of_ble_eq_true rfl⟩) rfl rfl (by first | omega | (simp [hup]; omega)) (by first | omega | (simp [hup]; omega)) ?_
  refine wq_aload_n (kk := 0) (q := 144) rfl rfl rfl ?_
  refine wq_dup (q := 145) rfl rfl rfl ?_
  refine wq_getI (kz := 0) (q := 148) rfl f_St_21 rfl rfl (Or.inl ⟨rfl, Nat.le_of_ble_eq_true rfl⟩) rfl rfl ?_
  refine wq_iconst (n := 1) (q := 149) rfl rfl rfl ?_
  refine wq_iadd (q := 150) rfl rfl (by first | omega | (simp [hup]; omega)) (by first | omega | (simp [hup]; omega)) ?_
  refine wq_putI (kz := 0) (q := 153) rfl f_St_21 rfl rfl rfl (Or.inl ⟨rfl, Nat.le_of_ble_eq_true rfl⟩) rfl rfl ?_
  refine wq_vret rfl rfl (Nat.le_refl _) (Nat.le_refl _) (K _ ((((fr.rf.up (by decide)).up (by decide)).up (by decide)).up (by decide)) ?_ (fun k hk => ?_) ?_)
  · simp [hup]
  · simp [hup, hk]
  · simp [hup]
set_option maxRecDepth 100000 in
set_option maxHeartbeats 4000000 in
theorem St_consider_ok (N : mN) (a d : Int) (e t : mF) (Q : Int → Prop) (h : mH) (r : mR) (hp : Pa N 1000000 e a d) (hQ : ∀ x, Q x → lv N d ≤ lv N x) (hI : stI N a e t Q h) (hc : h 54 0 < 120) : Meets true (rm 2) m_St_consider [vR 54, vI (lv N d), vI (e d), vI (t d)] h r (fun rv h1 r1 => rv = none ∧ r1 = r ∧ fr spC h h1 ∧ stI N a e t (fun x => Q x ∨ x = d) h1 ∧ h1 54 0 ≤ h 54 0 + 1) := by
  have h0 := hI.1
  have big : 0 < h 54 0 → lv N d ≤ h 55 (h 54 0 - 1) := fun z => by
    obtain ⟨g, g1, g2, g3, -⟩ := hI.2.1 (h 54 0 - 1) (by omega) (by omega)
    have := hQ g g1
    omega
  refine ⟨ok_St_consider, Nat.le_of_ble_eq_true rfl, ?_⟩
  refine wq_aload_n (kk := 0) (q := 1) rfl rfl rfl ?_
  refine wq_getI (kz := 0) (q := 4) rfl f_St_21 rfl rfl (Or.inl ⟨rfl, Nat.le_of_ble_eq_true rfl⟩) rfl rfl ?_
  refine wq_if_le (tgt := 26) (q := 7) rfl rfl rfl (fun c4 => ?_) (fun c4 => ?_)
  · skip
    refine wq_iconst (n := 0) (q := 27) rfl rfl rfl ?_
    refine wq_istore (i := 4) (q := 29) rfl rfl (Nat.le_of_ble_eq_true rfl) rfl ?_
    refine wq_aload_n (kk := 0) (q := 30) rfl rfl rfl ?_
    refine wq_getI (kz := 0) (q := 33) rfl f_St_21 rfl rfl (Or.inl ⟨rfl, Nat.le_of_ble_eq_true rfl⟩) rfl rfl ?_
    refine wq_if_le (tgt := 98) (q := 36) rfl rfl rfl (fun c33 => ?_) (fun c33 => ?_)
    · skip
      refine wq_iload (i := 4) (q := 100) rfl rfl rfl ?_
      refine wq_if_eq (tgt := 113) (q := 103) rfl rfl rfl (fun c100 => ?_) (fun c100 => ?_)
      · skip
        first
          | (exfalso; omega)
          | (refine St_put _ _ _ _ h r _ (by omega) (fun h1 f1 k0 k1 k2 => ⟨rfl, rfl, f1, ?_, by omega⟩)
             unfold stI
             rw [k0]
             exact hI.push hp (fun z => by have := big z; omega) (fun k q0 q1 => k1 k (by omega)) k2)
      · skip
        by_cases hx : h 54 0 ≤ 0
        · exfalso; omega
        refine wq_aload_n (kk := 0) (q := 104) rfl rfl rfl ?_
        refine wq_dup (q := 105) rfl rfl rfl ?_
        refine wq_getI (kz := 0) (q := 108) rfl f_St_21 rfl rfl (Or.inl ⟨rfl, Nat.le_of_ble_eq_true rfl⟩) rfl rfl ?_
        refine wq_iconst (n := 1) (q := 109) rfl rfl rfl ?_
        refine wq_isub (q := 110) rfl rfl (by omega) (by omega) ?_
        refine wq_putI (kz := 0) (q := 113) rfl f_St_21 rfl rfl rfl (Or.inl ⟨rfl, Nat.le_of_ble_eq_true rfl⟩) rfl rfl ?_
        refine St_put _ _ _ _ (hup h 54 0 (h 54 0 - 1)) r _ (by rw [hup_s]; omega) (fun h1 f1 k0 k1 k2 => ⟨rfl, rfl, ((fr.rf (S := spC) (h := h)).up (by decide)).trans f1 (fun _ q => q), ?_, by rw [k0, hup_s]; omega⟩)
        rw [hup_s] at k0 k1 k2
        unfold stI
        rw [k0]
        have e1 : h 54 0 - 1 + 1 = h 54 0 := by omega
        rw [e1]
        first
          | (exfalso; omega)
          | exact hI.repl hp (by omega) (by omega) (by omega) (fun k q0 q1 => by have := k1 k (by omega); rw [hup_i (by decide), hup_i (by decide), hup_i (by decide)] at this; exact this) k2
    · skip
      refine wq_iload_n (kk := 2) (q := 37) rfl rfl rfl ?_
      refine wq_aload_n (kk := 0) (q := 38) rfl rfl rfl ?_
      refine wq_getF (q := 41) f_St_15 rfl rfl (Nat.le_of_ble_eq_true rfl) rfl rfl rfl ?_
      refine wq_aload_n (kk := 0) (q := 42) rfl rfl rfl ?_
      refine wq_getI (kz := 0) (q := 45) rfl f_St_21 rfl rfl (Or.inl ⟨rfl, Nat.le_of_ble_eq_true rfl⟩) rfl rfl ?_
      refine wq_iconst (n := 1) (q := 46) rfl rfl rfl ?_
      refine wq_isub (q := 47) rfl rfl (by first | omega | (simp [hup]; omega)) (by first | omega | (simp [hup]; omega)) ?_
      refine wq_iald (q := 48) rfl (Or.inl ⟨rfl, Nat.le_of_ble_eq_true rfl⟩) rfl rfl (by first | omega | (simp [hup]; omega)) (by first | omega | (simp [hup]; omega)) ?_
      refine wq_icmp_lt (tgt := 98) (q := 51) rfl rfl rfl (fun c48 => ?_) (fun c48 => ?_)
      · skip
        refine wq_iload (i := 4) (q := 100) rfl rfl rfl ?_
        refine wq_if_eq (tgt := 113) (q := 103) rfl rfl rfl (fun c100 => ?_) (fun c100 => ?_)
        · skip
          first
            | (exfalso; omega)
            | (refine St_put _ _ _ _ h r _ (by omega) (fun h1 f1 k0 k1 k2 => ⟨rfl, rfl, f1, ?_, by omega⟩)
               unfold stI
               rw [k0]
               exact hI.push hp (fun z => by have := big z; omega) (fun k q0 q1 => k1 k (by omega)) k2)
        · skip
          by_cases hx : h 54 0 ≤ 0
          · exfalso; omega
          refine wq_aload_n (kk := 0) (q := 104) rfl rfl rfl ?_
          refine wq_dup (q := 105) rfl rfl rfl ?_
          refine wq_getI (kz := 0) (q := 108) rfl f_St_21 rfl rfl (Or.inl ⟨rfl, Nat.le_of_ble_eq_true rfl⟩) rfl rfl ?_
          refine wq_iconst (n := 1) (q := 109) rfl rfl rfl ?_
          refine wq_isub (q := 110) rfl rfl (by omega) (by omega) ?_
          refine wq_putI (kz := 0) (q := 113) rfl f_St_21 rfl rfl rfl (Or.inl ⟨rfl, Nat.le_of_ble_eq_true rfl⟩) rfl rfl ?_
          refine St_put _ _ _ _ (hup h 54 0 (h 54 0 - 1)) r _ (by rw [hup_s]; omega) (fun h1 f1 k0 k1 k2 => ⟨rfl, rfl, ((fr.rf (S := spC) (h := h)).up (by decide)).trans f1 (fun _ q => q), ?_, by rw [k0, hup_s]; omega⟩)
          rw [hup_s] at k0 k1 k2
          unfold stI
          rw [k0]
          have e1 : h 54 0 - 1 + 1 = h 54 0 := by omega
          rw [e1]
          first
            | (exfalso; omega)
            | exact hI.repl hp (by omega) (by omega) (by omega) (fun k q0 q1 => by have := k1 k (by omega); rw [hup_i (by decide), hup_i (by decide), hup_i (by decide)] at this; exact this) k2
      · skip
        refine wq_iload (i := 4) (q := 53) rfl rfl rfl ?_
        refine wq_if_eq (tgt := 97) (q := 56) rfl rfl rfl (fun c53 => ?_) (fun c53 => ?_)
        · skip
          refine wq_vret rfl rfl (Nat.le_refl _) (Nat.le_refl _) ⟨rfl, rfl, ?_, ?_, ?_⟩
          · first
              | exact fr.rf
              | exact fr.rf.up (by decide)
          · unfold stI
            first
              | (exact hI.dom hp hQ (by omega) (by omega) (by omega))
              | (rw [hup_i (by decide), hup_ne (by decide), hup_ne (by decide)]
                 exact hI.same hp (by omega) (by omega) (by omega) (fun k k0 k1 => by rw [hup_j (by omega)]) (by rw [hup_s]))
          · first | omega | (simp [hup]; done) | (simp [hup]; omega)
        · skip
          refine wq_iload_n (kk := 2) (q := 57) rfl rfl rfl ?_
          refine wq_aload_n (kk := 0) (q := 58) rfl rfl rfl ?_
          refine wq_getF (q := 61) f_St_15 rfl rfl (Nat.le_of_ble_eq_true rfl) rfl rfl rfl ?_
          refine wq_aload_n (kk := 0) (q := 62) rfl rfl rfl ?_
          refine wq_getI (kz := 0) (q := 65) rfl f_St_21 rfl rfl (Or.inl ⟨rfl, Nat.le_of_ble_eq_true rfl⟩) rfl rfl ?_
          refine wq_iconst (n := 1) (q := 66) rfl rfl rfl ?_
          refine wq_isub (q := 67) rfl rfl (by first | omega | (simp [hup]; omega)) (by first | omega | (simp [hup]; omega)) ?_
          refine wq_iald (q := 68) rfl (Or.inl ⟨rfl, Nat.le_of_ble_eq_true rfl⟩) rfl rfl (by first | omega | (simp [hup]; omega)) (by first | omega | (simp [hup]; omega)) ?_
          refine wq_icmp_ne (tgt := 97) (q := 71) rfl rfl rfl (fun c68 => ?_) (fun c68 => ?_)
          · skip
            refine wq_vret rfl rfl (Nat.le_refl _) (Nat.le_refl _) ⟨rfl, rfl, ?_, ?_, ?_⟩
            · first
                | exact fr.rf
                | exact fr.rf.up (by decide)
            · unfold stI
              first
                | (exact hI.dom hp hQ (by omega) (by omega) (by omega))
                | (rw [hup_i (by decide), hup_ne (by decide), hup_ne (by decide)]
                   exact hI.same hp (by omega) (by omega) (by omega) (fun k k0 k1 => by rw [hup_j (by omega)]) (by rw [hup_s]))
            · first | omega | (simp [hup]; done) | (simp [hup]; omega)
          · skip
            refine wq_aload_n (kk := 0) (q := 72) rfl rfl rfl ?_
            refine wq_getF (q := 75) f_St_18 rfl rfl (Nat.le_of_ble_eq_true rfl) rfl rfl rfl ?_
            refine wq_aload_n (kk := 0) (q := 76) rfl rfl rfl ?_
            refine wq_getI (kz := 0) (q := 79) rfl f_St_21 rfl rfl (Or.inl ⟨rfl, Nat.le_of_ble_eq_true rfl⟩) rfl rfl ?_
            refine wq_iconst (n := 1) (q := 80) rfl rfl rfl ?_
            refine wq_isub (q := 81) rfl rfl (by first | omega | (simp [hup]; omega)) (by first | omega | (simp [hup]; omega)) ?_
            refine wq_aload_n (kk := 0) (q := 82) rfl rfl rfl ?_
            refine wq_getF (q := 85) f_St_18 rfl rfl (Nat.le_of_ble_eq_true rfl) rfl rfl rfl ?_
            refine wq_aload_n (kk := 0) (q := 86) rfl rfl rfl ?_
            refine wq_getI (kz := 0) (q := 89) rfl f_St_21 rfl rfl (Or.inl ⟨rfl, Nat.le_of_ble_eq_true rfl⟩) rfl rfl ?_
            refine wq_iconst (n := 1) (q := 90) rfl rfl rfl ?_
            refine wq_isub (q := 91) rfl rfl (by first | omega | (simp [hup]; omega)) (by first | omega | (simp [hup]; omega)) ?_
            refine wq_iald (q := 92) rfl (Or.inl ⟨rfl, Nat.le_of_ble_eq_true rfl⟩) rfl rfl (by first | omega | (simp [hup]; omega)) (by first | omega | (simp [hup]; omega)) ?_
            refine wq_iload_n (kk := 3) (q := 93) rfl rfl rfl ?_
            refine wq_min (q := 96) k_St_47 k_math_min k_math_min_s k_math_i rfl rfl (Nat.le_of_ble_eq_true rfl) (Nat.le_of_ble_eq_true rfl) (Nat.le_refl _) (Nat.le_refl _) (Nat.le_of_ble_eq_true rfl) ?_
            refine wq_iast (q := 97) rfl (Or.inl ⟨rfl, Nat.le_of_ble_eq_true rfl⟩) rfl rfl (by first | omega | (simp [hup]; omega)) (by first | omega | (simp [hup]; omega)) ?_
            refine wq_vret rfl rfl (Nat.le_refl _) (Nat.le_refl _) ⟨rfl, rfl, ?_, ?_, ?_⟩
            · first
                | exact fr.rf
                | exact fr.rf.up (by decide)
            · unfold stI
              first
                | (exact hI.dom hp hQ (by omega) (by omega) (by omega))
                | (rw [hup_i (by decide), hup_ne (by decide), hup_ne (by decide)]
                   exact hI.same hp (by omega) (by omega) (by omega) (fun k k0 k1 => by rw [hup_j (by omega)]) (by rw [hup_s]))
            · first | omega | (simp [hup]; done) | (simp [hup]; omega)
  · skip
    refine wq_aload_n (kk := 0) (q := 8) rfl rfl rfl ?_
    refine wq_getF (q := 11) f_St_9 rfl rfl (Nat.le_of_ble_eq_true rfl) rfl rfl rfl ?_
    refine wq_aload_n (kk := 0) (q := 12) rfl rfl rfl ?_
    refine wq_getI (kz := 0) (q := 15) rfl f_St_21 rfl rfl (Or.inl ⟨rfl, Nat.le_of_ble_eq_true rfl⟩) rfl rfl ?_
    refine wq_iconst (n := 1) (q := 16) rfl rfl rfl ?_
    refine wq_isub (q := 17) rfl rfl (by first | omega | (simp [hup]; omega)) (by first | omega | (simp [hup]; omega)) ?_
    refine wq_iald (q := 18) rfl (Or.inl ⟨rfl, Nat.le_of_ble_eq_true rfl⟩) rfl rfl (by first | omega | (simp [hup]; omega)) (by first | omega | (simp [hup]; omega)) ?_
    refine wq_iload_n (kk := 1) (q := 19) rfl rfl rfl ?_
    refine wq_icmp_ne (tgt := 26) (q := 22) rfl rfl rfl (fun c19 => ?_) (fun c19 => ?_)
    · skip
      refine wq_iconst (n := 0) (q := 27) rfl rfl rfl ?_
      refine wq_istore (i := 4) (q := 29) rfl rfl (Nat.le_of_ble_eq_true rfl) rfl ?_
      refine wq_aload_n (kk := 0) (q := 30) rfl rfl rfl ?_
      refine wq_getI (kz := 0) (q := 33) rfl f_St_21 rfl rfl (Or.inl ⟨rfl, Nat.le_of_ble_eq_true rfl⟩) rfl rfl ?_
      refine wq_if_le (tgt := 98) (q := 36) rfl rfl rfl (fun c33 => ?_) (fun c33 => ?_)
      · skip
        refine wq_iload (i := 4) (q := 100) rfl rfl rfl ?_
        refine wq_if_eq (tgt := 113) (q := 103) rfl rfl rfl (fun c100 => ?_) (fun c100 => ?_)
        · skip
          first
            | (exfalso; omega)
            | (refine St_put _ _ _ _ h r _ (by omega) (fun h1 f1 k0 k1 k2 => ⟨rfl, rfl, f1, ?_, by omega⟩)
               unfold stI
               rw [k0]
               exact hI.push hp (fun z => by have := big z; omega) (fun k q0 q1 => k1 k (by omega)) k2)
        · skip
          by_cases hx : h 54 0 ≤ 0
          · exfalso; omega
          refine wq_aload_n (kk := 0) (q := 104) rfl rfl rfl ?_
          refine wq_dup (q := 105) rfl rfl rfl ?_
          refine wq_getI (kz := 0) (q := 108) rfl f_St_21 rfl rfl (Or.inl ⟨rfl, Nat.le_of_ble_eq_true rfl⟩) rfl rfl ?_
          refine wq_iconst (n := 1) (q := 109) rfl rfl rfl ?_
          refine wq_isub (q := 110) rfl rfl (by omega) (by omega) ?_
          refine wq_putI (kz := 0) (q := 113) rfl f_St_21 rfl rfl rfl (Or.inl ⟨rfl, Nat.le_of_ble_eq_true rfl⟩) rfl rfl ?_
          refine St_put _ _ _ _ (hup h 54 0 (h 54 0 - 1)) r _ (by rw [hup_s]; omega) (fun h1 f1 k0 k1 k2 => ⟨rfl, rfl, ((fr.rf (S := spC) (h := h)).up (by decide)).trans f1 (fun _ q => q), ?_, by rw [k0, hup_s]; omega⟩)
          rw [hup_s] at k0 k1 k2
          unfold stI
          rw [k0]
          have e1 : h 54 0 - 1 + 1 = h 54 0 := by omega
          rw [e1]
          first
            | (exfalso; omega)
            | exact hI.repl hp (by omega) (by omega) (by omega) (fun k q0 q1 => by have := k1 k (by omega); rw [hup_i (by decide), hup_i (by decide), hup_i (by decide)] at this; exact this) k2
      · skip
        refine wq_iload_n (kk := 2) (q := 37) rfl rfl rfl ?_
        refine wq_aload_n (kk := 0) (q := 38) rfl rfl rfl ?_
        refine wq_getF (q := 41) f_St_15 rfl rfl (Nat.le_of_ble_eq_true rfl) rfl rfl rfl ?_
        refine wq_aload_n (kk := 0) (q := 42) rfl rfl rfl ?_
        refine wq_getI (kz := 0) (q := 45) rfl f_St_21 rfl rfl (Or.inl ⟨rfl, Nat.le_of_ble_eq_true rfl⟩) rfl rfl ?_
        refine wq_iconst (n := 1) (q := 46) rfl rfl rfl ?_
        refine wq_isub (q := 47) rfl rfl (by first | omega | (simp [hup]; omega)) (by first | omega | (simp [hup]; omega)) ?_
        refine wq_iald (q := 48) rfl (Or.inl ⟨rfl, Nat.le_of_ble_eq_true rfl⟩) rfl rfl (by first | omega | (simp [hup]; omega)) (by first | omega | (simp [hup]; omega)) ?_
        refine wq_icmp_lt (tgt := 98) (q := 51) rfl rfl rfl (fun c48 => ?_) (fun c48 => ?_)
        · skip
          refine wq_iload (i := 4) (q := 100) rfl rfl rfl ?_
          refine wq_if_eq (tgt := 113) (q := 103) rfl rfl rfl (fun c100 => ?_) (fun c100 => ?_)
          · skip
            first
              | (exfalso; omega)
              | (refine St_put _ _ _ _ h r _ (by omega) (fun h1 f1 k0 k1 k2 => ⟨rfl, rfl, f1, ?_, by omega⟩)
                 unfold stI
                 rw [k0]
                 exact hI.push hp (fun z => by have := big z; omega) (fun k q0 q1 => k1 k (by omega)) k2)
          · skip
            by_cases hx : h 54 0 ≤ 0
            · exfalso; omega
            refine wq_aload_n (kk := 0) (q := 104) rfl rfl rfl ?_
            refine wq_dup (q := 105) rfl rfl rfl ?_
            refine wq_getI (kz := 0) (q := 108) rfl f_St_21 rfl rfl (Or.inl ⟨rfl, Nat.le_of_ble_eq_true rfl⟩) rfl rfl ?_
            refine wq_iconst (n := 1) (q := 109) rfl rfl rfl ?_
            refine wq_isub (q := 110) rfl rfl (by omega) (by omega) ?_
            refine wq_putI (kz := 0) (q := 113) rfl f_St_21 rfl rfl rfl (Or.inl ⟨rfl, Nat.le_of_ble_eq_true rfl⟩) rfl rfl ?_
            refine St_put _ _ _ _ (hup h 54 0 (h 54 0 - 1)) r _ (by rw [hup_s]; omega) (fun h1 f1 k0 k1 k2 => ⟨rfl, rfl, ((fr.rf (S := spC) (h := h)).up (by decide)).trans f1 (fun _ q => q), ?_, by rw [k0, hup_s]; omega⟩)
            rw [hup_s] at k0 k1 k2
            unfold stI
            rw [k0]
            have e1 : h 54 0 - 1 + 1 = h 54 0 := by omega
            rw [e1]
            first
              | (exfalso; omega)
              | exact hI.repl hp (by omega) (by omega) (by omega) (fun k q0 q1 => by have := k1 k (by omega); rw [hup_i (by decide), hup_i (by decide), hup_i (by decide)] at this; exact this) k2
        · skip
          refine wq_iload (i := 4) (q := 53) rfl rfl rfl ?_
          refine wq_if_eq (tgt := 97) (q := 56) rfl rfl rfl (fun c53 => ?_) (fun c53 => ?_)
          · skip
            refine wq_vret rfl rfl (Nat.le_refl _) (Nat.le_refl _) ⟨rfl, rfl, ?_, ?_, ?_⟩
            · first
                | exact fr.rf
                | exact fr.rf.up (by decide)
            · unfold stI
              first
                | (exact hI.dom hp hQ (by omega) (by omega) (by omega))
                | (rw [hup_i (by decide), hup_ne (by decide), hup_ne (by decide)]
                   exact hI.same hp (by omega) (by omega) (by omega) (fun k k0 k1 => by rw [hup_j (by omega)]) (by rw [hup_s]))
            · first | omega | (simp [hup]; done) | (simp [hup]; omega)
          · skip
            refine wq_iload_n (kk := 2) (q := 57) rfl rfl rfl ?_
            refine wq_aload_n (kk := 0) (q := 58) rfl rfl rfl ?_
            refine wq_getF (q := 61) f_St_15 rfl rfl (Nat.le_of_ble_eq_true rfl) rfl rfl rfl ?_
            refine wq_aload_n (kk := 0) (q := 62) rfl rfl rfl ?_
            refine wq_getI (kz := 0) (q := 65) rfl f_St_21 rfl rfl (Or.inl ⟨rfl, Nat.le_of_ble_eq_true rfl⟩) rfl rfl ?_
            refine wq_iconst (n := 1) (q := 66) rfl rfl rfl ?_
            refine wq_isub (q := 67) rfl rfl (by first | omega | (simp [hup]; omega)) (by first | omega | (simp [hup]; omega)) ?_
            refine wq_iald (q := 68) rfl (Or.inl ⟨rfl, Nat.le_of_ble_eq_true rfl⟩) rfl rfl (by first | omega | (simp [hup]; omega)) (by first | omega | (simp [hup]; omega)) ?_
            refine wq_icmp_ne (tgt := 97) (q := 71) rfl rfl rfl (fun c68 => ?_) (fun c68 => ?_)
            · skip
              refine wq_vret rfl rfl (Nat.le_refl _) (Nat.le_refl _) ⟨rfl, rfl, ?_, ?_, ?_⟩
              · first
                  | exact fr.rf
                  | exact fr.rf.up (by decide)
              · unfold stI
                first
                  | (exact hI.dom hp hQ (by omega) (by omega) (by omega))
                  | (rw [hup_i (by decide), hup_ne (by decide), hup_ne (by decide)]
                     exact hI.same hp (by omega) (by omega) (by omega) (fun k k0 k1 => by rw [hup_j (by omega)]) (by rw [hup_s]))
              · first | omega | (simp [hup]; done) | (simp [hup]; omega)
            · skip
              refine wq_aload_n (kk := 0) (q := 72) rfl rfl rfl ?_
              refine wq_getF (q := 75) f_St_18 rfl rfl (Nat.le_of_ble_eq_true rfl) rfl rfl rfl ?_
              refine wq_aload_n (kk := 0) (q := 76) rfl rfl rfl ?_
              refine wq_getI (kz := 0) (q := 79) rfl f_St_21 rfl rfl (Or.inl ⟨rfl, Nat.le_of_ble_eq_true rfl⟩) rfl rfl ?_
              refine wq_iconst (n := 1) (q := 80) rfl rfl rfl ?_
              refine wq_isub (q := 81) rfl rfl (by first | omega | (simp [hup]; omega)) (by first | omega | (simp [hup]; omega)) ?_
              refine wq_aload_n (kk := 0) (q := 82) rfl rfl rfl ?_
              refine wq_getF (q := 85) f_St_18 rfl rfl (Nat.le_of_ble_eq_true rfl) rfl rfl rfl ?_
              refine wq_aload_n (kk := 0) (q := 86) rfl rfl rfl ?_
              refine wq_getI (kz := 0) (q := 89) rfl f_St_21 rfl rfl (Or.inl ⟨rfl, Nat.le_of_ble_eq_true rfl⟩) rfl rfl ?_
              refine wq_iconst (n := 1) (q := 90) rfl rfl rfl ?_
              refine wq_isub (q := 91) rfl rfl (by first | omega | (simp [hup]; omega)) (by first | omega | (simp [hup]; omega)) ?_
              refine wq_iald (q := 92) rfl (Or.inl ⟨rfl, Nat.le_of_ble_eq_true rfl⟩) rfl rfl (by first | omega | (simp [hup]; omega)) (by first | omega | (simp [hup]; omega)) ?_
              refine wq_iload_n (kk := 3) (q := 93) rfl rfl rfl ?_
              refine wq_min (q := 96) k_St_47 k_math_min k_math_min_s k_math_i rfl rfl (Nat.le_of_ble_eq_true rfl) (Nat.le_of_ble_eq_true rfl) (Nat.le_refl _) (Nat.le_refl _) (Nat.le_of_ble_eq_true rfl) ?_
              refine wq_iast (q := 97) rfl (Or.inl ⟨rfl, Nat.le_of_ble_eq_true rfl⟩) rfl rfl (by first | omega | (simp [hup]; omega)) (by first | omega | (simp [hup]; omega)) ?_
              refine wq_vret rfl rfl (Nat.le_refl _) (Nat.le_refl _) ⟨rfl, rfl, ?_, ?_, ?_⟩
              · first
                  | exact fr.rf
                  | exact fr.rf.up (by decide)
              · unfold stI
                first
                  | (exact hI.dom hp hQ (by omega) (by omega) (by omega))
                  | (rw [hup_i (by decide), hup_ne (by decide), hup_ne (by decide)]
                     exact hI.same hp (by omega) (by omega) (by omega) (fun k k0 k1 => by rw [hup_j (by omega)]) (by rw [hup_s]))
              · first | omega | (simp [hup]; done) | (simp [hup]; omega)
    · skip
      refine wq_iconst (n := 1) (q := 23) rfl rfl rfl ?_
      refine wq_goto (tgt := 27) rfl rfl ?_
      refine wq_istore (i := 4) (q := 29) rfl rfl (Nat.le_of_ble_eq_true rfl) rfl ?_
      refine wq_aload_n (kk := 0) (q := 30) rfl rfl rfl ?_
      refine wq_getI (kz := 0) (q := 33) rfl f_St_21 rfl rfl (Or.inl ⟨rfl, Nat.le_of_ble_eq_true rfl⟩) rfl rfl ?_
      refine wq_if_le (tgt := 98) (q := 36) rfl rfl rfl (fun c33 => ?_) (fun c33 => ?_)
      · skip
        refine wq_iload (i := 4) (q := 100) rfl rfl rfl ?_
        refine wq_if_eq (tgt := 113) (q := 103) rfl rfl rfl (fun c100 => ?_) (fun c100 => ?_)
        · skip
          first
            | (exfalso; omega)
            | (refine St_put _ _ _ _ h r _ (by omega) (fun h1 f1 k0 k1 k2 => ⟨rfl, rfl, f1, ?_, by omega⟩)
               unfold stI
               rw [k0]
               exact hI.push hp (fun z => by have := big z; omega) (fun k q0 q1 => k1 k (by omega)) k2)
        · skip
          by_cases hx : h 54 0 ≤ 0
          · exfalso; omega
          refine wq_aload_n (kk := 0) (q := 104) rfl rfl rfl ?_
          refine wq_dup (q := 105) rfl rfl rfl ?_
          refine wq_getI (kz := 0) (q := 108) rfl f_St_21 rfl rfl (Or.inl ⟨rfl, Nat.le_of_ble_eq_true rfl⟩) rfl rfl ?_
          refine wq_iconst (n := 1) (q := 109) rfl rfl rfl ?_
          refine wq_isub (q := 110) rfl rfl (by omega) (by omega) ?_
          refine wq_putI (kz := 0) (q := 113) rfl f_St_21 rfl rfl rfl (Or.inl ⟨rfl, Nat.le_of_ble_eq_true rfl⟩) rfl rfl ?_
          refine St_put _ _ _ _ (hup h 54 0 (h 54 0 - 1)) r _ (by rw [hup_s]; omega) (fun h1 f1 k0 k1 k2 => ⟨rfl, rfl, ((fr.rf (S := spC) (h := h)).up (by decide)).trans f1 (fun _ q => q), ?_, by rw [k0, hup_s]; omega⟩)
          rw [hup_s] at k0 k1 k2
          unfold stI
          rw [k0]
          have e1 : h 54 0 - 1 + 1 = h 54 0 := by omega
          rw [e1]
          first
            | (exfalso; omega)
            | exact hI.repl hp (by omega) (by omega) (by omega) (fun k q0 q1 => by have := k1 k (by omega); rw [hup_i (by decide), hup_i (by decide), hup_i (by decide)] at this; exact this) k2
      · skip
        refine wq_iload_n (kk := 2) (q := 37) rfl rfl rfl ?_
        refine wq_aload_n (kk := 0) (q := 38) rfl rfl rfl ?_
        refine wq_getF (q := 41) f_St_15 rfl rfl (Nat.le_of_ble_eq_true rfl) rfl rfl rfl ?_
        refine wq_aload_n (kk := 0) (q := 42) rfl rfl rfl ?_
        refine wq_getI (kz := 0) (q := 45) rfl f_St_21 rfl rfl (Or.inl ⟨rfl, Nat.le_of_ble_eq_true rfl⟩) rfl rfl ?_
        refine wq_iconst (n := 1) (q := 46) rfl rfl rfl ?_
        refine wq_isub (q := 47) rfl rfl (by first | omega | (simp [hup]; omega)) (by first | omega | (simp [hup]; omega)) ?_
        refine wq_iald (q := 48) rfl (Or.inl ⟨rfl, Nat.le_of_ble_eq_true rfl⟩) rfl rfl (by first | omega | (simp [hup]; omega)) (by first | omega | (simp [hup]; omega)) ?_
        refine wq_icmp_lt (tgt := 98) (q := 51) rfl rfl rfl (fun c48 => ?_) (fun c48 => ?_)
        · skip
          refine wq_iload (i := 4) (q := 100) rfl rfl rfl ?_
          refine wq_if_eq (tgt := 113) (q := 103) rfl rfl rfl (fun c100 => ?_) (fun c100 => ?_)
          · skip
            first
              | (exfalso; omega)
              | (refine St_put _ _ _ _ h r _ (by omega) (fun h1 f1 k0 k1 k2 => ⟨rfl, rfl, f1, ?_, by omega⟩)
                 unfold stI
                 rw [k0]
                 exact hI.push hp (fun z => by have := big z; omega) (fun k q0 q1 => k1 k (by omega)) k2)
          · skip
            by_cases hx : h 54 0 ≤ 0
            · exfalso; omega
            refine wq_aload_n (kk := 0) (q := 104) rfl rfl rfl ?_
            refine wq_dup (q := 105) rfl rfl rfl ?_
            refine wq_getI (kz := 0) (q := 108) rfl f_St_21 rfl rfl (Or.inl ⟨rfl, Nat.le_of_ble_eq_true rfl⟩) rfl rfl ?_
            refine wq_iconst (n := 1) (q := 109) rfl rfl rfl ?_
            refine wq_isub (q := 110) rfl rfl (by omega) (by omega) ?_
            refine wq_putI (kz := 0) (q := 113) rfl f_St_21 rfl rfl rfl (Or.inl ⟨rfl, Nat.le_of_ble_eq_true rfl⟩) rfl rfl ?_
            refine St_put _ _ _ _ (hup h 54 0 (h 54 0 - 1)) r _ (by rw [hup_s]; omega) (fun h1 f1 k0 k1 k2 => ⟨rfl, rfl, ((fr.rf (S := spC) (h := h)).up (by decide)).trans f1 (fun _ q => q), ?_, by rw [k0, hup_s]; omega⟩)
            rw [hup_s] at k0 k1 k2
            unfold stI
            rw [k0]
            have e1 : h 54 0 - 1 + 1 = h 54 0 := by omega
            rw [e1]
            first
              | (exfalso; omega)
              | exact hI.repl hp (by omega) (by omega) (by omega) (fun k q0 q1 => by have := k1 k (by omega); rw [hup_i (by decide), hup_i (by decide), hup_i (by decide)] at this; exact this) k2
        · skip
          refine wq_iload (i := 4) (q := 53) rfl rfl rfl ?_
          refine wq_if_eq (tgt := 97) (q := 56) rfl rfl rfl (fun c53 => ?_) (fun c53 => ?_)
          · skip
            refine wq_vret rfl rfl (Nat.le_refl _) (Nat.le_refl _) ⟨rfl, rfl, ?_, ?_, ?_⟩
            · first
                | exact fr.rf
                | exact fr.rf.up (by decide)
            · unfold stI
              first
                | (exact hI.dom hp hQ (by omega) (by omega) (by omega))
                | (rw [hup_i (by decide), hup_ne (by decide), hup_ne (by decide)]
                   exact hI.same hp (by omega) (by omega) (by omega) (fun k k0 k1 => by rw [hup_j (by omega)]) (by rw [hup_s]))
            · first | omega | (simp [hup]; done) | (simp [hup]; omega)
          · skip
            refine wq_iload_n (kk := 2) (q := 57) rfl rfl rfl ?_
            refine wq_aload_n (kk := 0) (q := 58) rfl rfl rfl ?_
            refine wq_getF (q := 61) f_St_15 rfl rfl (Nat.le_of_ble_eq_true rfl) rfl rfl rfl ?_
            refine wq_aload_n (kk := 0) (q := 62) rfl rfl rfl ?_
            refine wq_getI (kz := 0) (q := 65) rfl f_St_21 rfl rfl (Or.inl ⟨rfl, Nat.le_of_ble_eq_true rfl⟩) rfl rfl ?_
            refine wq_iconst (n := 1) (q := 66) rfl rfl rfl ?_
            refine wq_isub (q := 67) rfl rfl (by first | omega | (simp [hup]; omega)) (by first | omega | (simp [hup]; omega)) ?_
            refine wq_iald (q := 68) rfl (Or.inl ⟨rfl, Nat.le_of_ble_eq_true rfl⟩) rfl rfl (by first | omega | (simp [hup]; omega)) (by first | omega | (simp [hup]; omega)) ?_
            refine wq_icmp_ne (tgt := 97) (q := 71) rfl rfl rfl (fun c68 => ?_) (fun c68 => ?_)
            · skip
              refine wq_vret rfl rfl (Nat.le_refl _) (Nat.le_refl _) ⟨rfl, rfl, ?_, ?_, ?_⟩
              · first
                  | exact fr.rf
                  | exact fr.rf.up (by decide)
              · unfold stI
                first
                  | (exact hI.dom hp hQ (by omega) (by omega) (by omega))
                  | (rw [hup_i (by decide), hup_ne (by decide), hup_ne (by decide)]
                     exact hI.same hp (by omega) (by omega) (by omega) (fun k k0 k1 => by rw [hup_j (by omega)]) (by rw [hup_s]))
              · first | omega | (simp [hup]; done) | (simp [hup]; omega)
            · skip
              refine wq_aload_n (kk := 0) (q := 72) rfl rfl rfl ?_
              refine wq_getF (q := 75) f_St_18 rfl rfl (Nat.le_of_ble_eq_true rfl) rfl rfl rfl ?_
              refine wq_aload_n (kk := 0) (q := 76) rfl rfl rfl ?_
              refine wq_getI (kz := 0) (q := 79) rfl f_St_21 rfl rfl (Or.inl ⟨rfl, Nat.le_of_ble_eq_true rfl⟩) rfl rfl ?_
              refine wq_iconst (n := 1) (q := 80) rfl rfl rfl ?_
              refine wq_isub (q := 81) rfl rfl (by first | omega | (simp [hup]; omega)) (by first | omega | (simp [hup]; omega)) ?_
              refine wq_aload_n (kk := 0) (q := 82) rfl rfl rfl ?_
              refine wq_getF (q := 85) f_St_18 rfl rfl (Nat.le_of_ble_eq_true rfl) rfl rfl rfl ?_
              refine wq_aload_n (kk := 0) (q := 86) rfl rfl rfl ?_
              refine wq_getI (kz := 0) (q := 89) rfl f_St_21 rfl rfl (Or.inl ⟨rfl, Nat.le_of_ble_eq_true rfl⟩) rfl rfl ?_
              refine wq_iconst (n := 1) (q := 90) rfl rfl rfl ?_
              refine wq_isub (q := 91) rfl rfl (by first | omega | (simp [hup]; omega)) (by first | omega | (simp [hup]; omega)) ?_
              refine wq_iald (q := 92) rfl (Or.inl ⟨rfl, Nat.le_of_ble_eq_true rfl⟩) rfl rfl (by first | omega | (simp [hup]; omega)) (by first | omega | (simp [hup]; omega)) ?_
              refine wq_iload_n (kk := 3) (q := 93) rfl rfl rfl ?_
              refine wq_min (q := 96) k_St_47 k_math_min k_math_min_s k_math_i rfl rfl (Nat.le_of_ble_eq_true rfl) (Nat.le_of_ble_eq_true rfl) (Nat.le_refl _) (Nat.le_refl _) (Nat.le_of_ble_eq_true rfl) ?_
              refine wq_iast (q := 97) rfl (Or.inl ⟨rfl, Nat.le_of_ble_eq_true rfl⟩) rfl rfl (by first | omega | (simp [hup]; omega)) (by first | omega | (simp [hup]; omega)) ?_
              refine wq_vret rfl rfl (Nat.le_refl _) (Nat.le_refl _) ⟨rfl, rfl, ?_, ?_, ?_⟩
              · first
                  | exact fr.rf
                  | exact fr.rf.up (by decide)
              · unfold stI
                first
                  | (exact hI.dom hp hQ (by omega) (by omega) (by omega))
                  | (rw [hup_i (by decide), hup_ne (by decide), hup_ne (by decide)]
                     exact hI.same hp (by omega) (by omega) (by omega) (fun k k0 k1 => by rw [hup_j (by omega)]) (by rw [hup_s]))
              · first | omega | (simp [hup]; done) | (simp [hup]; omega)

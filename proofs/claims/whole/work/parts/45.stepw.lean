/-! LinkTimes$Steps: cell 54; starts 55, ends 56, turns 57, the latest first -/
abbrev spC : List Nat := [54, 55, 56, 57]
def stI (N : mN) (a : Int) (e t : mF) (Q : Int → Prop) (h : mH) : Prop := StR N a 1000000 e t Q (h 54 0) (h 55) (h 56) (h 57)
set_option maxRecDepth 100000 in
set_option maxHeartbeats 1000000 in
theorem St_put (L A T : Int) (x : mV) (h : mH) (r : mR) (Q : mP) (hc : 0 ≤ h 54 0 ∧ h 54 0 < 120) (K : ∀ h1, fr spC h h1 → h1 54 0 = h 54 0 + 1 → (∀ k, k ≠ h 54 0 → h1 55 k = h 55 k ∧ h1 56 k = h 56 k ∧ h1 57 k = h 57 k) → (h1 55 (h 54 0) = L ∧ h1 56 (h 54 0) = A ∧ h1 57 (h 54 0) = T) → Q none h1 r) : WP (true, rm 2) m_St_consider (rt m_St_consider (rm 2) Q) 113 [some (vR 54), some (vI L), some (vI A), some (vI T), some x] [] h r (0, 0) := by
  refine wq_aload_n (kk := 0) (q := 114) rfl rfl rfl ?_
  refine wq_getF (q := 117) f_St_9 rfl rfl (Nat.le_of_ble_eq_true rfl) rfl rfl rfl ?_
  refine wq_aload_n (kk := 0) (q := 118) rfl rfl rfl ?_
  refine wq_getI (kz := 0) (q := 121) rfl f_St_21 rfl rfl (Or.inl ⟨rfl, Nat.le_of_ble_eq_true rfl⟩) rfl rfl ?_
  refine wq_iload_n (kk := 1) (q := 122) rfl rfl rfl ?_
  refine wq_iast (q := 123) rfl (Or.inl ⟨rfl, Nat.le_of_ble_eq_true rfl⟩) rfl rfl (by first | omega | (simp [hup]; omega)) (by first | omega | (simp [hup]; omega)) ?_
  refine wq_aload_n (kk := 0) (q := 124) rfl rfl rfl ?_
  refine wq_getF (q := 127) f_St_15 rfl rfl (Nat.le_of_ble_eq_true rfl) rfl rfl rfl ?_
  refine wq_aload_n (kk := 0) (q := 128) rfl rfl rfl ?_
  refine wq_getI (kz := 0) (q := 131) rfl f_St_21 rfl rfl (Or.inl ⟨rfl, Nat.le_of_ble_eq_true rfl⟩) rfl rfl ?_
  refine wq_iload_n (kk := 2) (q := 132) rfl rfl rfl ?_
  refine wq_iast (q := 133) rfl (Or.inl ⟨rfl, Nat.le_of_ble_eq_true rfl⟩) rfl rfl (by first | omega | (simp [hup]; omega)) (by first | omega | (simp [hup]; omega)) ?_
  refine wq_aload_n (kk := 0) (q := 134) rfl rfl rfl ?_
  refine wq_getF (q := 137) f_St_18 rfl rfl (Nat.le_of_ble_eq_true rfl) rfl rfl rfl ?_
  refine wq_aload_n (kk := 0) (q := 138) rfl rfl rfl ?_
  refine wq_getI (kz := 0) (q := 141) rfl f_St_21 rfl rfl (Or.inl ⟨rfl, Nat.le_of_ble_eq_true rfl⟩) rfl rfl ?_
  refine wq_iload_n (kk := 3) (q := 142) rfl rfl rfl ?_
  refine wq_iast (q := 143) rfl (Or.inl ⟨rfl, Nat.le_of_ble_eq_true rfl⟩) rfl rfl (by first | omega | (simp [hup]; omega)) (by first | omega | (simp [hup]; omega)) ?_
  refine wq_aload_n (kk := 0) (q := 144) rfl rfl rfl ?_
  refine wq_dup (q := 145) rfl rfl rfl ?_
  refine wq_getI (kz := 0) (q := 148) rfl f_St_21 rfl rfl (Or.inl ⟨rfl, Nat.le_of_ble_eq_true rfl⟩) rfl rfl ?_
  refine wq_iconst (n := 1) (q := 149) rfl rfl rfl ?_
  refine wq_iadd (q := 150) rfl rfl (by first | omega | (simp [hup]; omega)) (by first | omega | (simp [hup]; omega)) ?_
  refine wq_putI (kz := 0) (q := 153) rfl f_St_21 rfl rfl rfl (Or.inl ⟨rfl, Nat.le_of_ble_eq_true rfl⟩) rfl rfl ?_
  refine wq_vret rfl rfl (Nat.le_refl _) (Nat.le_refl _) (K _ ((((fr.rf.up (by decide)).up (by decide)).up (by decide)).up (by decide)) ?_ (fun k hk => ?_) ?_)
  · simp [hup]
  · simp [hup, hk]
  · simp [hup]
set_option maxRecDepth 100000 in
set_option maxHeartbeats 4000000 in
theorem St_consider_ok (N : mN) (a d : Int) (e t : mF) (Q : Int → Prop) (h : mH) (r : mR) (hp : Pa N 1000000 e a d) (hQ : ∀ x, Q x → lv N d ≤ lv N x) (hI : stI N a e t Q h) (hc : h 54 0 < 120) : Meets true (rm 2) m_St_consider [vR 54, vI (lv N d), vI (e d), vI (t d)] h r (fun rv h1 r1 => rv = none ∧ r1 = r ∧ fr spC h h1 ∧ stI N a e t (fun x => Q x ∨ x = d) h1 ∧ h1 54 0 ≤ h 54 0 + 1) := by
  have h0 := hI.1
  have big : 0 < h 54 0 → lv N d ≤ h 55 (h 54 0 - 1) := fun z => by
    obtain ⟨g, g1, g2, g3, -⟩ := hI.2.1 (h 54 0 - 1) (by omega) (by omega)
    have := hQ g g1
    omega
  refine ⟨ok_St_consider, Nat.le_of_ble_eq_true rfl, ?_⟩
  refine wq_aload_n (kk := 0) (q := 1) rfl rfl rfl ?_
  refine wq_getI (kz := 0) (q := 4) rfl f_St_21 rfl rfl (Or.inl ⟨rfl, Nat.le_of_ble_eq_true rfl⟩) rfl rfl ?_
  refine wq_if_le (tgt := 26) (q := 7) rfl rfl rfl (fun c4 => ?_) (fun c4 => ?_)
  · skip
    refine wq_iconst (n := 0) (q := 27) rfl rfl rfl ?_
    refine wq_istore (i := 4) (q := 29) rfl rfl (Nat.le_of_ble_eq_true rfl) rfl ?_
    refine wq_aload_n (kk := 0) (q := 30) rfl rfl rfl ?_
    refine wq_getI (kz := 0) (q := 33) rfl f_St_21 rfl rfl (Or.inl ⟨rfl, Nat.le_of_ble_eq_true rfl⟩) rfl rfl ?_
    refine wq_if_le (tgt := 98) (q := 36) rfl rfl rfl (fun c33 => ?_) (fun c33 => ?_)
    · skip
      refine wq_iload (i := 4) (q := 100) rfl rfl rfl ?_
      refine wq_if_eq (tgt := 113) (q := 103) rfl rfl rfl (fun c100 => ?_) (fun c100 => ?_)
      · skip
        first
          | (exfalso; omega)
          | (refine St_put _ _ _ _ h r _ (by omega) (fun h1 f1 k0 k1 k2 => ⟨rfl, rfl, f1, ?_, by omega⟩)
             unfold stI
             rw [k0]
             exact hI.push hp (fun z => by have := big z; omega) (fun k q0 q1 => k1 k (by omega)) k2)
      · skip
        by_cases hx : h 54 0 ≤ 0
        · exfalso; omega
        refine wq_aload_n (kk := 0) (q := 104) rfl rfl rfl ?_
        refine wq_dup (q := 105) rfl rfl rfl ?_
        refine wq_getI (kz := 0) (q := 108) rfl f_St_21 rfl rfl (Or.inl ⟨rfl, Nat.le_of_ble_eq_true rfl⟩) rfl rfl ?_
        refine wq_iconst (n := 1) (q := 109) rfl rfl rfl ?_
        refine wq_isub (q := 110) rfl rfl (by omega) (by omega) ?_
        refine wq_putI (kz := 0) (q := 113) rfl f_St_21 rfl rfl rfl (Or.inl ⟨rfl, Nat.le_of_ble_eq_true rfl⟩) rfl rfl ?_
        refine St_put _ _ _ _ (hup h 54 0 (h 54 0 - 1)) r _ (by rw [hup_s]; omega) (fun h1 f1 k0 k1 k2 => ⟨rfl, rfl, ((fr.rf (S := spC) (h := h)).up (by decide)).trans f1 (fun _ q => q), ?_, by rw [k0, hup_s]; omega⟩)
        rw [hup_s] at k0 k1 k2
        unfold stI
        rw [k0]
        have e1 : h 54 0 - 1 + 1 = h 54 0 := by omega
        rw [e1]
        first
          | (exfalso; omega)
          | exact hI.repl hp (by omega) (by omega) (by omega) (fun k q0 q1 => by have := k1 k (by omega); rw [hup_i (by decide), hup_i (by decide), hup_i (by decide)] at this; exact this) k2
    · skip
      refine wq_iload_n (kk := 2) (q := 37) rfl rfl rfl ?_
      refine wq_aload_n (kk := 0) (q := 38) rfl rfl rfl ?_
      refine wq_getF (q := 41) f_St_15 rfl rfl (Nat.le_of_ble_eq_true rfl) rfl rfl rfl ?_
      refine wq_aload_n (kk := 0) (q := 42) rfl rfl rfl ?_
      refine wq_getI (kz := 0) (q := 45) rfl f_St_21 rfl rfl (Or.inl ⟨rfl, Nat.le_of_ble_eq_true rfl⟩) rfl rfl ?_
      refine wq_iconst (n := 1) (q := 46) rfl rfl rfl ?_
      refine wq_isub (q := 47) rfl rfl (by first | omega | (simp [hup]; omega)) (by first | omega | (simp [hup]; omega)) ?_
      refine wq_iald (q := 48) rfl (Or.inl ⟨rfl, Nat.le_of_ble_eq_true rfl⟩) rfl rfl (by first | omega | (simp [hup]; omega)) (by first | omega | (simp [hup]; omega)) ?_
      refine wq_icmp_lt (tgt := 98) (q := 51) rfl rfl rfl (fun c48 => ?_) (fun c48 => ?_)
      · skip
        refine wq_iload (i := 4) (q := 100) rfl rfl rfl ?_
        refine wq_if_eq (tgt := 113) (q := 103) rfl rfl rfl (fun c100 => ?_) (fun c100 => ?_)
        · skip
          first
            | (exfalso; omega)
            | (refine St_put _ _ _ _ h r _ (by omega) (fun h1 f1 k0 k1 k2 => ⟨rfl, rfl, f1, ?_, by omega⟩)
               unfold stI
               rw [k0]
               exact hI.push hp (fun z => by have := big z; omega) (fun k q0 q1 => k1 k (by omega)) k2)
        · skip
          by_cases hx : h 54 0 ≤ 0
          · exfalso; omega
          refine wq_aload_n (kk := 0) (q := 104) rfl rfl rfl ?_
          refine wq_dup (q := 105) rfl rfl rfl ?_
          refine wq_getI (kz := 0) (q := 108) rfl f_St_21 rfl rfl (Or.inl ⟨rfl, Nat.le_of_ble_eq_true rfl⟩) rfl rfl ?_
          refine wq_iconst (n := 1) (q := 109) rfl rfl rfl ?_
          refine wq_isub (q := 110) rfl rfl (by omega) (by omega) ?_
          refine wq_putI (kz := 0) (q := 113) rfl f_St_21 rfl rfl rfl (Or.inl ⟨rfl, Nat.le_of_ble_eq_true rfl⟩) rfl rfl ?_
          refine St_put _ _ _ _ (hup h 54 0 (h 54 0 - 1)) r _ (by rw [hup_s]; omega) (fun h1 f1 k0 k1 k2 => ⟨rfl, rfl, ((fr.rf (S := spC) (h := h)).up (by decide)).trans f1 (fun _ q => q), ?_, by rw [k0, hup_s]; omega⟩)
          rw [hup_s] at k0 k1 k2
          unfold stI
          rw [k0]
          have e1 : h 54 0 - 1 + 1 = h 54 0 := by omega
          rw [e1]
          first
            | (exfalso; omega)
            | exact hI.repl hp (by omega) (by omega) (by omega) (fun k q0 q1 => by have := k1 k (by omega); rw [hup_i (by decide), hup_i (by decide), hup_i (by decide)] at this; exact this) k2
      · skip
        refine wq_iload (i := 4) (q := 53) rfl rfl rfl ?_
        refine wq_if_eq (tgt := 97) (q := 56) rfl rfl rfl (fun c53 => ?_) (fun c53 => ?_)
        · skip
          refine wq_vret rfl rfl (Nat.le_refl _) (Nat.le_refl _) ⟨rfl, rfl, ?_, ?_, ?_⟩
          · first
              | exact fr.rf
              | exact fr.rf.up (by decide)
          · unfold stI
            first
              | (exact hI.dom hp hQ (by omega) (by omega) (by omega))
              | (rw [hup_i (by decide), hup_ne (by decide), hup_ne (by decide)]
                 exact hI.same hp (by omega) (by omega) (by omega) (fun k k0 k1 => by rw [hup_j (by omega)]) (by rw [hup_s]))
          · first | omega | (simp [hup]; done) | (simp [hup]; omega)
        · skip
          refine wq_iload_n (kk := 2) (q := 57) rfl rfl rfl ?_
          refine wq_aload_n (kk := 0) (q := 58) rfl rfl rfl ?_
          refine wq_getF (q := 61) f_St_15 rfl rfl (Nat.le_of_ble_eq_true rfl) rfl rfl rfl ?_
          refine wq_aload_n (kk := 0) (q := 62) rfl rfl rfl ?_
          refine wq_getI (kz := 0) (q := 65) rfl f_St_21 rfl rfl (Or.inl ⟨rfl, Nat.le_of_ble_eq_true rfl⟩) rfl rfl ?_
          refine wq_iconst (n := 1) (q := 66) rfl rfl rfl ?_
          refine wq_isub (q := 67) rfl rfl (by first | omega | (simp [hup]; omega)) (by first | omega | (simp [hup]; omega)) ?_
          refine wq_iald (q := 68) rfl (Or.inl ⟨rfl, Nat.le_of_ble_eq_true rfl⟩) rfl rfl (by first | omega | (simp [hup]; omega)) (by first | omega | (simp [hup]; omega)) ?_
          refine wq_icmp_ne (tgt := 97) (q := 71) rfl rfl rfl (fun c68 => ?_) (fun c68 => ?_)
          · skip
            refine wq_vret rfl rfl (Nat.le_refl _) (Nat.le_refl _) ⟨rfl, rfl, ?_, ?_, ?_⟩
            · first
                | exact fr.rf
                | exact fr.rf.up (by decide)
            · unfold stI
              first
                | (exact hI.dom hp hQ (by omega) (by omega) (by omega))
                | (rw [hup_i (by decide), hup_ne (by decide), hup_ne (by decide)]
                   exact hI.same hp (by omega) (by omega) (by omega) (fun k k0 k1 => by rw [hup_j (by omega)]) (by rw [hup_s]))
            · first | omega | (simp [hup]; done) | (simp [hup]; omega)
          · skip
            refine wq_aload_n (kk := 0) (q := 72) rfl rfl rfl ?_
            refine wq_getF (q := 75) f_St_18 rfl rfl (Nat.le_of_ble_eq_true rfl) rfl rfl rfl ?_
            refine wq_aload_n (kk := 0) (q := 76) rfl rfl rfl ?_
            refine wq_getI (kz := 0) (q := 79) rfl f_St_21 rfl rfl (Or.inl ⟨rfl, Nat.le_of_ble_eq_true rfl⟩) rfl rfl ?_
            refine wq_iconst (n := 1) (q := 80) rfl rfl rfl ?_
            refine wq_isub (q := 81) rfl rfl (by first | omega | (simp [hup]; omega)) (by first | omega | (simp [hup]; omega)) ?_
            refine wq_aload_n (kk := 0) (q := 82) rfl rfl rfl ?_
            refine wq_getF (q := 85) f_St_18 rfl rfl (Nat.le_of_ble_eq_true rfl) rfl rfl rfl ?_
            refine wq_aload_n (kk := 0) (q := 86) rfl rfl rfl ?_
            refine wq_getI (kz := 0) (q := 89) rfl f_St_21 rfl rfl (Or.inl ⟨rfl, Nat.le_of_ble_eq_true rfl⟩) rfl rfl ?_
            refine wq_iconst (n := 1) (q := 90) rfl rfl rfl ?_
            refine wq_isub (q := 91) rfl rfl (by first | omega | (simp [hup]; omega)) (by first | omega | (simp [hup]; omega)) ?_
            refine wq_iald (q := 92) rfl (Or.inl ⟨rfl, Nat.le_of_ble_eq_true rfl⟩) rfl rfl (by first | omega | (simp [hup]; omega)) (by first | omega | (simp [hup]; omega)) ?_
            refine wq_iload_n (kk := 3) (q := 93) rfl rfl rfl ?_
            refine wq_min (q := 96) k_St_47 k_math_min k_math_min_s k_math_i rfl rfl (Nat.le_of_ble_eq_true rfl) (Nat.le_of_ble_eq_true rfl) (Nat.le_refl _) (Nat.le_refl _) (Nat.le_of_ble_eq_true rfl) ?_
            refine wq_iast (q := 97) rfl (Or.inl ⟨rfl, Nat.le_of_ble_eq_true rfl⟩) rfl rfl (by first | omega | (simp [hup]; omega)) (by first | omega | (simp [hup]; omega)) ?_
            refine wq_vret rfl rfl (Nat.le_refl _) (Nat.le_refl _) ⟨rfl, rfl, ?_, ?_, ?_⟩
            · first
                | exact fr.rf
                | exact fr.rf.up (by decide)
            · unfold stI
              first
                | (exact hI.dom hp hQ (by omega) (by omega) (by omega))
                | (rw [hup_i (by decide), hup_ne (by decide), hup_ne (by decide)]
                   exact hI.same hp (by omega) (by omega) (by omega) (fun k k0 k1 => by rw [hup_j (by omega)]) (by rw [hup_s]))
            · first | omega | (simp [hup]; done) | (simp [hup]; omega)
  · skip
    refine wq_aload_n (kk := 0) (q := 8) rfl rfl rfl ?_
    refine wq_getF (q := 11) f_St_9 rfl rfl (Nat.le_of_ble_eq_true rfl) rfl rfl rfl ?_
    refine wq_aload_n (kk := 0) (q := 12) rfl rfl rfl ?_
    refine wq_getI (kz := 0) (q := 15) rfl f_St_21 rfl rfl (Or.inl ⟨rfl, Nat.le_of_ble_eq_true rfl⟩) rfl rfl ?_
    refine wq_iconst (n := 1) (q := 16) rfl rfl rfl ?_
    refine wq_isub (q := 17) rfl rfl (by first | omega | (simp [hup]; omega)) (by first | omega | (simp [hup]; omega)) ?_
    refine wq_iald (q := 18) rfl (Or.inl ⟨rfl, Nat.le_of_ble_eq_true rfl⟩) rfl rfl (by first | omega | (simp [hup]; omega)) (by first | omega | (simp [hup]; omega)) ?_
    refine wq_iload_n (kk := 1) (q := 19) rfl rfl rfl ?_
    refine wq_icmp_ne (tgt := 26) (q := 22) rfl rfl rfl (fun c19 => ?_) (fun c19 => ?_)
    · skip
      refine wq_iconst (n := 0) (q := 27) rfl rfl rfl ?_
      refine wq_istore (i := 4) (q := 29) rfl rfl (Nat.le_of_ble_eq_true rfl) rfl ?_
      refine wq_aload_n (kk := 0) (q := 30) rfl rfl rfl ?_
      refine wq_getI (kz := 0) (q := 33) rfl f_St_21 rfl rfl (Or.inl ⟨rfl, Nat.le_of_ble_eq_true rfl⟩) rfl rfl ?_
      refine wq_if_le (tgt := 98) (q := 36) rfl rfl rfl (fun c33 => ?_) (fun c33 => ?_)
      · skip
        refine wq_iload (i := 4) (q := 100) rfl rfl rfl ?_
        refine wq_if_eq (tgt := 113) (q := 103) rfl rfl rfl (fun c100 => ?_) (fun c100 => ?_)
        · skip
          first
            | (exfalso; omega)
            | (refine St_put _ _ _ _ h r _ (by omega) (fun h1 f1 k0 k1 k2 => ⟨rfl, rfl, f1, ?_, by omega⟩)
               unfold stI
               rw [k0]
               exact hI.push hp (fun z => by have := big z; omega) (fun k q0 q1 => k1 k (by omega)) k2)
        · skip
          by_cases hx : h 54 0 ≤ 0
          · exfalso; omega
          refine wq_aload_n (kk := 0) (q := 104) rfl rfl rfl ?_
          refine wq_dup (q := 105) rfl rfl rfl ?_
          refine wq_getI (kz := 0) (q := 108) rfl f_St_21 rfl rfl (Or.inl ⟨rfl, Nat.le_of_ble_eq_true rfl⟩) rfl rfl ?_
          refine wq_iconst (n := 1) (q := 109) rfl rfl rfl ?_
          refine wq_isub (q := 110) rfl rfl (by omega) (by omega) ?_
          refine wq_putI (kz := 0) (q := 113) rfl f_St_21 rfl rfl rfl (Or.inl ⟨rfl, Nat.le_of_ble_eq_true rfl⟩) rfl rfl ?_
          refine St_put _ _ _ _ (hup h 54 0 (h 54 0 - 1)) r _ (by rw [hup_s]; omega) (fun h1 f1 k0 k1 k2 => ⟨rfl, rfl, ((fr.rf (S := spC) (h := h)).up (by decide)).trans f1 (fun _ q => q), ?_, by rw [k0, hup_s]; omega⟩)
          rw [hup_s] at k0 k1 k2
          unfold stI
          rw [k0]
          have e1 : h 54 0 - 1 + 1 = h 54 0 := by omega
          rw [e1]
          first
            | (exfalso; omega)
            | exact hI.repl hp (by omega) (by omega) (by omega) (fun k q0 q1 => by have := k1 k (by omega); rw [hup_i (by decide), hup_i (by decide), hup_i (by decide)] at this; exact this) k2
      · skip
        refine wq_iload_n (kk := 2) (q := 37) rfl rfl rfl ?_
        refine wq_aload_n (kk := 0) (q := 38) rfl rfl rfl ?_
        refine wq_getF (q := 41) f_St_15 rfl rfl (Nat.le_of_ble_eq_true rfl) rfl rfl rfl ?_
        refine wq_aload_n (kk := 0) (q := 42) rfl rfl rfl ?_
        refine wq_getI (kz := 0) (q := 45) rfl f_St_21 rfl rfl (Or.inl ⟨rfl, Nat.le_of_ble_eq_true rfl⟩) rfl rfl ?_
        refine wq_iconst (n := 1) (q := 46) rfl rfl rfl ?_
        refine wq_isub (q := 47) rfl rfl (by first | omega | (simp [hup]; omega)) (by first | omega | (simp [hup]; omega)) ?_
        refine wq_iald (q := 48) rfl (Or.inl ⟨rfl, Nat.le_of_ble_eq_true rfl⟩) rfl rfl (by first | omega | (simp [hup]; omega)) (by first | omega | (simp [hup]; omega)) ?_
        refine wq_icmp_lt (tgt := 98) (q := 51) rfl rfl rfl (fun c48 => ?_) (fun c48 => ?_)
        · skip
          refine wq_iload (i := 4) (q := 100) rfl rfl rfl ?_
          refine wq_if_eq (tgt := 113) (q := 103) rfl rfl rfl (fun c100 => ?_) (fun c100 => ?_)
          · skip
            first
              | (exfalso; omega)
              | (refine St_put _ _ _ _ h r _ (by omega) (fun h1 f1 k0 k1 k2 => ⟨rfl, rfl, f1, ?_, by omega⟩)
                 unfold stI
                 rw [k0]
                 exact hI.push hp (fun z => by have := big z; omega) (fun k q0 q1 => k1 k (by omega)) k2)
          · skip
            by_cases hx : h 54 0 ≤ 0
            · exfalso; omega
            refine wq_aload_n (kk := 0) (q := 104) rfl rfl rfl ?_
            refine wq_dup (q := 105) rfl rfl rfl ?_
            refine wq_getI (kz := 0) (q := 108) rfl f_St_21 rfl rfl (Or.inl ⟨rfl, Nat.le_of_ble_eq_true rfl⟩) rfl rfl ?_
            refine wq_iconst (n := 1) (q := 109) rfl rfl rfl ?_
            refine wq_isub (q := 110) rfl rfl (by omega) (by omega) ?_
            refine wq_putI (kz := 0) (q := 113) rfl f_St_21 rfl rfl rfl (Or.inl ⟨rfl, Nat.le_of_ble_eq_true rfl⟩) rfl rfl ?_
            refine St_put _ _ _ _ (hup h 54 0 (h 54 0 - 1)) r _ (by rw [hup_s]; omega) (fun h1 f1 k0 k1 k2 => ⟨rfl, rfl, ((fr.rf (S := spC) (h := h)).up (by decide)).trans f1 (fun _ q => q), ?_, by rw [k0, hup_s]; omega⟩)
            rw [hup_s] at k0 k1 k2
            unfold stI
            rw [k0]
            have e1 : h 54 0 - 1 + 1 = h 54 0 := by omega
            rw [e1]
            first
              | (exfalso; omega)
              | exact hI.repl hp (by omega) (by omega) (by omega) (fun k q0 q1 => by have := k1 k (by omega); rw [hup_i (by decide), hup_i (by decide), hup_i (by decide)] at this; exact this) k2
        · skip
          refine wq_iload (i := 4) (q := 53) rfl rfl rfl ?_
          refine wq_if_eq (tgt := 97) (q := 56) rfl rfl rfl (fun c53 => ?_) (fun c53 => ?_)
          · skip
            refine wq_vret rfl rfl (Nat.le_refl _) (Nat.le_refl _) ⟨rfl, rfl, ?_, ?_, ?_⟩
            · first
                | exact fr.rf
                | exact fr.rf.up (by decide)
            · unfold stI
              first
                | (exact hI.dom hp hQ (by omega) (by omega) (by omega))
                | (rw [hup_i (by decide), hup_ne (by decide), hup_ne (by decide)]
                   exact hI.same hp (by omega) (by omega) (by omega) (fun k k0 k1 => by rw [hup_j (by omega)]) (by rw [hup_s]))
            · first | omega | (simp [hup]; done) | (simp [hup]; omega)
          · skip
            refine wq_iload_n (kk := 2) (q := 57) rfl rfl rfl ?_
            refine wq_aload_n (kk := 0) (q := 58) rfl rfl rfl ?_
            refine wq_getF (q := 61) f_St_15 rfl rfl (Nat.le_of_ble_eq_true rfl) rfl rfl rfl ?_
            refine wq_aload_n (kk := 0) (q := 62) rfl rfl rfl ?_
            refine wq_getI (kz := 0) (q := 65) rfl f_St_21 rfl rfl (Or.inl ⟨rfl, Nat.le_of_ble_eq_true rfl⟩) rfl rfl ?_
            refine wq_iconst (n := 1) (q := 66) rfl rfl rfl ?_
            refine wq_isub (q := 67) rfl rfl (by first | omega | (simp [hup]; omega)) (by first | omega | (simp [hup]; omega)) ?_
            refine wq_iald (q := 68) rfl (Or.inl ⟨rfl, Nat.le_of_ble_eq_true rfl⟩) rfl rfl (by first | omega | (simp [hup]; omega)) (by first | omega | (simp [hup]; omega)) ?_
            refine wq_icmp_ne (tgt := 97) (q := 71) rfl rfl rfl (fun c68 => ?_) (fun c68 => ?_)
            · skip
              refine wq_vret rfl rfl (Nat.le_refl _) (Nat.le_refl _) ⟨rfl, rfl, ?_, ?_, ?_⟩
              · first
                  | exact fr.rf
                  | exact fr.rf.up (by decide)
              · unfold stI
                first
                  | (exact hI.dom hp hQ (by omega) (by omega) (by omega))
                  | (rw [hup_i (by decide), hup_ne (by decide), hup_ne (by decide)]
                     exact hI.same hp (by omega) (by omega) (by omega) (fun k k0 k1 => by rw [hup_j (by omega)]) (by rw [hup_s]))
              · first | omega | (simp [hup]; done) | (simp [hup]; omega)
            · skip
              refine wq_aload_n (kk := 0) (q := 72) rfl rfl rfl ?_
              refine wq_getF (q := 75) f_St_18 rfl rfl (Nat.le_of_ble_eq_true rfl) rfl rfl rfl ?_
              refine wq_aload_n (kk := 0) (q := 76) rfl rfl rfl ?_
              refine wq_getI (kz := 0) (q := 79) rfl f_St_21 rfl rfl (Or.inl ⟨rfl, Nat.le_of_ble_eq_true rfl⟩) rfl rfl ?_
              refine wq_iconst (n := 1) (q := 80) rfl rfl rfl ?_
              refine wq_isub (q := 81) rfl rfl (by first | omega | (simp [hup]; omega)) (by first | omega | (simp [hup]; omega)) ?_
              refine wq_aload_n (kk := 0) (q := 82) rfl rfl rfl ?_
              refine wq_getF (q := 85) f_St_18 rfl rfl (Nat.le_of_ble_eq_true rfl) rfl rfl rfl ?_
              refine wq_aload_n (kk := 0) (q := 86) rfl rfl rfl ?_
              refine wq_getI (kz := 0) (q := 89) rfl f_St_21 rfl rfl (Or.inl ⟨rfl, Nat.le_of_ble_eq_true rfl⟩) rfl rfl ?_
              refine wq_iconst (n := 1) (q := 90) rfl rfl rfl ?_
              refine wq_isub (q := 91) rfl rfl (by first | omega | (simp [hup]; omega)) (by first | omega | (simp [hup]; omega)) ?_
              refine wq_iald (q := 92) rfl (Or.inl ⟨rfl, Nat.le_of_ble_eq_true rfl⟩) rfl rfl (by first | omega | (simp [hup]; omega)) (by first | omega | (simp [hup]; omega)) ?_
              refine wq_iload_n (kk := 3) (q := 93) rfl rfl rfl ?_
              refine wq_min (q := 96) k_St_47 k_math_min k_math_min_s k_math_i rfl rfl (Nat.le_of_ble_eq_true rfl) (Nat.le_of_ble_eq_true rfl) (Nat.le_refl _) (Nat.le_refl _) (Nat.le_of_ble_eq_true rfl) ?_
              refine wq_iast (q := 97) rfl (Or.inl ⟨rfl, Nat.le_of_ble_eq_true rfl⟩) rfl rfl (by first | omega | (simp [hup]; omega)) (by first | omega | (simp [hup]; omega)) ?_
              refine wq_vret rfl rfl (Nat.le_refl _) (Nat.le_refl _) ⟨rfl, rfl, ?_, ?_, ?_⟩
              · first
                  | exact fr.rf
                  | exact fr.rf.up (by decide)
              · unfold stI
                first
                  | (exact hI.dom hp hQ (by omega) (by omega) (by omega))
                  | (rw [hup_i (by decide), hup_ne (by decide), hup_ne (by decide)]
                     exact hI.same hp (by omega) (by omega) (by omega) (fun k k0 k1 => by rw [hup_j (by omega)]) (by rw [hup_s]))
              · first | omega | (simp [hup]; done) | (simp [hup]; omega)
    · skip
      refine wq_iconst (n := 1) (q := 23) rfl rfl rfl ?_
      refine wq_goto (tgt := 27) rfl rfl ?_
      refine wq_istore (i := 4) (q := 29) rfl rfl (Nat.le_of_ble_eq_true rfl) rfl ?_
      refine wq_aload_n (kk := 0) (q := 30) rfl rfl rfl ?_
      refine wq_getI (kz := 0) (q := 33) rfl f_St_21 rfl rfl (Or.inl ⟨rfl, Nat.le_of_ble_eq_true rfl⟩) rfl rfl ?_
      refine wq_if_le (tgt := 98) (q := 36) rfl rfl rfl (fun c33 => ?_) (fun c33 => ?_)
      · skip
        refine wq_iload (i := 4) (q := 100) rfl rfl rfl ?_
        refine wq_if_eq (tgt := 113) (q := 103) rfl rfl rfl (fun c100 => ?_) (fun c100 => ?_)
        · skip
          first
            | (exfalso; omega)
            | (refine St_put _ _ _ _ h r _ (by omega) (fun h1 f1 k0 k1 k2 => ⟨rfl, rfl, f1, ?_, by omega⟩)
               unfold stI
               rw [k0]
               exact hI.push hp (fun z => by have := big z; omega) (fun k q0 q1 => k1 k (by omega)) k2)
        · skip
          by_cases hx : h 54 0 ≤ 0
          · exfalso; omega
          refine wq_aload_n (kk := 0) (q := 104) rfl rfl rfl ?_
          refine wq_dup (q := 105) rfl rfl rfl ?_
          refine wq_getI (kz := 0) (q := 108) rfl f_St_21 rfl rfl (Or.inl ⟨rfl, Nat.le_of_ble_eq_true rfl⟩) rfl rfl ?_
          refine wq_iconst (n := 1) (q := 109) rfl rfl rfl ?_
          refine wq_isub (q := 110) rfl rfl (by omega) (by omega) ?_
          refine wq_putI (kz := 0) (q := 113) rfl f_St_21 rfl rfl rfl (Or.inl ⟨rfl, Nat.le_of_ble_eq_true rfl⟩) rfl rfl ?_
          refine St_put _ _ _ _ (hup h 54 0 (h 54 0 - 1)) r _ (by rw [hup_s]; omega) (fun h1 f1 k0 k1 k2 => ⟨rfl, rfl, ((fr.rf (S := spC) (h := h)).up (by decide)).trans f1 (fun _ q => q), ?_, by rw [k0, hup_s]; omega⟩)
          rw [hup_s] at k0 k1 k2
          unfold stI
          rw [k0]
          have e1 : h 54 0 - 1 + 1 = h 54 0 := by omega
          rw [e1]
          first
            | (exfalso; omega)
            | exact hI.repl hp (by omega) (by omega) (by omega) (fun k q0 q1 => by have := k1 k (by omega); rw [hup_i (by decide), hup_i (by decide), hup_i (by decide)] at this; exact this) k2
      · skip
        refine wq_iload_n (kk := 2) (q := 37) rfl rfl rfl ?_
        refine wq_aload_n (kk := 0) (q := 38) rfl rfl rfl ?_
        refine wq_getF (q := 41) f_St_15 rfl rfl (Nat.le_of_ble_eq_true rfl) rfl rfl rfl ?_
        refine wq_aload_n (kk := 0) (q := 42) rfl rfl rfl ?_
        refine wq_getI (kz := 0) (q := 45) rfl f_St_21 rfl rfl (Or.inl ⟨rfl, Nat.le_of_ble_eq_true rfl⟩) rfl rfl ?_
        refine wq_iconst (n := 1) (q := 46) rfl rfl rfl ?_
        refine wq_isub (q := 47) rfl rfl (by first | omega | (simp [hup]; omega)) (by first | omega | (simp [hup]; omega)) ?_
        refine wq_iald (q := 48) rfl (Or.inl ⟨rfl, Nat.le_of_ble_eq_true rfl⟩) rfl rfl (by first | omega | (simp [hup]; omega)) (by first | omega | (simp [hup]; omega)) ?_
        refine wq_icmp_lt (tgt := 98) (q := 51) rfl rfl rfl (fun c48 => ?_) (fun c48 => ?_)
        · skip
          refine wq_iload (i := 4) (q := 100) rfl rfl rfl ?_
          refine wq_if_eq (tgt := 113) (q := 103) rfl rfl rfl (fun c100 => ?_) (fun c100 => ?_)
          · skip
            first
              | (exfalso; omega)
              | (refine St_put _ _ _ _ h r _ (by omega) (fun h1 f1 k0 k1 k2 => ⟨rfl, rfl, f1, ?_, by omega⟩)
                 unfold stI
                 rw [k0]
                 exact hI.push hp (fun z => by have := big z; omega) (fun k q0 q1 => k1 k (by omega)) k2)
          · skip
            by_cases hx : h 54 0 ≤ 0
            · exfalso; omega
            refine wq_aload_n (kk := 0) (q := 104) rfl rfl rfl ?_
            refine wq_dup (q := 105) rfl rfl rfl ?_
            refine wq_getI (kz := 0) (q := 108) rfl f_St_21 rfl rfl (Or.inl ⟨rfl, Nat.le_of_ble_eq_true rfl⟩) rfl rfl ?_
            refine wq_iconst (n := 1) (q := 109) rfl rfl rfl ?_
            refine wq_isub (q := 110) rfl rfl (by omega) (by omega) ?_
            refine wq_putI (kz := 0) (q := 113) rfl f_St_21 rfl rfl rfl (Or.inl ⟨rfl, Nat.le_of_ble_eq_true rfl⟩) rfl rfl ?_
            refine St_put _ _ _ _ (hup h 54 0 (h 54 0 - 1)) r _ (by rw [hup_s]; omega) (fun h1 f1 k0 k1 k2 => ⟨rfl, rfl, ((fr.rf (S := spC) (h := h)).up (by decide)).trans f1 (fun _ q => q), ?_, by rw [k0, hup_s]; omega⟩)
            rw [hup_s] at k0 k1 k2
            unfold stI
            rw [k0]
            have e1 : h 54 0 - 1 + 1 = h 54 0 := by omega
            rw [e1]
            first
              | (exfalso; omega)
              | exact hI.repl hp (by omega) (by omega) (by omega) (fun k q0 q1 => by have := k1 k (by omega); rw [hup_i (by decide), hup_i (by decide), hup_i (by decide)] at this; exact this) k2
        · skip
          refine wq_iload (i := 4) (q := 53) rfl rfl rfl ?_
          refine wq_if_eq (tgt := 97) (q := 56) rfl rfl rfl (fun c53 => ?_) (fun c53 => ?_)
          · skip
            refine wq_vret rfl rfl (Nat.le_refl _) (Nat.le_refl _) ⟨rfl, rfl, ?_, ?_, ?_⟩
            · first
                | exact fr.rf
                | exact fr.rf.up (by decide)
            · unfold stI
              first
                | (exact hI.dom hp hQ (by omega) (by omega) (by omega))
                | (rw [hup_i (by decide), hup_ne (by decide), hup_ne (by decide)]
                   exact hI.same hp (by omega) (by omega) (by omega) (fun k k0 k1 => by rw [hup_j (by omega)]) (by rw [hup_s]))
            · first | omega | (simp [hup]; done) | (simp [hup]; omega)
          · skip
            refine wq_iload_n (kk := 2) (q := 57) rfl rfl rfl ?_
            refine wq_aload_n (kk := 0) (q := 58) rfl rfl rfl ?_
            refine wq_getF (q := 61) f_St_15 rfl rfl (Nat.le_of_ble_eq_true rfl) rfl rfl rfl ?_
            refine wq_aload_n (kk := 0) (q := 62) rfl rfl rfl ?_
            refine wq_getI (kz := 0) (q := 65) rfl f_St_21 rfl rfl (Or.inl ⟨rfl, Nat.le_of_ble_eq_true rfl⟩) rfl rfl ?_
            refine wq_iconst (n := 1) (q := 66) rfl rfl rfl ?_
            refine wq_isub (q := 67) rfl rfl (by first | omega | (simp [hup]; omega)) (by first | omega | (simp [hup]; omega)) ?_
            refine wq_iald (q := 68) rfl (Or.inl ⟨rfl, Nat.le_of_ble_eq_true rfl⟩) rfl rfl (by first | omega | (simp [hup]; omega)) (by first | omega | (simp [hup]; omega)) ?_
            refine wq_icmp_ne (tgt := 97) (q := 71) rfl rfl rfl (fun c68 => ?_) (fun c68 => ?_)
            · skip
              refine wq_vret rfl rfl (Nat.le_refl _) (Nat.le_refl _) ⟨rfl, rfl, ?_, ?_, ?_⟩
              · first
                  | exact fr.rf
                  | exact fr.rf.up (by decide)
              · unfold stI
                first
                  | (exact hI.dom hp hQ (by omega) (by omega) (by omega))
                  | (rw [hup_i (by decide), hup_ne (by decide), hup_ne (by decide)]
                     exact hI.same hp (by omega) (by omega) (by omega) (fun k k0 k1 => by rw [hup_j (by omega)]) (by rw [hup_s]))
              · first | omega | (simp [hup]; done) | (simp [hup]; omega)
            · skip
              refine wq_aload_n (kk := 0) (q := 72) rfl rfl rfl ?_
              refine wq_getF (q := 75) f_St_18 rfl rfl (Nat.le_of_ble_eq_true rfl) rfl rfl rfl ?_
              refine wq_aload_n (kk := 0) (q := 76) rfl rfl rfl ?_
              refine wq_getI (kz := 0) (q := 79) rfl f_St_21 rfl rfl (Or.inl ⟨rfl, Nat.le_of_ble_eq_true rfl⟩) rfl rfl ?_
              refine wq_iconst (n := 1) (q := 80) rfl rfl rfl ?_
              refine wq_isub (q := 81) rfl rfl (by first | omega | (simp [hup]; omega)) (by first | omega | (simp [hup]; omega)) ?_
              refine wq_aload_n (kk := 0) (q := 82) rfl rfl rfl ?_
              refine wq_getF (q := 85) f_St_18 rfl rfl (Nat.le_of_ble_eq_true rfl) rfl rfl rfl ?_
              refine wq_aload_n (kk := 0) (q := 86) rfl rfl rfl ?_
              refine wq_getI (kz := 0) (q := 89) rfl f_St_21 rfl rfl (Or.inl ⟨rfl, Nat.le_of_ble_eq_true rfl⟩) rfl rfl ?_
              refine wq_iconst (n := 1) (q := 90) rfl rfl rfl ?_
              refine wq_isub (q := 91) rfl rfl (by first | omega | (simp [hup]; omega)) (by first | omega | (simp [hup]; omega)) ?_
              refine wq_iald (q := 92) rfl (Or.inl ⟨rfl, Nat.le_of_ble_eq_true rfl⟩) rfl rfl (by first | omega | (simp [hup]; omega)) (by first | omega | (simp [hup]; omega)) ?_
              refine wq_iload_n (kk := 3) (q := 93) rfl rfl rfl ?_
              refine wq_min (q := 96) k_St_47 k_math_min k_math_min_s k_math_i rfl rfl (Nat.le_of_ble_eq_true rfl) (Nat.le_of_ble_eq_true rfl) (Nat.le_refl _) (Nat.le_refl _) (Nat.le_of_ble_eq_true rfl) ?_
              refine wq_iast (q := 97) rfl (Or.inl ⟨rfl, Nat.le_of_ble_eq_true rfl⟩) rfl rfl (by first | omega | (simp [hup]; omega)) (by first | omega | (simp [hup]; omega)) ?_
              refine wq_vret rfl rfl (Nat.le_refl _) (Nat.le_refl _) ⟨rfl, rfl, ?_, ?_, ?_⟩
              · first
                  | exact fr.rf
                  | exact fr.rf.up (by decide)
              · unfold stI
                first
                  | (exact hI.dom hp hQ (by omega) (by omega) (by omega))
                  | (rw [hup_i (by decide), hup_ne (by decide), hup_ne (by decide)]
                     exact hI.same hp (by omega) (by omega) (by omega) (fun k k0 k1 => by rw [hup_j (by omega)]) (by rw [hup_s]))
              · first | omega | (simp [hup]; done) | (simp [hup]; omega)
theorem StR.cQ {N : mN} {a B : Int} {e t : mF} {Q Q' : Int → Prop} {c : Int} {sl sa sc : mF} (h : StR N a B e t Q c sl sa sc) (hQ : ∀ d, Pa N B e a d → (Q d ↔ Q' d)) : StR N a B e t Q' c sl sa sc :=
  ⟨h.1, fun k k0 k1 => by
    obtain ⟨d, q0, q1, q2⟩ := h.2.1 k k0 k1
    exact ⟨d, (hQ d q1).mp q0, q1, q2⟩, h.2.2.1, fun d hd hp => h.2.2.2 d ((hQ d hp).mpr hd) hp⟩
abbrev coQ (N : mN) (a : Int) (h : mH) (r : mR) : mP := fun rv h1 r1 => rv = none ∧ r1 = r ∧ fr spC h h1 ∧ stI N a (h 44) (h 45) (fun _ => True) h1 ∧ h1 54 0 ≤ 120
set_option maxRecDepth 100000 in
set_option maxHeartbeats 2000000 in
theorem St_collA (N : mN) (a b : Int) (h : mH) (r : mR) (hw : netW h r N) (ha : 0 ≤ a ∧ a < nS N) (hA : aimed N b h) : ∀ (M : Nat) (p : Int) (h' : mH) (z : Option mV), (p + 1 - h 37 a).toNat = M → h 37 a - 1 ≤ p → p < h 37 (a + 1) → fr spC h h' → stI N a (h 44) (h 45) (fun x => ∃ q, p < q ∧ q < h 37 (a + 1) ∧ h 36 q = x) h' → h' 54 0 ≤ h 37 (a + 1) - 1 - p → WP (true, rm 3) m_St_collect (rt m_St_collect (rm 3) (coQ N a h r)) 17 [some (vR 54), some (vR 31), some (vR 40), some (vI a), some (vI p), z] [] h' r (0, 0) := by
  intro M
  induction M using Nat.strongRecOn with
  | ind M ih =>
    intro p h' z hM p0 p1 hf hI hc
    obtain ⟨hnde, hV, hN, hO, hG⟩ := id hw
    have hn := hV.1
    have hS := hV.2.1
    have g1 := hG.1 a ha.1 ha.2
    have e37 : h' 37 = h 37 := hf 37 (by decide)
    have e36 : h' 36 = h 36 := hf 36 (by decide)
    have e44 : h' 44 = h 44 := hf 44 (by decide)
    have e45 : h' 45 = h 45 := hf 45 (by decide)
    have e32 : h' 32 = h 32 := hf 32 (by decide)
    have gd : h 37 a ≤ p → dp N (h 36 p) ∧ frm N (h 36 p) = a := fun y => hG.2.1 a p ha.1 ha.2 y p1
    have el : h 37 a ≤ p → h 32 (h 36 p) = lv N (h 36 p) := fun y => (hN.2.2.1 _ (gd y).1).1
    have hb : h 37 a ≤ p → (rn N (h 36 p) ≠ 1 → h 44 (h 36 p) = 1000000) ∧ (h 44 (h 36 p) = 1000000 ∨ (0 ≤ h 44 (h 36 p) ∧ h 44 (h 36 p) ≤ 1700) ∧ 0 ≤ h 45 (h 36 p) ∧ h 45 (h 36 p) < h 46 (h 36 p) ∧ h 46 (h 36 p) ≤ 120) := fun y => hA.2 _ (gd y).1
    refine wq_iload (i := 4) (q := 19) rfl rfl rfl ?_
    refine wq_aload_n (kk := 1) (q := 20) rfl rfl rfl ?_
    refine wq_getF (q := 23) f_St_25 rfl rfl (Nat.le_of_ble_eq_true rfl) rfl rfl rfl ?_
    refine wq_iload_n (kk := 3) (q := 24) rfl rfl rfl ?_
    refine wq_iald (q := 25) rfl (Or.inl ⟨rfl, Nat.le_of_ble_eq_true rfl⟩) rfl rfl (by first | omega | (rw [e37]; omega) | (have y := gd (by rw [e37] at *; omega); have y1 := y.1.1; have y2 := y.1.2; first | omega | (rw [e36]; omega))) (by first | omega | (rw [e37]; omega) | (have y := gd (by rw [e37] at *; omega); have y1 := y.1.1; have y2 := y.1.2; first | omega | (rw [e36]; omega))) ?_
    rw [e37]
    refine wq_icmp_lt (tgt := 80) (q := 28) rfl rfl rfl (fun c25 => ?_) (fun c25 => ?_)
    · skip
      refine wq_vret rfl rfl (Nat.le_refl _) (Nat.le_refl _) ⟨rfl, rfl, hf, hI.cQ (fun x hx => ⟨fun _ => trivial, fun _ => ?_⟩), by omega⟩
      obtain ⟨q, q0, q1, q2⟩ := hG.2.2.1 x hx.1
      rw [hx.2.2.1] at q0 q1
      exact ⟨q, by omega, q1, q2⟩
    · skip
      refine wq_aload_n (kk := 1) (q := 29) rfl rfl rfl ?_
      refine wq_getF (q := 32) f_St_30 rfl rfl (Nat.le_of_ble_eq_true rfl) rfl rfl rfl ?_
      refine wq_iload (i := 4) (q := 34) rfl rfl rfl ?_
      refine wq_iald (q := 35) rfl (Or.inl ⟨rfl, Nat.le_of_ble_eq_true rfl⟩) rfl rfl (by first | omega | (rw [e37]; omega) | (have y := gd (by rw [e37] at *; omega); have y1 := y.1.1; have y2 := y.1.2; first | omega | (rw [e36]; omega))) (by first | omega | (rw [e37]; omega) | (have y := gd (by rw [e37] at *; omega); have y1 := y.1.1; have y2 := y.1.2; first | omega | (rw [e36]; omega))) ?_
      rw [e36]
      refine wq_istore (i := 5) (q := 37) rfl rfl (Nat.le_of_ble_eq_true rfl) rfl ?_
      refine wq_aload_n (kk := 2) (q := 38) rfl rfl rfl ?_
      refine wq_getF (q := 41) f_St_33 rfl rfl (Nat.le_of_ble_eq_true rfl) rfl rfl rfl ?_
      refine wq_iload (i := 5) (q := 43) rfl rfl rfl ?_
      refine wq_iald (q := 44) rfl (Or.inl ⟨rfl, Nat.le_of_ble_eq_true rfl⟩) rfl rfl (by first | omega | (rw [e37]; omega) | (have y := gd (by rw [e37] at *; omega); have y1 := y.1.1; have y2 := y.1.2; first | omega | (rw [e36]; omega))) (by first | omega | (rw [e37]; omega) | (have y := gd (by rw [e37] at *; omega); have y1 := y.1.1; have y2 := y.1.2; first | omega | (rw [e36]; omega))) ?_
      rw [e44]
      refine wq_ldc (n := 1000000) (q := 46) k_St_38 rfl rfl rfl ?_
      refine wq_icmp_ge (tgt := 74) (q := 49) rfl rfl rfl (fun c46 => ?_) (fun c46 => ?_)
      · skip
        refine wq_iinc (i := 4) (n := -1) (q := 77) rfl rfl rfl (Nat.le_of_ble_eq_true rfl) rfl (by omega) (by omega) ?_
        refine wq_goto (tgt := 17) rfl rfl ?_
        refine ih _ ?_ (p + -1) h' _ rfl (by omega) (by omega) hf (hI.cQ (fun x hx => ⟨?_, ?_⟩)) (by omega)
        · omega
        · rintro ⟨q, q0, q1, q2⟩
          exact ⟨q, by omega, q1, q2⟩
        · rintro ⟨q, q0, q1, q2⟩
          by_cases eq : q = p
          · subst eq
            have y := hb (by omega)
            have := hx.2.2.2
            rw [← q2] at this
            omega
          · exact ⟨q, by omega, q1, q2⟩
      · skip
        refine wq_aload_n (kk := 0) (q := 50) rfl rfl rfl ?_
        refine wq_aload_n (kk := 1) (q := 51) rfl rfl rfl ?_
        refine wq_getF (q := 54) f_St_39 rfl rfl (Nat.le_of_ble_eq_true rfl) rfl rfl rfl ?_
        refine wq_iload (i := 5) (q := 56) rfl rfl rfl ?_
        refine wq_iald (q := 57) rfl (Or.inl ⟨rfl, Nat.le_of_ble_eq_true rfl⟩) rfl rfl (by first | omega | (rw [e37]; omega) | (have y := gd (by rw [e37] at *; omega); have y1 := y.1.1; have y2 := y.1.2; first | omega | (rw [e36]; omega))) (by first | omega | (rw [e37]; omega) | (have y := gd (by rw [e37] at *; omega); have y1 := y.1.1; have y2 := y.1.2; first | omega | (rw [e36]; omega))) ?_
        rw [e32, el (by omega)]
        refine wq_aload_n (kk := 2) (q := 58) rfl rfl rfl ?_
        refine wq_getF (q := 61) f_St_33 rfl rfl (Nat.le_of_ble_eq_true rfl) rfl rfl rfl ?_
        refine wq_iload (i := 5) (q := 63) rfl rfl rfl ?_
        refine wq_iald (q := 64) rfl (Or.inl ⟨rfl, Nat.le_of_ble_eq_true rfl⟩) rfl rfl (by first | omega | (rw [e37]; omega) | (have y := gd (by rw [e37] at *; omega); have y1 := y.1.1; have y2 := y.1.2; first | omega | (rw [e36]; omega))) (by first | omega | (rw [e37]; omega) | (have y := gd (by rw [e37] at *; omega); have y1 := y.1.1; have y2 := y.1.2; first | omega | (rw [e36]; omega))) ?_
        refine wq_aload_n (kk := 2) (q := 65) rfl rfl rfl ?_
        refine wq_getF (q := 68) f_St_42 rfl rfl (Nat.le_of_ble_eq_true rfl) rfl rfl rfl ?_
        refine wq_iload (i := 5) (q := 70) rfl rfl rfl ?_
        refine wq_iald (q := 71) rfl (Or.inl ⟨rfl, Nat.le_of_ble_eq_true rfl⟩) rfl rfl (by first | omega | (rw [e37]; omega) | (have y := gd (by rw [e37] at *; omega); have y1 := y.1.1; have y2 := y.1.2; first | omega | (rw [e36]; omega))) (by first | omega | (rw [e37]; omega) | (have y := gd (by rw [e37] at *; omega); have y1 := y.1.1; have y2 := y.1.2; first | omega | (rw [e36]; omega))) ?_
        rw [e44, e45]
        refine wq_callV (q := 74) (m' := m_St_consider) (R' := rm 2) (As := [_, _, _]) rfl rfl l_St_43 vm_St_consider rfl rfl rfl (Or.inl ⟨rfl, Nat.le_of_ble_eq_true rfl⟩) (Nat.le_of_ble_eq_true rfl) (Nat.le_of_ble_eq_true rfl) (Nat.le_refl _) (Nat.le_refl _) (Nat.le_of_ble_eq_true rfl) (St_consider_ok N a (h 36 p) (h 44) (h 45) _ h' r ⟨(gd (by omega)).1, by have y := hb (by omega); have y2 := (hV.2.2.1 _ (gd (by omega)).1).2.2.2.2; omega, (gd (by omega)).2, by omega⟩ (by rintro x ⟨q, q0, q1, rfl⟩; have := hG.2.2.2 a p q ha.1 ha.2 (by omega) q0 q1; unfold ol at this; omega) hI (by omega)) rfl ?_
        rintro rv h2 r2 ⟨rfl, rfl, f2, hI2, c2⟩ -
        refine wq_iinc (i := 4) (n := -1) (q := 77) rfl rfl rfl (Nat.le_of_ble_eq_true rfl) rfl (by omega) (by omega) ?_
        refine wq_goto (tgt := 17) rfl rfl ?_
        refine ih _ ?_ (p + -1) h2 _ rfl (by omega) (by omega) (hf.trans f2 (fun _ q => q)) (hI2.cQ (fun x hx => ⟨?_, ?_⟩)) (by omega)
        · omega
        · rintro (⟨q, q0, q1, q2⟩ | rfl)
          · exact ⟨q, by omega, q1, q2⟩
          · exact ⟨p, by omega, p1, rfl⟩
        · rintro ⟨q, q0, q1, q2⟩
          by_cases eq : q = p
          · subst eq; exact Or.inr q2.symm
          · exact Or.inl ⟨q, by omega, q1, q2⟩
set_option maxRecDepth 100000 in
theorem St_collect_ok (N : mN) (a b : Int) (h : mH) (r : mR) (hw : netW h r N) (ha : 0 ≤ a ∧ a < nS N) (hA : aimed N b h) : Meets true (rm 3) m_St_collect [vR 54, vR 31, vR 40, vI a] h r (coQ N a h r) := by
  obtain ⟨hnde, hV, hN, hO, hG⟩ := id hw
  have g1 := hG.1 a ha.1 ha.2
  have hS := hV.2.1
  have hn := hV.1
  refine ⟨ok_St_collect, Nat.le_of_ble_eq_true rfl, ?_⟩
  refine wq_aload_n (kk := 0) (q := 1) rfl rfl rfl ?_
  refine wq_iconst (n := 0) (q := 2) rfl rfl rfl ?_
  refine wq_putI (kz := 0) (q := 5) rfl f_St_21 rfl rfl rfl (Or.inl ⟨rfl, Nat.le_of_ble_eq_true rfl⟩) rfl rfl ?_
  refine wq_aload_n (kk := 1) (q := 6) rfl rfl rfl ?_
  refine wq_getF (q := 9) f_St_25 rfl rfl (Nat.le_of_ble_eq_true rfl) rfl rfl rfl ?_
  refine wq_iload_n (kk := 3) (q := 10) rfl rfl rfl ?_
  refine wq_iconst (n := 1) (q := 11) rfl rfl rfl ?_
  refine wq_iadd (q := 12) rfl rfl (by first | omega | (simp [hup]; omega)) (by first | omega | (simp [hup]; omega)) ?_
  refine wq_iald (q := 13) rfl (Or.inl ⟨rfl, Nat.le_of_ble_eq_true rfl⟩) rfl rfl (by first | omega | (simp [hup]; omega)) (by first | omega | (simp [hup]; omega)) ?_
  rw [show hup h 54 0 0 37 (a + 1) = h 37 (a + 1) from hup_i (by decide)]
  refine wq_iconst (n := 1) (q := 14) rfl rfl rfl ?_
  refine wq_isub (q := 15) rfl rfl (by first | omega | (simp [hup]; omega)) (by first | omega | (simp [hup]; omega)) ?_
  refine wq_istore (i := 4) (q := 17) rfl rfl (Nat.le_of_ble_eq_true rfl) rfl ?_
  have f0 : fr spC h (hup h 54 0 0) := fr.rf.up (by decide)
  have q := St_collA N a b (hup h 54 0 0) r (hw.fr f0 (by decide)) ha (hA.fr f0 (by decide)) _ (h 37 (a + 1) - 1) (hup h 54 0 0) none rfl (by rw [hup_i (by decide)]; omega) (by rw [hup_i (by decide)]; omega) fr.rf ?_ (by rw [hup_s, hup_i (by decide)]; omega)
  · refine WP.trans q (fun pc ls st h2 r2 u hx => WP.exit ⟨hx.1, hx.2.1, hx.2.2.imp (fun ⟨z1, x, z2, z3, z4⟩ => ⟨z1, x, z2, z3, ?_⟩) (fun z => z.imp (fun ⟨z1, z2, z3, z4⟩ => ⟨z1, z2, z3, ?_⟩) (fun ⟨z1, x, z2, z3, z4⟩ => ⟨z1, x, z2, z3, ?_⟩))⟩)
    all_goals
      obtain ⟨w1, w2, w3, w4, w5⟩ := z4
      refine ⟨w1, w2, f0.trans w3 (fun _ q => q), ?_, w5⟩
      rw [f0 44 (by decide), f0 45 (by decide)] at w4
      exact w4
  · unfold stI
    rw [hup_s]
    refine ⟨by omega, fun k k0 k1 => by omega, fun k j k0 kj j1 => by omega, ?_⟩
    rintro x ⟨q, q0, q1, -⟩
    rw [hup_i (by decide)] at q1
    omega
/-- the latest departure from a by which one arrives by then -/
def Las (N : mN) (a B : Int) (e : mF) (y v : Int) : Prop := (v = -2 ∧ ∀ d, Pa N B e a d → ¬ e d ≤ y) ∨ ∃ d, Pa N B e a d ∧ e d ≤ y ∧ v = lv N d ∧ ∀ g, Pa N B e a g → e g ≤ y → lv N g ≤ v
set_option maxRecDepth 100000 in
theorem St_lastA (N : mN) (a : Int) (e t : mF) (y : Int) (h : mH) (r : mR) (hI : stI N a e t (fun _ => True) h) (hc : h 54 0 ≤ 120) : ∀ (M : Nat) (k : Int), (h 54 0 - k).toNat = M → 0 ≤ k → k ≤ h 54 0 → (∀ j, 0 ≤ j → j < k → y < h 56 j) → WP (true, rm 1) m_St_lastStartFor (rt m_St_lastStartFor (rm 1) (fun rv h1 r1 => ∃ v, rv = some (vI v) ∧ h1 = h ∧ r1 = r ∧ Las N a 1000000 e y v)) 2 [some (vR 54), some (vI y), some (vI k)] [] h r (0, 0) := by
  intro M
  induction M using Nat.strongRecOn with
  | ind M ih =>
    intro k hM k0 k1 hx
    refine wq_iload_n (kk := 2) (q := 3) rfl rfl rfl ?_
    refine wq_aload_n (kk := 0) (q := 4) rfl rfl rfl ?_
    refine wq_getI (kz := 0) (q := 7) rfl f_St_21 rfl rfl (Or.inl ⟨rfl, Nat.le_of_ble_eq_true rfl⟩) rfl rfl ?_
    refine wq_icmp_ge (tgt := 33) (q := 10) rfl rfl rfl (fun c7 => ?_) (fun c7 => ?_)
    · skip
      refine wq_bipush (n := -2) (q := 35) rfl rfl rfl ?_
      refine wq_iret rfl rfl (Nat.le_refl _) (Nat.le_refl _) ⟨_, rfl, rfl, rfl, Or.inl ⟨rfl, fun d hd hy => ?_⟩⟩
      obtain ⟨j, j0, j1, j2, j3, -⟩ := hI.2.2.2 d trivial hd
      have := hx j j0 (by omega)
      omega
    · skip
      refine wq_aload_n (kk := 0) (q := 11) rfl rfl rfl ?_
      refine wq_getF (q := 14) f_St_15 rfl rfl (Nat.le_of_ble_eq_true rfl) rfl rfl rfl ?_
      refine wq_iload_n (kk := 2) (q := 15) rfl rfl rfl ?_
      refine wq_iald (q := 16) rfl (Or.inl ⟨rfl, Nat.le_of_ble_eq_true rfl⟩) rfl rfl (by first | omega | (simp [hup]; omega)) (by first | omega | (simp [hup]; omega)) ?_
      refine wq_iload_n (kk := 1) (q := 17) rfl rfl rfl ?_
      refine wq_icmp_gt (tgt := 27) (q := 20) rfl rfl rfl (fun c17 => ?_) (fun c17 => ?_)
      · skip
        refine wq_iinc (i := 2) (n := 1) (q := 30) rfl rfl rfl (Nat.le_of_ble_eq_true rfl) rfl (by first | omega | (simp [hup]; omega)) (by first | omega | (simp [hup]; omega)) ?_
        refine wq_goto (tgt := 2) rfl rfl ?_
        refine ih _ ?_ (k + 1) rfl (by omega) (by omega) (fun j j0 j1 => ?_)
        · omega
        · by_cases ej : j = k
          · subst ej; omega
          · exact hx j j0 (by omega)
      · skip
        refine wq_aload_n (kk := 0) (q := 21) rfl rfl rfl ?_
        refine wq_getF (q := 24) f_St_9 rfl rfl (Nat.le_of_ble_eq_true rfl) rfl rfl rfl ?_
        refine wq_iload_n (kk := 2) (q := 25) rfl rfl rfl ?_
        refine wq_iald (q := 26) rfl (Or.inl ⟨rfl, Nat.le_of_ble_eq_true rfl⟩) rfl rfl (by first | omega | (simp [hup]; omega)) (by first | omega | (simp [hup]; omega)) ?_
        refine wq_iret rfl rfl (Nat.le_refl _) (Nat.le_refl _) ⟨_, rfl, rfl, rfl, Or.inr ?_⟩
        obtain ⟨d, -, d1, d2, d3, -⟩ := hI.2.1 k k0 (by omega)
        refine ⟨d, d1, by omega, d2.symm, fun g hg hy => ?_⟩
        obtain ⟨j, j0, j1, j2, j3, -⟩ := hI.2.2.2 g trivial hg
        rcases (show j < k ∨ j = k ∨ k < j by omega) with q | q | q
        · have := hx j j0 q; omega
        · subst q; omega
        · have := (hI.2.2.1 k j k0 q j1).1; omega
set_option maxRecDepth 100000 in
theorem St_last_ok (N : mN) (a : Int) (e t : mF) (y : Int) (h : mH) (r : mR) (hI : stI N a e t (fun _ => True) h) (hc : h 54 0 ≤ 120) : Meets true (rm 1) m_St_lastStartFor [vR 54, vI y] h r (fun rv h1 r1 => ∃ v, rv = some (vI v) ∧ h1 = h ∧ r1 = r ∧ Las N a 1000000 e y v) := by
  have := hI.1
  refine ⟨ok_St_lastStartFor, Nat.le_of_ble_eq_true rfl, ?_⟩
  refine wq_iconst (n := 0) (q := 1) rfl rfl rfl ?_
  refine wq_istore_n (kk := 2) (q := 2) rfl rfl (Nat.le_of_ble_eq_true rfl) rfl ?_
  exact St_lastA N a e t y h r hI hc _ 0 rfl (by omega) (by omega) (fun j j0 j1 => by omega)
/-- the least of sa - sl -/
def Lea (c : Int) (sl sa : mF) (v : Int) : Prop := (c = 0 ∧ v = -2) ∨ (0 < c ∧ (∃ k, 0 ≤ k ∧ k < c ∧ v = sa k - sl k) ∧ ∀ k, 0 ≤ k → k < c → v ≤ sa k - sl k)
set_option maxRecDepth 100000 in
theorem St_leastA (h : mH) (r : mR) (hc : 0 ≤ h 54 0 ∧ h 54 0 ≤ 120) (hb : ∀ k, 0 ≤ k → k < h 54 0 → 0 ≤ h 55 k ∧ h 55 k < h 56 k ∧ h 56 k ≤ 1700) : ∀ (M : Nat) (k v : Int) (z : Option mV), (h 54 0 - k).toNat = M → 0 ≤ k → k ≤ h 54 0 → Lea k (h 55) (h 56) v → WP (true, rm 1) m_St_leastTicks (rt m_St_leastTicks (rm 1) (fun rv h1 r1 => ∃ v, rv = some (vI v) ∧ h1 = h ∧ r1 = r ∧ Lea (h 54 0) (h 55) (h 56) v)) 5 [some (vR 54), some (vI v), some (vI k), z] [] h r (0, 0) := by
  intro M
  induction M using Nat.strongRecOn with
  | ind M ih =>
    intro k v z hM k0 k1 hL
    have hbk := hb k k0
    refine wq_iload_n (kk := 2) (q := 6) rfl rfl rfl ?_
    refine wq_aload_n (kk := 0) (q := 7) rfl rfl rfl ?_
    refine wq_getI (kz := 0) (q := 10) rfl f_St_21 rfl rfl (Or.inl ⟨rfl, Nat.le_of_ble_eq_true rfl⟩) rfl rfl ?_
    refine wq_icmp_ge (tgt := 46) (q := 13) rfl rfl rfl (fun c10 => ?_) (fun c10 => ?_)
    · skip
      refine wq_iload_n (kk := 1) (q := 47) rfl rfl rfl ?_
      have ek : k = h 54 0 := by omega
      subst ek
      exact wq_iret rfl rfl (Nat.le_refl _) (Nat.le_refl _) ⟨v, rfl, rfl, rfl, hL⟩
    · skip
      refine wq_aload_n (kk := 0) (q := 14) rfl rfl rfl ?_
      refine wq_getF (q := 17) f_St_15 rfl rfl (Nat.le_of_ble_eq_true rfl) rfl rfl rfl ?_
      refine wq_iload_n (kk := 2) (q := 18) rfl rfl rfl ?_
      refine wq_iald (q := 19) rfl (Or.inl ⟨rfl, Nat.le_of_ble_eq_true rfl⟩) rfl rfl (by first | omega | (have := hbk (by omega); omega)) (by first | omega | (have := hbk (by omega); omega)) ?_
      refine wq_aload_n (kk := 0) (q := 20) rfl rfl rfl ?_
      refine wq_getF (q := 23) f_St_9 rfl rfl (Nat.le_of_ble_eq_true rfl) rfl rfl rfl ?_
      refine wq_iload_n (kk := 2) (q := 24) rfl rfl rfl ?_
      refine wq_iald (q := 25) rfl (Or.inl ⟨rfl, Nat.le_of_ble_eq_true rfl⟩) rfl rfl (by first | omega | (have := hbk (by omega); omega)) (by first | omega | (have := hbk (by omega); omega)) ?_
      refine wq_isub (q := 26) rfl rfl (by first | omega | (have := hbk (by omega); omega)) (by first | omega | (have := hbk (by omega); omega)) ?_
      refine wq_istore_n (kk := 3) (q := 27) rfl rfl (Nat.le_of_ble_eq_true rfl) rfl ?_
      refine wq_iload_n (kk := 1) (q := 28) rfl rfl rfl ?_
      refine wq_bipush (n := -2) (q := 30) rfl rfl rfl ?_
      refine wq_icmp_eq (tgt := 38) (q := 33) rfl rfl rfl (fun c30 => ?_) (fun c30 => ?_)
      · skip
        refine wq_iload_n (kk := 3) (q := 39) rfl rfl rfl ?_
        refine wq_istore_n (kk := 1) (q := 40) rfl rfl (Nat.le_of_ble_eq_true rfl) rfl ?_
        refine wq_iinc (i := 2) (n := 1) (q := 43) rfl rfl rfl (Nat.le_of_ble_eq_true rfl) rfl (by omega) (by omega) ?_
        refine wq_goto (tgt := 5) rfl rfl ?_
        have hk := hbk (by omega)
        have hv : v = -2 ∨ 0 < v ∧ 0 < k := by
          rcases hL with ⟨-, q⟩ | ⟨q0, ⟨j, j0, j1, j2⟩, -⟩
          · exact Or.inl q
          · have := hb j j0 (by omega)
            exact Or.inr ⟨by omega, q0⟩
        refine ih _ ?_ (k + 1) _ _ rfl (by omega) (by omega) (Or.inr ⟨by omega, ?_, ?_⟩)
        · omega
        · first
            | exact ⟨k, k0, by omega, rfl⟩
            | (rcases hL with ⟨-, q⟩ | ⟨q0, ⟨j, j0, j1, j2⟩, -⟩
               · exfalso; omega
               · exact ⟨j, j0, by omega, j2⟩)
        · intro j j0 j1
          by_cases ej : j = k
          · subst ej; omega
          · rcases hL with ⟨q1, q⟩ | ⟨q0, ⟨i, i0, i1, i2⟩, q2⟩
            · omega
            · have := q2 j j0 (by omega)
              have := hb i i0 (by omega)
              omega
      · skip
        refine wq_iload_n (kk := 3) (q := 34) rfl rfl rfl ?_
        refine wq_iload_n (kk := 1) (q := 35) rfl rfl rfl ?_
        refine wq_icmp_ge (tgt := 40) (q := 38) rfl rfl rfl (fun c35 => ?_) (fun c35 => ?_)
        · skip
          refine wq_iinc (i := 2) (n := 1) (q := 43) rfl rfl rfl (Nat.le_of_ble_eq_true rfl) rfl (by omega) (by omega) ?_
          refine wq_goto (tgt := 5) rfl rfl ?_
          have hk := hbk (by omega)
          have hv : v = -2 ∨ 0 < v ∧ 0 < k := by
            rcases hL with ⟨-, q⟩ | ⟨q0, ⟨j, j0, j1, j2⟩, -⟩
            · exact Or.inl q
            · have := hb j j0 (by omega)
              exact Or.inr ⟨by omega, q0⟩
          refine ih _ ?_ (k + 1) _ _ rfl (by omega) (by omega) (Or.inr ⟨by omega, ?_, ?_⟩)
          · omega
          · first
              | exact ⟨k, k0, by omega, rfl⟩
              | (rcases hL with ⟨-, q⟩ | ⟨q0, ⟨j, j0, j1, j2⟩, -⟩
                 · exfalso; omega
                 · exact ⟨j, j0, by omega, j2⟩)
          · intro j j0 j1
            by_cases ej : j = k
            · subst ej; omega
            · rcases hL with ⟨q1, q⟩ | ⟨q0, ⟨i, i0, i1, i2⟩, q2⟩
              · omega
              · have := q2 j j0 (by omega)
                have := hb i i0 (by omega)
                omega
        · skip
          refine wq_iload_n (kk := 3) (q := 39) rfl rfl rfl ?_
          refine wq_istore_n (kk := 1) (q := 40) rfl rfl (Nat.le_of_ble_eq_true rfl) rfl ?_
          refine wq_iinc (i := 2) (n := 1) (q := 43) rfl rfl rfl (Nat.le_of_ble_eq_true rfl) rfl (by omega) (by omega) ?_
          refine wq_goto (tgt := 5) rfl rfl ?_
          have hk := hbk (by omega)
          have hv : v = -2 ∨ 0 < v ∧ 0 < k := by
            rcases hL with ⟨-, q⟩ | ⟨q0, ⟨j, j0, j1, j2⟩, -⟩
            · exact Or.inl q
            · have := hb j j0 (by omega)
              exact Or.inr ⟨by omega, q0⟩
          refine ih _ ?_ (k + 1) _ _ rfl (by omega) (by omega) (Or.inr ⟨by omega, ?_, ?_⟩)
          · omega
          · first
              | exact ⟨k, k0, by omega, rfl⟩
              | (rcases hL with ⟨-, q⟩ | ⟨q0, ⟨j, j0, j1, j2⟩, -⟩
                 · exfalso; omega
                 · exact ⟨j, j0, by omega, j2⟩)
          · intro j j0 j1
            by_cases ej : j = k
            · subst ej; omega
            · rcases hL with ⟨q1, q⟩ | ⟨q0, ⟨i, i0, i1, i2⟩, q2⟩
              · omega
              · have := q2 j j0 (by omega)
                have := hb i i0 (by omega)
                omega
set_option maxRecDepth 100000 in
theorem St_least_ok (h : mH) (r : mR) (hc : 0 ≤ h 54 0 ∧ h 54 0 ≤ 120) (hb : ∀ k, 0 ≤ k → k < h 54 0 → 0 ≤ h 55 k ∧ h 55 k < h 56 k ∧ h 56 k ≤ 1700) : Meets true (rm 1) m_St_leastTicks [vR 54] h r (fun rv h1 r1 => ∃ v, rv = some (vI v) ∧ h1 = h ∧ r1 = r ∧ Lea (h 54 0) (h 55) (h 56) v) := by
  refine ⟨ok_St_leastTicks, Nat.le_of_ble_eq_true rfl, ?_⟩
  refine wq_bipush (n := -2) (q := 2) rfl rfl rfl ?_
  refine wq_istore_n (kk := 1) (q := 3) rfl rfl (Nat.le_of_ble_eq_true rfl) rfl ?_
  refine wq_iconst (n := 0) (q := 4) rfl rfl rfl ?_
  refine wq_istore_n (kk := 2) (q := 5) rfl rfl (Nat.le_of_ble_eq_true rfl) rfl ?_
  exact St_leastA h r hc hb _ 0 (-2) _ rfl (by omega) (by omega) (Or.inl ⟨rfl, rfl⟩)

/-- the least arrival of departures from a that leave at y or later -/
def Mi (N : mN) (a B : Int) (e : mF) (y v : Int) : Prop := (∃ d, Pa N B e a d ∧ y ≤ lv N d ∧ e d = v) ∧ ∀ d, Pa N B e a d → y ≤ lv N d → v ≤ e d
def Spe (N : mN) (a B : Int) (e : mF) (y z v : Int) : Prop := (v = -2 ∧ ∃ q, y ≤ q ∧ q ≤ z ∧ ∀ d, Pa N B e a d → ¬ q ≤ lv N d) ∨ ∃ g : mF, (∀ q, y ≤ q → q ≤ z → Mi N a B e q (g q)) ∧ v = sm (fun i => g (z - i) - (z - i)) (z - y + 1).toNat
theorem Mi.uniq {N : mN} {a B : Int} {e : mF} {y v w : Int} (h : Mi N a B e y v) (k : Mi N a B e y w) : v = w := by
  obtain ⟨⟨d, d1, d2, d3⟩, h2⟩ := h
  obtain ⟨⟨g, g1, g2, g3⟩, k2⟩ := k
  have := h2 g g1 g2
  have := k2 d d1 d2
  omega
set_option maxRecDepth 100000 in
set_option maxHeartbeats 1000000 in
theorem St_tickB (N : mN) (a : Int) (e t : mF) (y q s z : Int) (g : mF) (h : mH) (r : mR) (hI : stI N a e t (fun _ => True) h) (hc : h 54 0 ≤ 120) (hq : 0 ≤ q ∧ q ≤ 1999) (hs : -10000000 ≤ s ∧ s ≤ 10000000) (hb : ∀ k, 0 ≤ k → k < h 54 0 → 0 ≤ h 55 k ∧ h 55 k < h 56 k ∧ h 56 k ≤ 1700) (Q : mX) (K : ∀ k, 0 ≤ k → k < h 54 0 → q ≤ h 55 k → Mi N a 1000000 e q (h 56 k) → WP (true, rm 1) m_St_ticksOver Q 28 [some (vR 54), some (vI y), some (vI z), some (vI (s + (h 56 k - q))), some (vI k), some (vI (q + -1))] [] h r (0, 0)) : ∀ (M : Nat) (k : Int), (h 54 0 - k).toNat = M → 0 ≤ k → k < h 54 0 → q ≤ h 55 k → WP (true, rm 1) m_St_ticksOver Q 34 [some (vR 54), some (vI y), some (vI z), some (vI s), some (vI k), some (vI q)] [] h r (0, 0) := by
  intro M
  induction M using Nat.strongRecOn with
  | ind M ih =>
    intro k hM k0 k1 hk
    have hbk := hb k k0 k1
    refine wq_iload (i := 4) (q := 36) rfl rfl rfl ?_
    refine wq_iconst (n := 1) (q := 37) rfl rfl rfl ?_
    refine wq_iadd (q := 38) rfl rfl (by first | omega | (simp [hup]; omega)) (by first | omega | (simp [hup]; omega)) ?_
    refine wq_aload_n (kk := 0) (q := 39) rfl rfl rfl ?_
    refine wq_getI (kz := 0) (q := 42) rfl f_St_21 rfl rfl (Or.inl ⟨rfl, Nat.le_of_ble_eq_true rfl⟩) rfl rfl ?_
    refine wq_icmp_ge (tgt := 65) (q := 45) rfl rfl rfl (fun c42 => ?_) (fun c42 => ?_)
    · skip
      refine wq_iload_n (kk := 3) (q := 66) rfl rfl rfl ?_
      refine wq_aload_n (kk := 0) (q := 67) rfl rfl rfl ?_
      refine wq_getF (q := 70) f_St_15 rfl rfl (Nat.le_of_ble_eq_true rfl) rfl rfl rfl ?_
      refine wq_iload (i := 4) (q := 72) rfl rfl rfl ?_
      refine wq_iald (q := 73) rfl (Or.inl ⟨rfl, Nat.le_of_ble_eq_true rfl⟩) rfl rfl (by first | omega | (simp [hup]; omega)) (by first | omega | (simp [hup]; omega)) ?_
      refine wq_iload (i := 5) (q := 75) rfl rfl rfl ?_
      refine wq_isub (q := 76) rfl rfl (by first | omega | (simp [hup]; omega)) (by first | omega | (simp [hup]; omega)) ?_
      refine wq_iadd (q := 77) rfl rfl (by first | omega | (simp [hup]; omega)) (by first | omega | (simp [hup]; omega)) ?_
      refine wq_istore_n (kk := 3) (q := 78) rfl rfl (Nat.le_of_ble_eq_true rfl) rfl ?_
      refine wq_iinc (i := 5) (n := -1) (q := 81) rfl rfl rfl (Nat.le_of_ble_eq_true rfl) rfl (by first | omega | (simp [hup]; omega)) (by first | omega | (simp [hup]; omega)) ?_
      refine wq_goto (tgt := 28) rfl rfl ?_
      refine K k k0 k1 hk ?_
      obtain ⟨d, -, d1, d2, d3, -⟩ := hI.2.1 k k0 k1
      refine ⟨⟨d, d1, by omega, d3⟩, fun x hx hy => ?_⟩
      obtain ⟨j, j0, j1, j2, j3, -⟩ := hI.2.2.2 x trivial hx
      rcases (show j ≤ k ∨ k < j by omega) with w | w
      · rcases (show j = k ∨ j < k by omega) with w | w
        · subst w; omega
        · have := (hI.2.2.1 j k j0 w k1).2; omega
      · exfalso
        have z1 : h 55 j ≤ h 55 (k + 1) := by
          rcases (show j = k + 1 ∨ k + 1 < j by omega) with u | u
          · subst u; omega
          · have := (hI.2.2.1 (k + 1) j (by omega) u j1).1; omega
        omega
    · skip
      refine wq_aload_n (kk := 0) (q := 46) rfl rfl rfl ?_
      refine wq_getF (q := 49) f_St_9 rfl rfl (Nat.le_of_ble_eq_true rfl) rfl rfl rfl ?_
      refine wq_iload (i := 4) (q := 51) rfl rfl rfl ?_
      refine wq_iconst (n := 1) (q := 52) rfl rfl rfl ?_
      refine wq_iadd (q := 53) rfl rfl (by first | omega | (simp [hup]; omega)) (by first | omega | (simp [hup]; omega)) ?_
      refine wq_iald (q := 54) rfl (Or.inl ⟨rfl, Nat.le_of_ble_eq_true rfl⟩) rfl rfl (by first | omega | (simp [hup]; omega)) (by first | omega | (simp [hup]; omega)) ?_
      refine wq_iload (i := 5) (q := 56) rfl rfl rfl ?_
      refine wq_icmp_lt (tgt := 65) (q := 59) rfl rfl rfl (fun c56 => ?_) (fun c56 => ?_)
      · skip
        refine wq_iload_n (kk := 3) (q := 66) rfl rfl rfl ?_
        refine wq_aload_n (kk := 0) (q := 67) rfl rfl rfl ?_
        refine wq_getF (q := 70) f_St_15 rfl rfl (Nat.le_of_ble_eq_true rfl) rfl rfl rfl ?_
        refine wq_iload (i := 4) (q := 72) rfl rfl rfl ?_
        refine wq_iald (q := 73) rfl (Or.inl ⟨rfl, Nat.le_of_ble_eq_true rfl⟩) rfl rfl (by first | omega | (simp [hup]; omega)) (by first | omega | (simp [hup]; omega)) ?_
        refine wq_iload (i := 5) (q := 75) rfl rfl rfl ?_
        refine wq_isub (q := 76) rfl rfl (by first | omega | (simp [hup]; omega)) (by first | omega | (simp [hup]; omega)) ?_
        refine wq_iadd (q := 77) rfl rfl (by first | omega | (simp [hup]; omega)) (by first | omega | (simp [hup]; omega)) ?_
        refine wq_istore_n (kk := 3) (q := 78) rfl rfl (Nat.le_of_ble_eq_true rfl) rfl ?_
        refine wq_iinc (i := 5) (n := -1) (q := 81) rfl rfl rfl (Nat.le_of_ble_eq_true rfl) rfl (by first | omega | (simp [hup]; omega)) (by first | omega | (simp [hup]; omega)) ?_
        refine wq_goto (tgt := 28) rfl rfl ?_
        refine K k k0 k1 hk ?_
        obtain ⟨d, -, d1, d2, d3, -⟩ := hI.2.1 k k0 k1
        refine ⟨⟨d, d1, by omega, d3⟩, fun x hx hy => ?_⟩
        obtain ⟨j, j0, j1, j2, j3, -⟩ := hI.2.2.2 x trivial hx
        rcases (show j ≤ k ∨ k < j by omega) with w | w
        · rcases (show j = k ∨ j < k by omega) with w | w
          · subst w; omega
          · have := (hI.2.2.1 j k j0 w k1).2; omega
        · exfalso
          have z1 : h 55 j ≤ h 55 (k + 1) := by
            rcases (show j = k + 1 ∨ k + 1 < j by omega) with u | u
            · subst u; omega
            · have := (hI.2.2.1 (k + 1) j (by omega) u j1).1; omega
          omega
      · skip
        refine wq_iinc (i := 4) (n := 1) (q := 62) rfl rfl rfl (Nat.le_of_ble_eq_true rfl) rfl (by first | omega | (simp [hup]; omega)) (by first | omega | (simp [hup]; omega)) ?_
        refine wq_goto (tgt := 34) rfl rfl ?_
        refine ih _ ?_ (k + 1) rfl (by omega) (by omega) (by omega)
        omega
set_option maxRecDepth 100000 in
set_option maxHeartbeats 1000000 in
theorem St_tickA (N : mN) (a : Int) (e t : mF) (y z : Int) (h : mH) (r : mR) (hI : stI N a e t (fun _ => True) h) (hc : h 54 0 ≤ 120) (hy : 0 ≤ y ∧ y ≤ z ∧ z ≤ 1999) (hb : ∀ k, 0 ≤ k → k < h 54 0 → 0 ≤ h 55 k ∧ h 55 k < h 56 k ∧ h 56 k ≤ 1700) : ∀ (M : Nat) (q s k : Int) (g : mF), (q + 1 - y).toNat = M → y - 1 ≤ q → q ≤ z → 0 ≤ k → k < h 54 0 → q ≤ h 55 k → (∀ u, q < u → u ≤ z → Mi N a 1000000 e u (g u)) → s = sm (fun i => g (z - i) - (z - i)) (z - q).toNat → -(2000 * (z - q)) ≤ s → s ≤ 2000 * (z - q) → WP (true, rm 1) m_St_ticksOver (rt m_St_ticksOver (rm 1) (fun rv h1 r1 => ∃ v, rv = some (vI v) ∧ h1 = h ∧ r1 = r ∧ Spe N a 1000000 e y z v)) 28 [some (vR 54), some (vI y), some (vI z), some (vI s), some (vI k), some (vI q)] [] h r (0, 0) := by
  intro M
  induction M using Nat.strongRecOn with
  | ind M ih =>
    intro q s k g hM q0 q1 k0 k1 hk hg hs s1 s2
    refine wq_iload (i := 5) (q := 30) rfl rfl rfl ?_
    refine wq_iload_n (kk := 1) (q := 31) rfl rfl rfl ?_
    refine wq_icmp_lt (tgt := 84) (q := 34) rfl rfl rfl (fun c31 => ?_) (fun c31 => ?_)
    · skip
      refine wq_iload_n (kk := 3) (q := 85) rfl rfl rfl ?_
      refine wq_iret rfl rfl (Nat.le_refl _) (Nat.le_refl _) ⟨s, rfl, rfl, rfl, Or.inr ⟨g, fun u u0 u1 => hg u (by omega) u1, ?_⟩⟩
      rw [hs]
      congr 1
      omega
    · skip
      refine St_tickB N a e t y q s z g h r hI hc (by omega) (by omega) hb _ (fun j j0 j1 j2 j3 => ?_) _ k rfl k0 k1 hk
      have hbj := hb j j0 j1
      refine ih _ ?_ (q + -1) _ j (fun u => if u = q then h 56 j else g u) rfl (by omega) (by omega) j0 j1 (by omega) (fun u u0 u1 => ?_) ?_ (by omega) (by omega)
      · omega
      · by_cases eu : u = q
        · subst eu; rw [if_pos rfl]; exact j3
        · rw [if_neg eu]; exact hg u (by omega) u1
      · have e1 : (z - (q + -1)).toNat = (z - q).toNat + 1 := by omega
        have e2 : z - (((z - q).toNat : Nat) : Int) = q := by omega
        rw [e1, sm, e2, if_pos rfl, hs]
        congr 1
        exact sm_congr (fun d d0 d1 => by rw [if_neg (by omega)])
set_option maxRecDepth 100000 in
theorem St_tick_ok (N : mN) (a : Int) (e t : mF) (y z : Int) (h : mH) (r : mR) (hI : stI N a e t (fun _ => True) h) (hc : h 54 0 ≤ 120) (hy : 0 ≤ y ∧ y ≤ z ∧ z ≤ 1999) (hb : ∀ k, 0 ≤ k → k < h 54 0 → 0 ≤ h 55 k ∧ h 55 k < h 56 k ∧ h 56 k ≤ 1700) : Meets true (rm 1) m_St_ticksOver [vR 54, vI y, vI z] h r (fun rv h1 r1 => ∃ v, rv = some (vI v) ∧ h1 = h ∧ r1 = r ∧ Spe N a 1000000 e y z v) := by
  have h0 := hI.1
  have none : (∀ k, 0 ≤ k → k < h 54 0 → h 55 k < z) → Spe N a 1000000 e y z (-2) := fun w => by
    refine Or.inl ⟨rfl, z, by omega, by omega, fun d hd hz => ?_⟩
    obtain ⟨j, j0, j1, j2, -⟩ := hI.2.2.2 d trivial hd
    have := w j j0 j1
    omega
  refine ⟨ok_St_ticksOver, Nat.le_of_ble_eq_true rfl, ?_⟩
  refine wq_aload_n (kk := 0) (q := 1) rfl rfl rfl ?_
  refine wq_getI (kz := 0) (q := 4) rfl f_St_21 rfl rfl (Or.inl ⟨rfl, Nat.le_of_ble_eq_true rfl⟩) rfl rfl ?_
  refine wq_if_eq (tgt := 17) (q := 7) rfl rfl rfl (fun c4 => ?_) (fun c4 => ?_)
  · skip
    refine wq_bipush (n := -2) (q := 19) rfl rfl rfl ?_
    refine wq_iret rfl rfl (Nat.le_refl _) (Nat.le_refl _) ⟨-2, rfl, rfl, rfl, none (fun k k0 k1 => ?_)⟩
    first
      | (exfalso; omega)
      | (rcases (show k = 0 ∨ 0 < k by omega) with w | w
         · subst w; omega
         · have := (hI.2.2.1 0 k (by omega) w k1).1; omega)
  · skip
    refine wq_iload_n (kk := 2) (q := 8) rfl rfl rfl ?_
    refine wq_aload_n (kk := 0) (q := 9) rfl rfl rfl ?_
    refine wq_getF (q := 12) f_St_9 rfl rfl (Nat.le_of_ble_eq_true rfl) rfl rfl rfl ?_
    refine wq_iconst (n := 0) (q := 13) rfl rfl rfl ?_
    refine wq_iald (q := 14) rfl (Or.inl ⟨rfl, Nat.le_of_ble_eq_true rfl⟩) rfl rfl (by first | omega | (simp [hup]; omega)) (by first | omega | (simp [hup]; omega)) ?_
    refine wq_icmp_le (tgt := 20) (q := 17) rfl rfl rfl (fun c14 => ?_) (fun c14 => ?_)
    · skip
      refine wq_iconst (n := 0) (q := 21) rfl rfl rfl ?_
      refine wq_istore_n (kk := 3) (q := 22) rfl rfl (Nat.le_of_ble_eq_true rfl) rfl ?_
      refine wq_iconst (n := 0) (q := 23) rfl rfl rfl ?_
      refine wq_istore (i := 4) (q := 25) rfl rfl (Nat.le_of_ble_eq_true rfl) rfl ?_
      refine wq_iload_n (kk := 2) (q := 26) rfl rfl rfl ?_
      refine wq_istore (i := 5) (q := 28) rfl rfl (Nat.le_of_ble_eq_true rfl) rfl ?_
      refine St_tickA N a e t y z h r hI hc hy hb _ z 0 0 (fun _ => 0) rfl (by omega) (by omega) (by omega) (by omega) (by omega) (fun u u0 u1 => by omega) ?_ (by omega) (by omega)
      have e1 : (z - z).toNat = 0 := by omega
      rw [e1]
      rfl
    · skip
      refine wq_bipush (n := -2) (q := 19) rfl rfl rfl ?_
      refine wq_iret rfl rfl (Nat.le_refl _) (Nat.le_refl _) ⟨-2, rfl, rfl, rfl, none (fun k k0 k1 => ?_)⟩
      first
        | (exfalso; omega)
        | (rcases (show k = 0 ∨ 0 < k by omega) with w | w
           · subst w; omega
           · have := (hI.2.2.1 0 k (by omega) w k1).1; omega)

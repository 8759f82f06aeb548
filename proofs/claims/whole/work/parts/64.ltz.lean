def Hu (T : mF) (n v : Int) : Prop := (v = -2 ∧ ∀ s, 0 ≤ s → s < n → T s ≤ 0) ∨ ((0 ≤ v ∧ v < n) ∧ 0 < T v ∧ ∀ s, 0 ≤ s → s < n → T s ≤ T v ∧ (s < v → T s < T v))
theorem Hu.uniq {T T' : mF} {n v w : Int} (h : Hu T n v) (h' : Hu T' n w) (e : ∀ s, 0 ≤ s → s < n → T' s = T s) : v = w := by
  rcases h with ⟨h1, h2⟩ | ⟨h1, h2, h3⟩ <;> rcases h' with ⟨k1, k2⟩ | ⟨k1, k2, k3⟩
  · omega
  · have := h2 w k1.1 k1.2
    have := e w k1.1 k1.2
    omega
  · have := k2 v h1.1 h1.2
    have := e v h1.1 h1.2
    omega
  · have a1 := h3 w k1.1 k1.2
    have a2 := k3 v h1.1 h1.2
    have := e w k1.1 k1.2
    have := e v h1.1 h1.2
    omega
set_option maxRecDepth 100000 in
set_option maxHeartbeats 1000000 in
theorem Lt_hubL (t : Int) (h : mH) (r : mR) (h1 : mH) (r1 : mR) (q1 : qf h r h1 r1) (P : Int → Int → Prop) (K : ∀ v, Hu (h1 43) (h 2 1) v → P v 0) : ∀ (M : Nat) (s u w : Int), (h 2 1 - s).toNat = M → 0 ≤ s → s ≤ h 2 1 → Hu (h1 43) s u → (u = -2 ∧ w = 0 ∨ 0 ≤ u ∧ w = h1 43 u) → WP (true, rm 6) m_Lt_hub (rt m_Lt_hub (rm 6) (qP h r P)) 45 [some (vR 0), some (vI t), some (vI u), some (vI w), some (vI s)] [] h1 r1 (0, 0) := by
  intro M
  induction M using Nat.strongRecOn with
  | ind M ih =>
    intro s u w hM s0 s1 hi hw
    have hcur := q1.cur
    have e2 := q1.at2 1
    have hS := q1.DV.2.1
    refine wq_iload (i := 4) (q := 47) rfl rfl rfl ?_
    refine wq_aload_n (kk := 0) (q := 48) rfl rfl rfl ?_
    refine wq_getR (q := 51) f_Lt_16 rfl rfl (Or.inl ⟨rfl, Nat.le_of_ble_eq_true rfl⟩) hcur rfl rfl ?_
    refine wq_getI (kz := 1) (q := 54) rfl f_Lt_126 rfl rfl (Or.inl ⟨rfl, Nat.le_of_ble_eq_true rfl⟩) rfl rfl ?_
    refine wq_icmp_ge (tgt := 91) (q := 57) rfl rfl rfl (fun c54 => ?_) (fun c54 => ?_)
    · skip
      refine wq_aload_n (kk := 0) (q := 92) rfl rfl rfl ?_
      refine wq_iload_n (kk := 2) (q := 93) rfl rfl rfl ?_
      refine wq_callV (q := 96) (m' := m_Lt_answer) (R' := rm 1) (As := [_]) rfl rfl l_Lt_113 vm_Lt_answer rfl rfl rfl (Or.inl ⟨rfl, Nat.le_of_ble_eq_true rfl⟩) (Nat.le_of_ble_eq_true rfl) (Nat.le_of_ble_eq_true rfl) (Nat.le_refl _) (Nat.le_refl _) (Nat.le_of_ble_eq_true rfl) (Lt_answer_ok _ h1 r1) rfl ?_
      rintro rv h4 r1 ⟨rfl, rfl, rfl⟩ -
      have e : s = h 2 1 := by omega
      subst e
      refine wq_iret rfl rfl (Nat.le_refl _) (Nat.le_refl _) ⟨_, rfl, ?_, q1.put 0⟩
      rw [hup_s]
      exact K _ hi
    · skip
      refine wq_aload_n (kk := 0) (q := 58) rfl rfl rfl ?_
      refine wq_getF (q := 61) f_Lt_51 rfl rfl (Nat.le_of_ble_eq_true rfl) rfl rfl rfl ?_
      refine wq_getF (q := 64) f_Lt_299 rfl rfl (Nat.le_of_ble_eq_true rfl) rfl rfl rfl ?_
      refine wq_iload (i := 4) (q := 66) rfl rfl rfl ?_
      refine wq_iald (q := 67) rfl (Or.inl ⟨rfl, Nat.le_of_ble_eq_true rfl⟩) rfl rfl (by first | omega | (simp [hup]; omega)) (by first | omega | (simp [hup]; omega)) ?_
      refine wq_iload_n (kk := 3) (q := 68) rfl rfl rfl ?_
      refine wq_icmp_le (tgt := 85) (q := 71) rfl rfl rfl (fun c68 => ?_) (fun c68 => ?_)
      · skip
        refine wq_iinc (i := 4) (n := 1) (q := 88) rfl rfl rfl (Nat.le_of_ble_eq_true rfl) rfl (by first | omega | (simp [hup]; omega)) (by first | omega | (simp [hup]; omega)) ?_
        refine wq_goto (tgt := 45) rfl rfl ?_
        refine ih _ ?_ (s + 1) _ _ rfl (by omega) (by omega) ?_ ?_
        · omega
        · first
          | (refine Or.inr ⟨by omega, ?_, fun x x0 x1 => ?_⟩
             · rcases hi with ⟨z1, z2⟩ | ⟨z1, z2, z3⟩ <;> omega
             · by_cases ex : x = s
               · subst ex; omega
               · rcases hi with ⟨z1, z2⟩ | ⟨z1, z2, z3⟩
                 · have := z2 x x0 (by omega); omega
                 · have := z3 x x0 (by omega); omega)
          | (rcases hi with ⟨z1, z2⟩ | ⟨z1, z2, z3⟩
             · refine Or.inl ⟨z1, fun x x0 x1 => ?_⟩
               by_cases ex : x = s
               · subst ex; omega
               · exact z2 x x0 (by omega)
             · refine Or.inr ⟨by omega, z2, fun x x0 x1 => ?_⟩
               by_cases ex : x = s
               · subst ex; omega
               · exact z3 x x0 (by omega))
        · first | exact hw | exact Or.inr ⟨by omega, rfl⟩
      · skip
        refine wq_aload_n (kk := 0) (q := 72) rfl rfl rfl ?_
        refine wq_getF (q := 75) f_Lt_51 rfl rfl (Nat.le_of_ble_eq_true rfl) rfl rfl rfl ?_
        refine wq_getF (q := 78) f_Lt_299 rfl rfl (Nat.le_of_ble_eq_true rfl) rfl rfl rfl ?_
        refine wq_iload (i := 4) (q := 80) rfl rfl rfl ?_
        refine wq_iald (q := 81) rfl (Or.inl ⟨rfl, Nat.le_of_ble_eq_true rfl⟩) rfl rfl (by first | omega | (simp [hup]; omega)) (by first | omega | (simp [hup]; omega)) ?_
        refine wq_istore_n (kk := 3) (q := 82) rfl rfl (Nat.le_of_ble_eq_true rfl) rfl ?_
        refine wq_iload (i := 4) (q := 84) rfl rfl rfl ?_
        refine wq_istore_n (kk := 2) (q := 85) rfl rfl (Nat.le_of_ble_eq_true rfl) rfl ?_
        refine wq_iinc (i := 4) (n := 1) (q := 88) rfl rfl rfl (Nat.le_of_ble_eq_true rfl) rfl (by first | omega | (simp [hup]; omega)) (by first | omega | (simp [hup]; omega)) ?_
        refine wq_goto (tgt := 45) rfl rfl ?_
        refine ih _ ?_ (s + 1) _ _ rfl (by omega) (by omega) ?_ ?_
        · omega
        · first
          | (refine Or.inr ⟨by omega, ?_, fun x x0 x1 => ?_⟩
             · rcases hi with ⟨z1, z2⟩ | ⟨z1, z2, z3⟩ <;> omega
             · by_cases ex : x = s
               · subst ex; omega
               · rcases hi with ⟨z1, z2⟩ | ⟨z1, z2, z3⟩
                 · have := z2 x x0 (by omega); omega
                 · have := z3 x x0 (by omega); omega)
          | (rcases hi with ⟨z1, z2⟩ | ⟨z1, z2, z3⟩
             · refine Or.inl ⟨z1, fun x x0 x1 => ?_⟩
               by_cases ex : x = s
               · subst ex; omega
               · exact z2 x x0 (by omega)
             · refine Or.inr ⟨by omega, z2, fun x x0 x1 => ?_⟩
               by_cases ex : x = s
               · subst ex; omega
               · exact z3 x x0 (by omega))
        · first | exact hw | exact Or.inr ⟨by omega, rfl⟩
set_option maxRecDepth 100000 in
set_option maxHeartbeats 1000000 in
theorem Lt_hub_ok (t : Int) (h : mH) (r : mR) (hI : IQ h r) : Meets true (rm 6) m_Lt_hub [vR 0, vI t] h r (qP h r (Ans (kT (h 2 1) (bI (isT t))) (fun v tr => tr = 0 ∧ ∃ T, Tt (dN h 0) t T ∧ Hu T (h 2 1) v))) := by
  have hcur := hI.2.2.2.1
  have q0 := qf.rf hI
  have hV := dN_V hI.1 0
  have hS := hI.1.2.1
  refine ⟨ok_Lt_hub, Nat.le_of_ble_eq_true rfl, ?_⟩
  refine wq_aload_n (kk := 0) (q := 1) rfl rfl rfl ?_
  refine wq_aload_n (kk := 0) (q := 2) rfl rfl rfl ?_
  refine wq_iload_n (kk := 1) (q := 3) rfl rfl rfl ?_
  refine wq_callV (q := 6) (m' := m_Lt_lookAtDesk) (R' := rm 2) (As := [_]) rfl rfl l_Lt_292 vm_Lt_lookAtDesk rfl rfl rfl (Or.inl ⟨rfl, Nat.le_of_ble_eq_true rfl⟩) (Nat.le_of_ble_eq_true rfl) (Nat.le_of_ble_eq_true rfl) (Nat.le_refl _) (Nat.le_refl _) (Nat.le_of_ble_eq_true rfl) (Lt_lookAtDesk_ok t h r hcur) rfl ?_
  rintro rv h r ⟨rfl, rfl, rfl⟩ -
  generalize hk : kT (h 2 1) (bI (isT t)) = k
  refine wq_callV (q := 9) (m' := m_Lt_isRefused) (R' := rm 1) (As := [_]) rfl rfl l_Lt_240 vm_Lt_isRefused rfl rfl rfl (Or.inl ⟨rfl, Nat.le_of_ble_eq_true rfl⟩) (Nat.le_of_ble_eq_true rfl) (Nat.le_of_ble_eq_true rfl) (Nat.le_refl _) (Nat.le_refl _) (Nat.le_of_ble_eq_true rfl) (Lt_isRefused_ok k h r) rfl ?_
  rintro rv h1 r ⟨rfl, rfl, rfl⟩ -
  have q1 := q0.put k
  refine wq_cif_eq (tgt := 14) (q := 12) rfl rfl rfl (fun c9 => ?_) (fun c9 => ?_)
  · skip
    refine wq_aload_n (kk := 0) (q := 15) rfl rfl rfl ?_
    refine wq_getF (q := 18) f_Lt_44 rfl rfl (Nat.le_of_ble_eq_true rfl) rfl rfl rfl ?_
    refine wq_aload_n (kk := 0) (q := 19) rfl rfl rfl ?_
    refine wq_getR (q := 22) f_Lt_16 rfl rfl (Or.inl ⟨rfl, Nat.le_of_ble_eq_true rfl⟩) hcur rfl rfl ?_
    refine wq_callV (q := 25) (m' := m_Ne_load) (R' := rm 4) (As := [_]) rfl rfl l_Lt_184 vm_Ne_load rfl rfl rfl (Or.inl ⟨rfl, Nat.le_of_ble_eq_true rfl⟩) (Nat.le_of_ble_eq_true rfl) (Nat.le_of_ble_eq_true rfl) (Nat.le_refl _) (Nat.le_refl _) (Nat.le_of_ble_eq_true rfl) (Lt_load q1) rfl ?_
    rintro rv h2 r2 ⟨rfl, q2, w2⟩ -
    have k0 : k = 0 := by simpa using c9
    subst k0
    have hab := kT_0 hk
    have ht := bI_ne hab.2
    refine wq_aload_n (kk := 0) (q := 26) rfl rfl rfl ?_
    refine wq_getF (q := 29) f_Lt_51 rfl rfl (Nat.le_of_ble_eq_true rfl) rfl rfl rfl ?_
    refine wq_aload_n (kk := 0) (q := 30) rfl rfl rfl ?_
    refine wq_getF (q := 33) f_Lt_44 rfl rfl (Nat.le_of_ble_eq_true rfl) rfl rfl rfl ?_
    refine wq_iload_n (kk := 1) (q := 34) rfl rfl rfl ?_
    refine wq_callV (q := 37) (m' := m_Se_countTurns) (R' := rm 5) (As := [_, _]) rfl rfl l_Lt_295 vm_Se_countTurns rfl rfl rfl (Or.inl ⟨rfl, Nat.le_of_ble_eq_true rfl⟩) (Nat.le_of_ble_eq_true rfl) (Nat.le_of_ble_eq_true rfl) (Nat.le_refl _) (Nat.le_refl _) (Nat.le_of_ble_eq_true rfl) (Se_countTurns_ok (dN h 0) t h2 r2 w2) rfl ?_
    rintro rv h3 r2 ⟨rfl, rfl, f3, hT, hb⟩ -
    have q3 := q2.scr f3 (by decide)
    refine wq_bipush (n := -2) (q := 39) rfl rfl rfl ?_
    refine wq_istore_n (kk := 2) (q := 40) rfl rfl (Nat.le_of_ble_eq_true rfl) rfl ?_
    refine wq_iconst (n := 0) (q := 41) rfl rfl rfl ?_
    refine wq_istore_n (kk := 3) (q := 42) rfl rfl (Nat.le_of_ble_eq_true rfl) rfl ?_
    refine wq_iconst (n := 0) (q := 43) rfl rfl rfl ?_
    refine wq_istore (i := 4) (q := 45) rfl rfl (Nat.le_of_ble_eq_true rfl) rfl ?_
    exact Lt_hubL t h r h3 r2 q3 _ (fun v hv => Or.inr ⟨rfl, rfl, _, hT, hv⟩) _ 0 (-2) 0 rfl (by omega) (by omega) (Or.inl ⟨rfl, fun x x0 x1 => by omega⟩) (Or.inl ⟨rfl, rfl⟩)
  · skip
    refine wq_iconst (n := -1) (q := 13) rfl rfl rfl ?_
    exact wq_iret rfl rfl (Nat.le_refl _) (Nat.le_refl _) ⟨_, rfl, Or.inl ⟨c9, rfl, hup_s⟩, q1⟩
/-- the longest of some pairs -/
def Sl (N : mN) (t n : Int) (Q : Int → Int → Prop) (v : Int) : Prop := (v = -2 ∨ ∃ a b, Q a b ∧ (0 ≤ a ∧ a < n) ∧ (0 ≤ b ∧ b < n) ∧ a ≠ b ∧ sn N a t b < 1000000 ∧ v = sn N a t b - t) ∧ (-2 ≤ v ∧ v ≤ 1999) ∧ ∀ a b, Q a b → 0 ≤ a → a < n → 0 ≤ b → b < n → a ≠ b → sn N a t b < 1000000 → sn N a t b - t ≤ v
theorem Sl.uniq {N : mN} {t n v w : Int} {Q : Int → Int → Prop} (h : Sl N t n Q v) (h' : Sl N t n Q w) : v = w := by
  rcases h.1 with e | ⟨a, b, h1, h2, h3, h4, h5, h6⟩ <;> rcases h'.1 with e' | ⟨a', b', k1, k2, k3, k4, k5, k6⟩
  · omega
  · have := h.2.2 a' b' k1 k2.1 k2.2 k3.1 k3.2 k4 k5
    have := h'.2.1
    omega
  · have := h'.2.2 a b h1 h2.1 h2.2 h3.1 h3.2 h4 h5
    have := h.2.1
    omega
  · have := h.2.2 a' b' k1 k2.1 k2.2 k3.1 k3.2 k4 k5
    have := h'.2.2 a b h1 h2.1 h2.2 h3.1 h3.2 h4 h5
    omega
theorem Sl.skip {N : mN} {t n v : Int} {Q Q' : Int → Int → Prop} (h : Sl N t n Q v) (h1 : ∀ a b, Q a b → Q' a b) (h2 : ∀ a b, Q' a b → Q a b ∨ a = b ∨ ¬ sn N a t b < 1000000 ∨ ¬ (0 ≤ a ∧ a < n ∧ 0 ≤ b ∧ b < n)) : Sl N t n Q' v := by
  refine ⟨h.1.imp id (fun ⟨a, b, z1, z2⟩ => ⟨a, b, h1 a b z1, z2⟩), h.2.1, fun a b q a0 a1 b0 b1 hne hl => ?_⟩
  rcases h2 a b q with z | z | z | z
  · exact h.2.2 a b z a0 a1 b0 b1 hne hl
  · exact absurd z hne
  · exact absurd hl z
  · exact absurd ⟨a0, a1, b0, b1⟩ z
theorem Sl.add {N : mN} (hV : NV N) {t n v : Int} {Q Q' : Int → Int → Prop} (h : Sl N t n Q v) (ht : isT t) {a b : Int} (ha : 0 ≤ a ∧ a < n) (hb : 0 ≤ b ∧ b < n) (hne : a ≠ b) (hl : sn N a t b < 1000000) (h1 : ∀ x y, Q' x y ↔ Q x y ∨ x = a ∧ y = b) : Sl N t n Q' (if v < sn N a t b - t then sn N a t b - t else v) := by
  have hr := sn_b hV hne (t := t)
  have h0 := h.2.1
  refine ⟨?_, by split <;> omega, fun x y q x0 x1 y0 y1 ne hs => ?_⟩
  · split
    · exact Or.inr ⟨a, b, (h1 a b).2 (Or.inr ⟨rfl, rfl⟩), ha, hb, hne, hl, rfl⟩
    · exact h.1.imp id (fun ⟨x, y, z1, z2⟩ => ⟨x, y, (h1 x y).2 (Or.inl z1), z2⟩)
  · rcases (h1 x y).1 q with z | ⟨rfl, rfl⟩
    · have := h.2.2 x y z x0 x1 y0 y1 ne hs
      split <;> omega
    · split <;> omega

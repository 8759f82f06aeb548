/-! LinkTimes$Reader: links' times, lines, all -/
theorem adds_e {l a b w k till ev t : Int} {R : mF} (f : Nat) (h : till < t) : adds l a b w k till ev f t R = R := by
  cases f with
  | zero => rfl
  | succ f => exact if_neg (by omega)
abbrev adC : List Nat := [13, 16, 17, 18, 19, 20, 21, 22, 23]
theorem xad_fr {h : mH} {l a b t w k : Int} : fr adC h (x_addDep 13 h l a b t w k) := ((((((((fr.rf.up (by decide)).up (by decide)).up (by decide)).up (by decide)).up (by decide)).up (by decide)).up (by decide)).up (by decide)).up (by decide)
set_option maxRecDepth 100000 in
set_option maxHeartbeats 2000000 in
theorem Re_readTimesL (T : mF) (n q l a b w k f till ev : Int) (R0 : mF) (st : pS) (x : pX) (h : mH) (r : mR) (h0 : mH) (hrde : r.1 24 4 = some 13) (hF0 : rdF h h0) (hS : rdS T n q h0) (hq : h0 24 12 = q) (g0 : h0 24 0 = h 24 0) (g1 : h0 24 1 = h 24 1) (y7 : h0 24 7 = l) (y8 : h0 24 8 = a) (y9 : h0 24 9 = b) (y13 : h0 24 13 = w) (hN : ∀ h1, fr adC h0 h1 → (∀ s, 0 ≤ s → s < st.1 1 → h1 25 s = c27 T n (st.2.1 s)) ∧ ∀ s, 0 ≤ s → s < st.1 2 → h1 26 s = c27 T n (st.2.2 s)) (hv : 1 ≤ ev ∧ ev ≤ 999) (ht : till ≤ 999) (hab : a ≠ b) (hw : 1 ≤ w ∧ w ≤ 99) (hk : k = st.1 3 ∧ 0 ≤ k ∧ k < 12) (ex : x = (0, 0, q, up R0 3 (k + 1), st.2)) (e1 : R0 1 = st.1 1) (e2 : R0 2 = st.1 2) : ∀ (M : Nat) (F : Nat) (t : Int) (R : mF) (h1 : mH), (till + 1 - t).toNat = M → M ≤ F → adds l a b w k till ev F t R = R0 → RV R → R 0 ≠ 0 → 0 ≤ t → t ≤ 2000 → till - t < (120 - R 4) * ev → (0 ≤ l ∧ l < R 2) → (0 ≤ a ∧ a < R 1) → (0 ≤ b ∧ b < R 1) → R 3 = k → dM 13 h1 R → fr adC h0 h1 → WP (true, rm 8) m_Re_readTimes (rt m_Re_readTimes (rm 8) (lnQ T n x h r)) 143 [some (vR 24), some (vI f), some (vI till), some (vI ev), some (vI t)] [] h1 r (0, 0) := by
  intro M
  induction M using Nat.strongRecOn with
  | ind M ih =>
    intro F t R h1 hM hFu hA hR hz t0 t1 hm hl ha hb h3 hD hf
    have b4 := hR.2.2.2.2.1
    have b1 := hR.2.1
    have d4 := hD.2.2.2.2.1
    have d3 := hD.2.2.2.1
    have x24 : h1 24 = h0 24 := hf 24 (by decide)
    have h4 : t ≤ till → R 4 < 120 := fun e => by
      by_cases z : R 4 < 120
      · exact z
      · have y := Int.mul_nonneg (show 0 ≤ R 4 - 120 by omega) (show 0 ≤ ev by omega)
        have y2 : (120 - R 4) * ev = - ((R 4 - 120) * ev) := by rw [← Int.neg_mul]; congr 1; omega
        omega
    refine wq_iload (i := 4) (q := 145) rfl rfl rfl ?_
    refine wq_iload_n (kk := 2) (q := 146) rfl rfl rfl ?_
    refine wq_icmp_gt (tgt := 190) (q := 149) rfl rfl rfl (fun c146 => ?_) (fun c146 => ?_)
    · skip
      refine wq_aload_n (kk := 0) (q := 191) rfl rfl rfl ?_
      refine wq_getR (q := 194) f_Re_22 rfl rfl (Or.inl ⟨rfl, Nat.le_of_ble_eq_true rfl⟩) hrde rfl rfl ?_
      refine wq_dup (q := 195) rfl rfl rfl ?_
      refine wq_getI (kz := 3) (q := 198) rfl f_Re_103 rfl rfl (Or.inl ⟨rfl, Nat.le_of_ble_eq_true rfl⟩) rfl rfl ?_
      refine wq_iconst (n := 1) (q := 199) rfl rfl rfl ?_
      refine wq_iadd (q := 200) rfl rfl (by first | omega | (simp [hup]; omega)) (by first | omega | (simp [hup]; omega)) ?_
      refine wq_putI (kz := 3) (q := 203) rfl f_Re_103 rfl rfl rfl (Or.inl ⟨rfl, Nat.le_of_ble_eq_true rfl⟩) rfl rfl ?_
      have eR : R = R0 := by rw [← hA]; exact (adds_e F (by omega)).symm
      subst eR
      have f2 : fr adC h0 (hup h1 13 3 (h1 13 3 + 1)) := hf.up (by decide)
      have hd2 : dM 13 (hup h1 13 3 (h1 13 3 + 1)) (up R 3 (k + 1)) := by rw [d3, h3]; exact dM_fld hD (Or.inr (Or.inr rfl))
      have g2 := rdF_g hF0 f2 (by decide) (by decide)
      have s2 : rdS T n q (hup h1 13 3 (h1 13 3 + 1)) := by
        obtain ⟨a1, a2, a3, a4, a5⟩ := hS
        exact ⟨by rw [f2 1 (by decide)]; exact a1, by rw [f2 24 (by decide)]; exact a2, a3, a4, a5⟩
      have p2 : hup h1 13 3 (h1 13 3 + 1) 24 12 = q := by rw [f2 24 (by decide)]; exact hq
      have hN2 := hN _ f2
      have m2 : rdM T n (hup h1 13 3 (h1 13 3 + 1)) (up R 3 (k + 1), st.2) := by
        refine ⟨hd2, fun s s0 s1 => hN2.1 s s0 ?_, fun s s0 s1 => hN2.2 s s0 ?_⟩
        · have s1' : s < up R 3 (k + 1) 1 := s1
          rw [up_n (by decide)] at s1'
          omega
        · have s1' : s < up R 3 (k + 1) 2 := s1
          rw [up_n (by decide)] at s1'
          omega
      refine wq_aload_n (kk := 0) (q := 204) rfl rfl rfl ?_
      refine wq_callV (q := 207) (m' := m_Re_advance) (R' := rm 3) (As := []) rfl rfl l_Re_67 vm_Re_advance rfl rfl rfl (Or.inl ⟨rfl, Nat.le_of_ble_eq_true rfl⟩) (Nat.le_of_ble_eq_true rfl) (Nat.le_of_ble_eq_true rfl) (Nat.le_refl _) (Nat.le_refl _) (Nat.le_of_ble_eq_true rfl) (rdS.adv s2 p2) rfl ?_
      rintro rv h3 r ⟨rfl, rfl, f3, k3, -⟩ -
      refine wq_iconst (n := 1) (q := 208) rfl rfl rfl ?_
      refine wq_zret rfl rfl (Nat.le_refl _) (Nat.le_refl _) (by omega) (lnQ.y ex (rdF_f g2 f3 (by decide)) k3 (rdM_f m2 f3.1) ?_ ?_)
      · rw [f3.2 0 (by decide), f2 24 (by decide)]; exact g0
      · rw [f3.2 1 (by decide), f2 24 (by decide)]; exact g1
    · skip
      refine wq_aload_n (kk := 0) (q := 150) rfl rfl rfl ?_
      refine wq_getR (q := 153) f_Re_22 rfl rfl (Or.inl ⟨rfl, Nat.le_of_ble_eq_true rfl⟩) hrde rfl rfl ?_
      refine wq_aload_n (kk := 0) (q := 154) rfl rfl rfl ?_
      refine wq_getI (kz := 7) (q := 157) rfl f_Re_137 rfl rfl (Or.inl ⟨rfl, Nat.le_of_ble_eq_true rfl⟩) rfl rfl ?_
      refine wq_aload_n (kk := 0) (q := 158) rfl rfl rfl ?_
      refine wq_getI (kz := 8) (q := 161) rfl f_Re_140 rfl rfl (Or.inl ⟨rfl, Nat.le_of_ble_eq_true rfl⟩) rfl rfl ?_
      refine wq_aload_n (kk := 0) (q := 162) rfl rfl rfl ?_
      refine wq_getI (kz := 9) (q := 165) rfl f_Re_143 rfl rfl (Or.inl ⟨rfl, Nat.le_of_ble_eq_true rfl⟩) rfl rfl ?_
      refine wq_iload (i := 4) (q := 167) rfl rfl rfl ?_
      refine wq_aload_n (kk := 0) (q := 168) rfl rfl rfl ?_
      refine wq_getI (kz := 13) (q := 171) rfl f_Re_119 rfl rfl (Or.inl ⟨rfl, Nat.le_of_ble_eq_true rfl⟩) rfl rfl ?_
      refine wq_aload_n (kk := 0) (q := 172) rfl rfl rfl ?_
      refine wq_getR (q := 175) f_Re_22 rfl rfl (Or.inl ⟨rfl, Nat.le_of_ble_eq_true rfl⟩) hrde rfl rfl ?_
      refine wq_getI (kz := 3) (q := 178) rfl f_Re_103 rfl rfl (Or.inl ⟨rfl, Nat.le_of_ble_eq_true rfl⟩) rfl rfl ?_
      rw [x24, y7, y8, y9, y13, d3, h3]
      refine wq_callV (q := 181) (m' := m_De_addDeparture) (R' := rm 1) (As := [_, _, _, _, _, _]) rfl rfl l_Re_160 vm_De_addDeparture rfl rfl rfl (Or.inl ⟨rfl, Nat.le_of_ble_eq_true rfl⟩) (Nat.le_of_ble_eq_true rfl) (Nat.le_of_ble_eq_true rfl) (Nat.le_refl _) (Nat.le_refl _) (Nat.le_of_ble_eq_true rfl) (De_addDep_ok 13 (Or.inr rfl) l a b t w k h1 r (by omega) (by have := h4 (by omega); omega)) rfl ?_
      rintro rv h2 r ⟨rfl, rfl, rfl⟩ -
      refine wq_iload (i := 4) (q := 183) rfl rfl rfl ?_
      refine wq_iload_n (kk := 3) (q := 184) rfl rfl rfl ?_
      refine wq_iadd (q := 185) rfl rfl (by first | omega | (simp [hup]; omega)) (by first | omega | (simp [hup]; omega)) ?_
      refine wq_istore (i := 4) (q := 187) rfl rfl (Nat.le_of_ble_eq_true rfl) rfl ?_
      refine wq_goto (tgt := 143) rfl rfl ?_
      obtain ⟨F', rfl⟩ : ∃ F', F = F' + 1 := ⟨F - 1, by omega⟩
      have hA' : adds l a b w k till ev F' (t + ev) (add1 R l a b t w k) = R0 := by
        rw [← hA]; exact (if_pos (by omega)).symm
      have z4 := h4 (by omega)
      obtain ⟨el, e4, -⟩ := add1_e (R := R) (l := l) (a := a) (b := b) (t := t) (w := w) (k := k) b4.1
      have u0 := el 0 (by omega) (by omega)
      have u1 := el 1 (by omega) (by omega)
      have u2 := el 2 (by omega) (by omega)
      have u3 := el 3 (by omega) (by omega)
      have hm' : (120 - (R 4 + 1)) * ev = (120 - R 4) * ev - ev := by rw [show 120 - (R 4 + 1) = 120 - R 4 - 1 by omega, Int.sub_mul, Int.one_mul]
      exact ih _ (by omega) F' (t + ev) (add1 R l a b t w k) _ rfl (by omega) hA' (RV_add hR hz z4 hl ha hb hab (by omega) hw) (by omega) (by omega) (by omega) (by rw [e4]; omega) (by omega) (by omega) (by omega) (by omega) (dM_add hD b4.1 b1.2) (hf.trans xad_fr (fun _ z => z))

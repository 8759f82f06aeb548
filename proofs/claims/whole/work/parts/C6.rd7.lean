/-! LinkTimesModel: links -/
set_option maxRecDepth 100000 in
set_option maxHeartbeats 2000000 in
theorem Mo_linkL (T : mF) (n q l a b w k till ev : Int) (R0 : mF) (st : pS) (x : pX) (h : mH) (r : mR) (h0 : mH) (F0 : f64 rrF rrC h h0) (k0 : tkR T n q h0) (y0 : h0 72 0 = l) (y1 : h0 72 1 = a) (y2 : h0 72 2 = b) (y4 : h0 72 4 = till) (y5 : h0 72 5 = ev) (y6 : h0 72 6 = w) (hM : mrR T n h0 st) (hv : 1 ≤ ev ∧ ev ≤ 999) (ht : till ≤ 999) (hab : a ≠ b) (hw : 1 ≤ w ∧ w ≤ 99) (hk : k = st.1 3 ∧ 0 ≤ k ∧ k < 12) (ex : x = (0, 0, q, up R0 3 (k + 1), st.2)) (e0 : R0 0 = st.1 0) (e1 : R0 1 = st.1 1) (e2 : R0 2 = st.1 2) : ∀ (M : Nat) (F : Nat) (t : Int) (R : mF) (h1 : mH), (till + 1 - t).toNat = M → M ≤ F → adds l a b w k till ev F t R = R0 → RV R → R 0 ≠ 0 → 0 ≤ t → t ≤ 2000 → till - t < (120 - R 4) * ev → (0 ≤ l ∧ l < R 2) → (0 ≤ a ∧ a < R 1) → (0 ≤ b ∧ b < R 1) → R 3 = k → eM (h1 67) R → fr [67] h0 h1 → WP (true, rm 9) m_Mo_readLink (rt m_Mo_readLink (rm 9) (lnR T n x h r)) 254 [some (vR 64), some (vI t)] [] h1 r (0, 0) := by
  intro M
  induction M using Nat.strongRecOn with
  | ind M ih =>
    intro F t R h1 hM' hFu hA hR hz t0 t1 hm hl ha hb h3 hD hf
    have b4 := hR.2.2.2.2.1
    have b1 := hR.2.1
    have d4 := hD.n.2.2.2
    have d3 := hD.n.2.2.1
    have x72 : h1 72 = h0 72 := hf 72 (by decide)
    have h4 : t ≤ till → R 4 < 120 := fun e => by
      by_cases z : R 4 < 120
      · exact z
      · have y := Int.mul_nonneg (show 0 ≤ R 4 - 120 by omega) (show 0 ≤ ev by omega)
        have y2 : (120 - R 4) * ev = - ((R 4 - 120) * ev) := by rw [← Int.neg_mul]; congr 1; omega
        omega
    refine wq_iload_n (kk := 1) (q := 255) rfl rfl rfl ?_
    refine wq_aload_n (kk := 0) (q := 256) rfl rfl rfl ?_
    refine wq_getF (q := 259) f_Mo_36 rfl rfl (Nat.le_of_ble_eq_true rfl) rfl rfl rfl ?_
    refine wq_iconst (n := 4) (q := 260) rfl rfl rfl ?_
    refine wq_iald (q := 261) rfl (Or.inl ⟨rfl, Nat.le_of_ble_eq_true rfl⟩) rfl rfl (by first | omega | (simp [hup]; omega)) (by first | omega | (simp [hup]; omega)) ?_
    rw [x72, y4]
    refine wq_icmp_gt (tgt := 315) (q := 264) rfl rfl rfl (fun c261 => ?_) (fun c261 => ?_)
    · skip
      have eR : R = R0 := by rw [← hA]; exact (adds_e F (by omega)).symm
      subst eR
      refine wq_aload_n (kk := 0) (q := 316) rfl rfl rfl ?_
      refine wq_getF (q := 319) f_Mo_20 rfl rfl (Nat.le_of_ble_eq_true rfl) rfl rfl rfl ?_
      refine wq_iconst (n := 3) (q := 320) rfl rfl rfl ?_
      refine wq_dup2 (q := 321) rfl rfl rfl rfl ?_
      refine wq_iald (q := 322) rfl (Or.inl ⟨rfl, Nat.le_of_ble_eq_true rfl⟩) rfl rfl (by first | omega | (simp [hup]; omega)) (by first | omega | (simp [hup]; omega)) ?_
      refine wq_iconst (n := 1) (q := 323) rfl rfl rfl ?_
      refine wq_iadd (q := 324) rfl rfl (by first | omega | (simp [hup]; omega)) (by first | omega | (simp [hup]; omega)) ?_
      refine wq_iast (q := 325) rfl (Or.inl ⟨rfl, Nat.le_of_ble_eq_true rfl⟩) rfl rfl (by first | omega | (simp [hup]; omega)) (by first | omega | (simp [hup]; omega)) ?_
      refine wq_iconst (n := 1) (q := 326) rfl rfl rfl ?_
      have f3 : f64 [] [67] h0 (hup h1 67 3 (h1 67 3 + 1)) := ⟨hf.up (by decide), fun j _ => by rw [hup_ne (by decide), hf 64 (by decide)]⟩
      refine wq_zret rfl rfl (Nat.le_refl _) (Nat.le_refl _) (by omega) (lnR.y ex (F0.tr f3 (by decide) (by decide)) (tkR_f k0 f3 (by decide) (by decide) (by decide) (by decide)) (mrR_i ?_ ?_ (fun s s0 s1 => ?_) (fun s s0 s1 => ?_)))
      · rw [f3.2 19 (by decide), up_n (by decide), e0]
        exact hM.1
      · rw [hup_up, d3, h3]
        exact eM_k hD (Or.inr rfl)
      · rw [up_n (by decide), e1] at s1
        rw [f3.1 70 (by decide)]
        exact hM.2.2.1 s s0 s1
      · rw [up_n (by decide), e2] at s1
        rw [f3.1 71 (by decide)]
        exact hM.2.2.2 s s0 s1
    · skip
      refine wq_aload_n (kk := 0) (q := 265) rfl rfl rfl ?_
      refine wq_getF (q := 268) f_Mo_20 rfl rfl (Nat.le_of_ble_eq_true rfl) rfl rfl rfl ?_
      refine wq_aload_n (kk := 0) (q := 269) rfl rfl rfl ?_
      refine wq_getF (q := 272) f_Mo_36 rfl rfl (Nat.le_of_ble_eq_true rfl) rfl rfl rfl ?_
      refine wq_iconst (n := 0) (q := 273) rfl rfl rfl ?_
      refine wq_iald (q := 274) rfl (Or.inl ⟨rfl, Nat.le_of_ble_eq_true rfl⟩) rfl rfl (by first | omega | (simp [hup]; omega)) (by first | omega | (simp [hup]; omega)) ?_
      refine wq_aload_n (kk := 0) (q := 275) rfl rfl rfl ?_
      refine wq_getF (q := 278) f_Mo_36 rfl rfl (Nat.le_of_ble_eq_true rfl) rfl rfl rfl ?_
      refine wq_iconst (n := 1) (q := 279) rfl rfl rfl ?_
      refine wq_iald (q := 280) rfl (Or.inl ⟨rfl, Nat.le_of_ble_eq_true rfl⟩) rfl rfl (by first | omega | (simp [hup]; omega)) (by first | omega | (simp [hup]; omega)) ?_
      refine wq_aload_n (kk := 0) (q := 281) rfl rfl rfl ?_
      refine wq_getF (q := 284) f_Mo_36 rfl rfl (Nat.le_of_ble_eq_true rfl) rfl rfl rfl ?_
      refine wq_iconst (n := 2) (q := 285) rfl rfl rfl ?_
      refine wq_iald (q := 286) rfl (Or.inl ⟨rfl, Nat.le_of_ble_eq_true rfl⟩) rfl rfl (by first | omega | (simp [hup]; omega)) (by first | omega | (simp [hup]; omega)) ?_
      refine wq_iload_n (kk := 1) (q := 287) rfl rfl rfl ?_
      refine wq_aload_n (kk := 0) (q := 288) rfl rfl rfl ?_
      refine wq_getF (q := 291) f_Mo_36 rfl rfl (Nat.le_of_ble_eq_true rfl) rfl rfl rfl ?_
      refine wq_bipush (n := 6) (q := 293) rfl rfl rfl ?_
      refine wq_iald (q := 294) rfl (Or.inl ⟨rfl, Nat.le_of_ble_eq_true rfl⟩) rfl rfl (by first | omega | (simp [hup]; omega)) (by first | omega | (simp [hup]; omega)) ?_
      refine wq_aload_n (kk := 0) (q := 295) rfl rfl rfl ?_
      refine wq_getF (q := 298) f_Mo_20 rfl rfl (Nat.le_of_ble_eq_true rfl) rfl rfl rfl ?_
      refine wq_iconst (n := 3) (q := 299) rfl rfl rfl ?_
      refine wq_iald (q := 300) rfl (Or.inl ⟨rfl, Nat.le_of_ble_eq_true rfl⟩) rfl rfl (by first | omega | (simp [hup]; omega)) (by first | omega | (simp [hup]; omega)) ?_
      rw [x72, y0, y1, y2, y6, d3, h3]
      refine wq_callS (q := 303) (m' := m_Mo_lays_) (R' := rm 2) (As := [_, _, _, _, _, _, _]) rfl rfl l_Mo_206 sm_Mo_lays_ rfl (Nat.le_of_ble_eq_true rfl) (Nat.le_of_ble_eq_true rfl) (Nat.le_refl _) (Nat.le_refl _) (Nat.le_of_ble_eq_true rfl) (Mo_lays_ok 67 (Or.inr rfl) l a b t w k h1 r (by have := h4 (by omega); omega)) rfl ?_
      rintro rv h2 r ⟨rfl, rfl, f2, e2'⟩ -
      have z5 : h2 72 5 = ev := by rw [f2 72 (by decide), x72]; exact y5
      refine wq_iload_n (kk := 1) (q := 304) rfl rfl rfl ?_
      refine wq_aload_n (kk := 0) (q := 305) rfl rfl rfl ?_
      refine wq_getF (q := 308) f_Mo_36 rfl rfl (Nat.le_of_ble_eq_true rfl) rfl rfl rfl ?_
      refine wq_iconst (n := 5) (q := 309) rfl rfl rfl ?_
      refine wq_iald (q := 310) rfl (Or.inl ⟨rfl, Nat.le_of_ble_eq_true rfl⟩) rfl rfl (by first | omega | (simp [hup]; omega)) (by first | omega | (simp [hup]; omega)) ?_
      rw [z5]
      refine wq_iadd (q := 311) rfl rfl (by first | omega | (simp [hup]; omega)) (by first | omega | (simp [hup]; omega)) ?_
      refine wq_istore_n (kk := 1) (q := 312) rfl rfl (Nat.le_of_ble_eq_true rfl) rfl ?_
      refine wq_goto (tgt := 254) rfl rfl ?_
      obtain ⟨F', rfl⟩ : ∃ F', F = F' + 1 := ⟨F - 1, by omega⟩
      have hA' : adds l a b w k till ev F' (t + ev) (add1 R l a b t w k) = R0 := by
        rw [← hA]; exact (if_pos (by omega)).symm
      have z4 := h4 (by omega)
      obtain ⟨el, e4, -⟩ := add1_e (R := R) (l := l) (a := a) (b := b) (t := t) (w := w) (k := k) b4.1
      have u0 := el 0 (by omega) (by omega)
      have u1 := el 1 (by omega) (by omega)
      have u2 := el 2 (by omega) (by omega)
      have u3 := el 3 (by omega) (by omega)
      have hm' : (120 - (R 4 + 1)) * ev = (120 - R 4) * ev - ev := by rw [show 120 - (R 4 + 1) = 120 - R 4 - 1 by omega, Int.sub_mul, Int.one_mul]
      exact ih _ (by omega) F' (t + ev) (add1 R l a b t w k) _ rfl (by omega) hA' (RV_add hR hz z4 hl ha hb hab (by omega) hw) (by omega) (by omega) (by omega) (by rw [e4]; omega) (by omega) (by omega) (by omega) (by omega) (by rw [e2']; exact eM_add hD b1 b4.1) (hf.trans f2 (fun _ z => z))
theorem Mo_afterLink_q (j : Nat) (hj : j < 11) (to lo hi : Int) (T : mF) (n p q : Int) (hq : tE T n p = q) (h : mH) (r : mR) (hS : rdR T n p h) (hk : tkR T n p h) (t0 : 0 ≤ to ∧ to < 7) : Meets true (rm 7) m_Mo_afterLink [vR 64, vR (sBase + j), vI to, vI lo, vI hi] h r (srQ (xx (xW T n p j) (xN T n q lo hi)) (xp (xW T n p j) (tS T n p) (tS T n q)) [64, 72] h r (fun h1 => tkR T n q h1 ∧ h1 72 = up (h 72) to (c10 T n q) ∧ f64 goF [64, 72] h h1)) := by
  subst hq
  exact Mo_afterLink_ok j hj to lo hi T n p h r hS hk t0
theorem tkR_q {T : mF} {n p q : Int} {h : mH} (hk : tkR T n p h) (h5 : tK T n p ≠ 5) (hq : tE T n p = q) : h 64 14 = q := by
  subst hq
  exact hk.2.2.1 h5

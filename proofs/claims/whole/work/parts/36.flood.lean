/-! LinkTimes$Flood: cells 48 (rows 49, 50) and 51 (rows 52, 53) -/
def isF (F SO CA : Nat) : Prop := F = 48 ∧ SO = 49 ∧ CA = 50 ∨ F = 51 ∧ SO = 52 ∧ CA = 53
def rode (N : mN) (e : Int) (SO CA : Nat) (h h1 : mH) : Prop := fr [SO, CA] h h1 ∧ (∀ s, s ≠ dst N e → h1 SO s = h SO s) ∧ h1 SO (dst N e) = (if ar N e < h SO (dst N e) then ar N e else h SO (dst N e)) ∧ ∀ d, dp N d → (h1 CA d = 1 ↔ h CA d = 1 ∨ (J N e d ∧ frm N d = dst N e)) ∧ (h1 CA d = 0 ∨ h1 CA d = 1)
def netW (h : mH) (r : mR) (N : mN) : Prop := r.1 31 7 = some 2 ∧ NV N ∧ isN h N ∧ isO h N ∧ isG h N
theorem netW.fr {S : List Nat} {h h1 : mH} {r : mR} {N : mN} (hw : netW h r N) (f : fr S h h1) (hS : ∀ i ∈ [31, 2, 32, 33, 6, 7, 5, 34, 38, 39, 35, 36, 37], i ∉ S) : netW h1 r N :=
  ⟨hw.1, hw.2.1, hw.2.2.1.fr f (fun i hi => hS i (by simp at hi ⊢; omega)), hw.2.2.2.1.fr f (hS _ (by decide)), hw.2.2.2.2.fr f (hS _ (by decide)) (hS _ (by decide))⟩
set_option maxRecDepth 100000 in
set_option maxHeartbeats 2000000 in
theorem Fl_rideA (F SO CA : Nat) (hF : isF F SO CA) (N : mN) (e : Int) (h : mH) (r : mR) (h0 : mH) (he : dp N e) (hw : netW h r N) (Q : mX)
    (K : ∀ h2 a b, fr [CA] h h2 → (∀ d, dp N d → (h2 CA d = 1 ↔ h CA d = 1 ∨ (J N e d ∧ frm N d = dst N e)) ∧ (h2 CA d = 0 ∨ h2 CA d = 1)) → WP (true, rm 3) m_Fl_rideOn Q 85 [some (vR F), some (vR 31), some (vI e), some (vI (dst N e)), a, b] [] h2 r (0, 0)) :
    ∀ (M : Nat) (p : Int) (h' : mH) (a : Option mV), (h 37 (dst N e + 1) - p).toNat = M → h 37 (dst N e) ≤ p → p ≤ h 37 (dst N e + 1) → fr [CA] h h' → (∀ d, dp N d → (h' CA d = 1 ↔ h CA d = 1 ∨ (J N e d ∧ ∃ q, h 37 (dst N e) ≤ q ∧ q < p ∧ h 36 q = d)) ∧ (h' CA d = 0 ∨ h' CA d = 1)) → WP (true, rm 3) m_Fl_rideOn Q 39 [some (vR F), some (vR 31), some (vI e), some (vI (dst N e)), some (vI p), a] [] h' r (0, 0) := by
  rcases hF with ⟨rfl, rfl, rfl⟩ | ⟨rfl, rfl, rfl⟩
  all_goals
    intro M
    induction M using Nat.strongRecOn with
    | ind M ih =>
      intro p h' a hM p0 p1 hf hx
      obtain ⟨hnde, hV, hN, hO, hG⟩ := id hw
      have hve := hV.2.2.1 e he
      have hn := hV.1
      have hS := hV.2.1
      have g1 := hG.1 (dst N e) (by omega) (by omega)
      have hw' : netW h' r N := hw.fr hf (by decide)
      have e37 : h' 37 = h 37 := hf 37 (by decide)
      have e36 : h' 36 = h 36 := hf 36 (by decide)
      have gd : p < h 37 (dst N e + 1) → dp N (h 36 p) ∧ frm N (h 36 p) = dst N e := fun z => hG.2.1 (dst N e) p (by omega) (by omega) p0 z
      refine wq_iload (i := 4) (q := 41) rfl rfl rfl ?_
      refine wq_aload_n (kk := 1) (q := 42) rfl rfl rfl ?_
      refine wq_getF (q := 45) f_Fl_67 rfl rfl (Nat.le_of_ble_eq_true rfl) rfl rfl rfl ?_
      refine wq_iload_n (kk := 3) (q := 46) rfl rfl rfl ?_
      refine wq_iconst (n := 1) (q := 47) rfl rfl rfl ?_
      refine wq_iadd (q := 48) rfl rfl (by first | omega | (rw [e37]; omega) | (have z := gd (by omega); have z1 := z.1.1; have z2 := z.1.2; first | omega | (rw [e36]; omega))) (by first | omega | (rw [e37]; omega) | (have z := gd (by omega); have z1 := z.1.1; have z2 := z.1.2; first | omega | (rw [e36]; omega))) ?_
      refine wq_iald (q := 49) rfl (Or.inl ⟨rfl, Nat.le_of_ble_eq_true rfl⟩) rfl rfl (by first | omega | (rw [e37]; omega) | (have z := gd (by omega); have z1 := z.1.1; have z2 := z.1.2; first | omega | (rw [e36]; omega))) (by first | omega | (rw [e37]; omega) | (have z := gd (by omega); have z1 := z.1.1; have z2 := z.1.2; first | omega | (rw [e36]; omega))) ?_
      rw [e37]
      refine wq_icmp_ge (tgt := 85) (q := 52) rfl rfl rfl (fun c49 => ?_) (fun c49 => ?_)
      · skip
        refine K h' _ _ hf (fun d hd => ⟨?_, (hx d hd).2⟩)
        rw [(hx d hd).1]
        refine or_congr Iff.rfl (and_congr Iff.rfl ⟨?_, fun z => ?_⟩)
        · rintro ⟨q, q0, q1, rfl⟩
          exact (hG.2.1 (dst N e) q (by omega) (by omega) q0 (by omega)).2
        · obtain ⟨q, q0, q1, q2⟩ := hG.2.2.1 d hd
          rw [z] at q0 q1
          exact ⟨q, q0, by omega, q2⟩
      · skip
        refine wq_aload_n (kk := 1) (q := 53) rfl rfl rfl ?_
        refine wq_getF (q := 56) f_Fl_70 rfl rfl (Nat.le_of_ble_eq_true rfl) rfl rfl rfl ?_
        refine wq_iload (i := 4) (q := 58) rfl rfl rfl ?_
        refine wq_iald (q := 59) rfl (Or.inl ⟨rfl, Nat.le_of_ble_eq_true rfl⟩) rfl rfl (by first | omega | (rw [e37]; omega) | (have z := gd (by omega); have z1 := z.1.1; have z2 := z.1.2; first | omega | (rw [e36]; omega))) (by first | omega | (rw [e37]; omega) | (have z := gd (by omega); have z1 := z.1.1; have z2 := z.1.2; first | omega | (rw [e36]; omega))) ?_
        rw [e36]
        refine wq_istore (i := 5) (q := 61) rfl rfl (Nat.le_of_ble_eq_true rfl) rfl ?_
        refine wq_aload_n (kk := 1) (q := 62) rfl rfl rfl ?_
        refine wq_iload_n (kk := 2) (q := 63) rfl rfl rfl ?_
        refine wq_iload (i := 5) (q := 65) rfl rfl rfl ?_
        refine wq_callV (q := 68) (m' := m_Ne_joins) (R' := rm 2) (As := [_, _]) rfl rfl l_Fl_54 vm_Ne_joins rfl rfl rfl (Or.inl ⟨rfl, Nat.le_of_ble_eq_true rfl⟩) (Nat.le_of_ble_eq_true rfl) (Nat.le_of_ble_eq_true rfl) (Nat.le_refl _) (Nat.le_refl _) (Nat.le_of_ble_eq_true rfl) (Ne_joins_ok N e (h 36 p) h' r hnde hV hw'.2.2.1 he (gd (by omega)).1) rfl ?_
        rintro rv h' r' ⟨rfl, rfl, rfl⟩ -
        refine wq_cif_eq (tgt := 79) (q := 71) rfl rfl rfl (fun c68 => ?_) (fun c68 => ?_)
        · skip
          refine wq_iinc (i := 4) (n := 1) (q := 82) rfl rfl rfl (Nat.le_of_ble_eq_true rfl) rfl (by first | omega | (rw [e37]; omega) | (have z := gd (by omega); have z1 := z.1.1; have z2 := z.1.2; first | omega | (rw [e36]; omega))) (by first | omega | (rw [e37]; omega) | (have z := gd (by omega); have z1 := z.1.1; have z2 := z.1.2; first | omega | (rw [e36]; omega))) ?_
          refine wq_goto (tgt := 39) rfl rfl ?_
          have gp' := gd (by omega)
          first
            | (refine ih _ ?_ (p + 1) _ _ rfl (by omega) (by omega) hf (fun d hd => ?_)
               · omega
               · refine ⟨(hx d hd).1.trans (or_congr Iff.rfl ⟨fun ⟨j, q, q0, q1, q2⟩ => ⟨j, q, q0, by omega, q2⟩, ?_⟩), (hx d hd).2⟩
                 rintro ⟨j, q, q0, q1, q2⟩
                 by_cases eq : q = p
                 · subst eq; rw [q2] at c68; exact absurd j c68
                 · exact ⟨j, q, q0, by omega, q2⟩)
            | (refine ih _ ?_ (p + 1) _ _ rfl (by omega) (by omega) (hf.up (by decide)) (fun d hd => ?_)
               · omega
               · by_cases ed : d = h 36 p
                 · subst ed
                   rw [hup_s]
                   exact ⟨⟨fun _ => Or.inr ⟨c68, p, p0, by omega, rfl⟩, fun _ => rfl⟩, Or.inr rfl⟩
                 · rw [hup_j ed]
                   refine ⟨(hx d hd).1.trans (or_congr Iff.rfl ⟨fun ⟨j, q, q0, q1, q2⟩ => ⟨j, q, q0, by omega, q2⟩, ?_⟩), (hx d hd).2⟩
                   rintro ⟨j, q, q0, q1, q2⟩
                   by_cases eq : q = p
                   · subst eq; exact absurd q2.symm ed
                   · exact ⟨j, q, q0, by omega, q2⟩)
        · skip
          refine wq_aload_n (kk := 0) (q := 72) rfl rfl rfl ?_
          refine wq_getF (q := 75) f_Fl_15 rfl rfl (Nat.le_of_ble_eq_true rfl) rfl rfl rfl ?_
          refine wq_iload (i := 5) (q := 77) rfl rfl rfl ?_
          refine wq_iconst (n := 1) (q := 78) rfl rfl rfl ?_
          refine wq_zast (q := 79) rfl (Or.inl ⟨rfl, Nat.le_of_ble_eq_true rfl⟩) rfl rfl (by first | omega | (rw [e37]; omega) | (have z := gd (by omega); have z1 := z.1.1; have z2 := z.1.2; first | omega | (rw [e36]; omega))) (by first | omega | (rw [e37]; omega) | (have z := gd (by omega); have z1 := z.1.1; have z2 := z.1.2; first | omega | (rw [e36]; omega))) (by omega) ?_
          refine wq_iinc (i := 4) (n := 1) (q := 82) rfl rfl rfl (Nat.le_of_ble_eq_true rfl) rfl (by first | omega | (rw [e37]; omega) | (have z := gd (by omega); have z1 := z.1.1; have z2 := z.1.2; first | omega | (rw [e36]; omega))) (by first | omega | (rw [e37]; omega) | (have z := gd (by omega); have z1 := z.1.1; have z2 := z.1.2; first | omega | (rw [e36]; omega))) ?_
          refine wq_goto (tgt := 39) rfl rfl ?_
          have gp' := gd (by omega)
          first
            | (refine ih _ ?_ (p + 1) _ _ rfl (by omega) (by omega) hf (fun d hd => ?_)
               · omega
               · refine ⟨(hx d hd).1.trans (or_congr Iff.rfl ⟨fun ⟨j, q, q0, q1, q2⟩ => ⟨j, q, q0, by omega, q2⟩, ?_⟩), (hx d hd).2⟩
                 rintro ⟨j, q, q0, q1, q2⟩
                 by_cases eq : q = p
                 · subst eq; rw [q2] at c68; exact absurd j c68
                 · exact ⟨j, q, q0, by omega, q2⟩)
            | (refine ih _ ?_ (p + 1) _ _ rfl (by omega) (by omega) (hf.up (by decide)) (fun d hd => ?_)
               · omega
               · by_cases ed : d = h 36 p
                 · subst ed
                   rw [hup_s]
                   exact ⟨⟨fun _ => Or.inr ⟨c68, p, p0, by omega, rfl⟩, fun _ => rfl⟩, Or.inr rfl⟩
                 · rw [hup_j ed]
                   refine ⟨(hx d hd).1.trans (or_congr Iff.rfl ⟨fun ⟨j, q, q0, q1, q2⟩ => ⟨j, q, q0, by omega, q2⟩, ?_⟩), (hx d hd).2⟩
                   rintro ⟨j, q, q0, q1, q2⟩
                   by_cases eq : q = p
                   · subst eq; exact absurd q2.symm ed
                   · exact ⟨j, q, q0, by omega, q2⟩)
set_option maxRecDepth 100000 in
set_option maxHeartbeats 2000000 in
theorem Fl_rideOn_ok (F SO CA : Nat) (hF : isF F SO CA) (N : mN) (e : Int) (h : mH) (r : mR) (he : dp N e) (hw : netW h r N) (hc : ∀ d, dp N d → h CA d = 0 ∨ h CA d = 1) : Meets true (rm 3) m_Fl_rideOn [vR F, vR 31, vI e] h r (fun rv h1 r1 => rv = none ∧ r1 = r ∧ rode N e SO CA h h1) := by
  obtain ⟨hnde, hV, hN, hO, hG⟩ := id hw
  have hve := hV.2.2.1 e he
  have hne := hN.2.2.1 e he
  have hn := hV.1
  have hS := hV.2.1
  obtain ⟨e0, e1⟩ := id he
  have g1 := hG.1 (dst N e) (by omega) (by omega)
  have hF' := hF
  rcases hF with ⟨rfl, rfl, rfl⟩ | ⟨rfl, rfl, rfl⟩
  · refine ⟨ok_Fl_rideOn, Nat.le_of_ble_eq_true rfl, ?_⟩
    refine wq_aload_n (kk := 1) (q := 1) rfl rfl rfl ?_
    refine wq_getR (q := 4) f_Fl_19 rfl rfl (Or.inl ⟨rfl, Nat.le_of_ble_eq_true rfl⟩) hnde rfl rfl ?_
    refine wq_getF (q := 7) f_Fl_51 rfl rfl (Nat.le_of_ble_eq_true rfl) rfl rfl rfl ?_
    refine wq_iload_n (kk := 2) (q := 8) rfl rfl rfl ?_
    refine wq_iald (q := 9) rfl (Or.inl ⟨rfl, Nat.le_of_ble_eq_true rfl⟩) rfl rfl (by first | omega | (simp [hup]; omega)) (by first | omega | (simp [hup]; omega)) ?_
    rw [hne.2.2.2.1]
    refine wq_istore_n (kk := 3) (q := 10) rfl rfl (Nat.le_of_ble_eq_true rfl) rfl ?_
    refine wq_aload_n (kk := 0) (q := 11) rfl rfl rfl ?_
    refine wq_getF (q := 14) f_Fl_9 rfl rfl (Nat.le_of_ble_eq_true rfl) rfl rfl rfl ?_
    refine wq_iload_n (kk := 3) (q := 15) rfl rfl rfl ?_
    refine wq_aload_n (kk := 0) (q := 16) rfl rfl rfl ?_
    refine wq_getF (q := 19) f_Fl_9 rfl rfl (Nat.le_of_ble_eq_true rfl) rfl rfl rfl ?_
    refine wq_iload_n (kk := 3) (q := 20) rfl rfl rfl ?_
    refine wq_iald (q := 21) rfl (Or.inl ⟨rfl, Nat.le_of_ble_eq_true rfl⟩) rfl rfl (by first | omega | (simp [hup]; omega)) (by first | omega | (simp [hup]; omega)) ?_
    refine wq_aload_n (kk := 1) (q := 22) rfl rfl rfl ?_
    refine wq_getF (q := 25) f_Fl_58 rfl rfl (Nat.le_of_ble_eq_true rfl) rfl rfl rfl ?_
    refine wq_iload_n (kk := 2) (q := 26) rfl rfl rfl ?_
    refine wq_iald (q := 27) rfl (Or.inl ⟨rfl, Nat.le_of_ble_eq_true rfl⟩) rfl rfl (by first | omega | (simp [hup]; omega)) (by first | omega | (simp [hup]; omega)) ?_
    rw [hne.2.1]
    refine wq_min (q := 30) k_Fl_61 k_math_min k_math_min_s k_math_i rfl rfl (Nat.le_of_ble_eq_true rfl) (Nat.le_of_ble_eq_true rfl) (Nat.le_refl _) (Nat.le_refl _) (Nat.le_of_ble_eq_true rfl) ?_
    refine wq_iast (q := 31) rfl (Or.inl ⟨rfl, Nat.le_of_ble_eq_true rfl⟩) rfl rfl (by first | omega | (simp [hup]; omega)) (by first | omega | (simp [hup]; omega)) ?_
    refine wq_aload_n (kk := 1) (q := 32) rfl rfl rfl ?_
    refine wq_getF (q := 35) f_Fl_67 rfl rfl (Nat.le_of_ble_eq_true rfl) rfl rfl rfl ?_
    refine wq_iload_n (kk := 3) (q := 36) rfl rfl rfl ?_
    refine wq_iald (q := 37) rfl (Or.inl ⟨rfl, Nat.le_of_ble_eq_true rfl⟩) rfl rfl (by first | omega | (simp [hup]; omega)) (by first | omega | (simp [hup]; omega)) ?_
    rw [show ∀ x, hup h 49 (dst N e) x 37 (dst N e) = h 37 (dst N e) from fun x => hup_i (by decide)]
    refine wq_istore (i := 4) (q := 39) rfl rfl (Nat.le_of_ble_eq_true rfl) rfl ?_
    have hf0 : fr [49] h (hup h 49 (dst N e) (if ar N e < h 49 (dst N e) then ar N e else h 49 (dst N e))) := fr.rf.up (by decide)
    refine Fl_rideA 48 49 50 hF' N e _ r h he (hw.fr hf0 (by decide)) _ (fun h2 a b f2 x2 => ?_) _ _ _ _ rfl (by rw [hup_i (by decide)]; exact Int.le_refl _) (by rw [hup_i (by decide)]; omega) fr.rf (fun d hd => ?_)
    · refine wq_vret rfl rfl (Nat.le_refl _) (Nat.le_refl _) ⟨rfl, rfl, ((hf0.mono (by decide)).trans f2 (by decide)), fun s hs => ?_, ?_, fun d hd => ?_⟩
      · rw [f2.at 49 s (by decide), hup_j hs]
      · rw [f2.at 49 _ (by decide), hup_s]
      · have := x2 d hd
        rw [hup_i (by decide)] at this
        exact this
    · refine ⟨⟨fun z => Or.inl z, fun z => z.elim id ?_⟩, by rw [hup_i (by decide)]; exact hc d hd⟩
      rintro ⟨-, q, q0, q1, -⟩
      rw [hup_i (by decide)] at q0
      omega
  · refine ⟨ok_Fl_rideOn, Nat.le_of_ble_eq_true rfl, ?_⟩
    refine wq_aload_n (kk := 1) (q := 1) rfl rfl rfl ?_
    refine wq_getR (q := 4) f_Fl_19 rfl rfl (Or.inl ⟨rfl, Nat.le_of_ble_eq_true rfl⟩) hnde rfl rfl ?_
    refine wq_getF (q := 7) f_Fl_51 rfl rfl (Nat.le_of_ble_eq_true rfl) rfl rfl rfl ?_
    refine wq_iload_n (kk := 2) (q := 8) rfl rfl rfl ?_
    refine wq_iald (q := 9) rfl (Or.inl ⟨rfl, Nat.le_of_ble_eq_true rfl⟩) rfl rfl (by first | omega | (simp [hup]; omega)) (by first | omega | (simp [hup]; omega)) ?_
    rw [hne.2.2.2.1]
    refine wq_istore_n (kk := 3) (q := 10) rfl rfl (Nat.le_of_ble_eq_true rfl) rfl ?_
    refine wq_aload_n (kk := 0) (q := 11) rfl rfl rfl ?_
    refine wq_getF (q := 14) f_Fl_9 rfl rfl (Nat.le_of_ble_eq_true rfl) rfl rfl rfl ?_
    refine wq_iload_n (kk := 3) (q := 15) rfl rfl rfl ?_
    refine wq_aload_n (kk := 0) (q := 16) rfl rfl rfl ?_
    refine wq_getF (q := 19) f_Fl_9 rfl rfl (Nat.le_of_ble_eq_true rfl) rfl rfl rfl ?_
    refine wq_iload_n (kk := 3) (q := 20) rfl rfl rfl ?_
    refine wq_iald (q := 21) rfl (Or.inl ⟨rfl, Nat.le_of_ble_eq_true rfl⟩) rfl rfl (by first | omega | (simp [hup]; omega)) (by first | omega | (simp [hup]; omega)) ?_
    refine wq_aload_n (kk := 1) (q := 22) rfl rfl rfl ?_
    refine wq_getF (q := 25) f_Fl_58 rfl rfl (Nat.le_of_ble_eq_true rfl) rfl rfl rfl ?_
    refine wq_iload_n (kk := 2) (q := 26) rfl rfl rfl ?_
    refine wq_iald (q := 27) rfl (Or.inl ⟨rfl, Nat.le_of_ble_eq_true rfl⟩) rfl rfl (by first | omega | (simp [hup]; omega)) (by first | omega | (simp [hup]; omega)) ?_
    rw [hne.2.1]
    refine wq_min (q := 30) k_Fl_61 k_math_min k_math_min_s k_math_i rfl rfl (Nat.le_of_ble_eq_true rfl) (Nat.le_of_ble_eq_true rfl) (Nat.le_refl _) (Nat.le_refl _) (Nat.le_of_ble_eq_true rfl) ?_
    refine wq_iast (q := 31) rfl (Or.inl ⟨rfl, Nat.le_of_ble_eq_true rfl⟩) rfl rfl (by first | omega | (simp [hup]; omega)) (by first | omega | (simp [hup]; omega)) ?_
    refine wq_aload_n (kk := 1) (q := 32) rfl rfl rfl ?_
    refine wq_getF (q := 35) f_Fl_67 rfl rfl (Nat.le_of_ble_eq_true rfl) rfl rfl rfl ?_
    refine wq_iload_n (kk := 3) (q := 36) rfl rfl rfl ?_
    refine wq_iald (q := 37) rfl (Or.inl ⟨rfl, Nat.le_of_ble_eq_true rfl⟩) rfl rfl (by first | omega | (simp [hup]; omega)) (by first | omega | (simp [hup]; omega)) ?_
    rw [show ∀ x, hup h 52 (dst N e) x 37 (dst N e) = h 37 (dst N e) from fun x => hup_i (by decide)]
    refine wq_istore (i := 4) (q := 39) rfl rfl (Nat.le_of_ble_eq_true rfl) rfl ?_
    have hf0 : fr [52] h (hup h 52 (dst N e) (if ar N e < h 52 (dst N e) then ar N e else h 52 (dst N e))) := fr.rf.up (by decide)
    refine Fl_rideA 51 52 53 hF' N e _ r h he (hw.fr hf0 (by decide)) _ (fun h2 a b f2 x2 => ?_) _ _ _ _ rfl (by rw [hup_i (by decide)]; exact Int.le_refl _) (by rw [hup_i (by decide)]; omega) fr.rf (fun d hd => ?_)
    · refine wq_vret rfl rfl (Nat.le_refl _) (Nat.le_refl _) ⟨rfl, rfl, ((hf0.mono (by decide)).trans f2 (by decide)), fun s hs => ?_, ?_, fun d hd => ?_⟩
      · rw [f2.at 52 s (by decide), hup_j hs]
      · rw [f2.at 52 _ (by decide), hup_s]
      · have := x2 d hd
        rw [hup_i (by decide)] at this
        exact this
    · refine ⟨⟨fun z => Or.inl z, fun z => z.elim id ?_⟩, by rw [hup_i (by decide)]; exact hc d hd⟩
      rintro ⟨-, q, q0, q1, -⟩
      rw [hup_i (by decide)] at q0
      omega

/-- which departures one comes to from a, ready at t (c: 1 if so); when one is soonest at each spot (so) -/
def Ct (N : mN) (a t : Int) (c : mF) : Prop := ∀ d, dp N d → (c d = 1 ↔ (frm N d = a ∧ t ≤ lv N d) ∨ ∃ e, dp N e ∧ rn N e = 1 ∧ c e = 1 ∧ J N e d ∧ frm N d = dst N e) ∧ (c d = 0 ∨ c d = 1)
def So (N : mN) (c so : mF) (s : Int) : Prop := (so s = 1000000 ∨ ∃ e, dp N e ∧ rn N e = 1 ∧ c e = 1 ∧ dst N e = s ∧ so s = ar N e) ∧ ∀ e, dp N e → rn N e = 1 → c e = 1 → dst N e = s → so s ≤ ar N e
def Soon (N : mN) (a t : Int) (so : mF) : Prop := so a = t ∧ ∃ c, Ct N a t c ∧ ∀ s, 0 ≤ s → s < nS N → s ≠ a → So N c so s
/-- the same, as far as the order's first i have been ridden -/
def CtI (N : mN) (a t : Int) (o c : mF) (i : Int) : Prop := ∀ d, dp N d → (c d = 1 ↔ (frm N d = a ∧ t ≤ lv N d) ∨ ∃ j, 0 ≤ j ∧ j < i ∧ rn N (o j) = 1 ∧ c (o j) = 1 ∧ J N (o j) d ∧ frm N d = dst N (o j)) ∧ (c d = 0 ∨ c d = 1)
def SoI (N : mN) (o c so : mF) (i s : Int) : Prop := (so s = 1000000 ∨ ∃ j, 0 ≤ j ∧ j < i ∧ rn N (o j) = 1 ∧ c (o j) = 1 ∧ dst N (o j) = s ∧ so s = ar N (o j)) ∧ ∀ j, 0 ≤ j → j < i → rn N (o j) = 1 → c (o j) = 1 → dst N (o j) = s → so s ≤ ar N (o j)
theorem CtI.skip {N : mN} {a t : Int} {o c : mF} {i : Int} (h : CtI N a t o c i) (hz : ¬ (rn N (o i) = 1 ∧ c (o i) = 1)) : CtI N a t o c (i + 1) := fun d hd => ⟨(h d hd).1.trans (or_congr Iff.rfl ⟨fun ⟨j, a, b, z⟩ => ⟨j, a, by omega, z⟩, fun ⟨j, a, b, z⟩ => by
  by_cases e : j = i
  · subst e; exact absurd ⟨z.1, z.2.1⟩ hz
  · exact ⟨j, a, by omega, z⟩⟩), (h d hd).2⟩
theorem SoI.skip {N : mN} {o c so : mF} {i s : Int} (h : SoI N o c so i s) (hz : ¬ (rn N (o i) = 1 ∧ c (o i) = 1)) : SoI N o c so (i + 1) s := ⟨h.1.imp id (fun ⟨j, a, b, z⟩ => ⟨j, a, by omega, z⟩), fun j a b z1 z2 => by
  by_cases e : j = i
  · subst e; exact absurd ⟨z1, z2⟩ hz
  · exact h.2 j a (by omega) z1 z2⟩
/-- riding on marks nothing that the order has passed -/
theorem ride_old {N : mN} (hV : NV N) {o : mF} (hP : Pm o (nN N)) (hO : ∀ i j, 0 ≤ i → i < j → j < nN N → ol N (o i) (o j)) {i j : Int} (j0 : 0 ≤ j) (ji : j ≤ i) (i1 : i < nN N) : ¬ J N (o i) (o j) := by
  intro hJ
  have h1 := (hV.2.2.1 (o i) (hP.1 i (by omega) i1)).2.2.2.1
  have h2 := hJ.1
  by_cases e : j = i
  · subst e; omega
  · have := hO j i j0 (by omega) i1
    unfold ol at this
    omega
theorem CtI.ride {N : mN} (hV : NV N) {a t : Int} {o c c' : mF} {i : Int} (hP : Pm o (nN N)) (hO : ∀ i j, 0 ≤ i → i < j → j < nN N → ol N (o i) (o j)) (i0 : 0 ≤ i) (i1 : i < nN N) (h : CtI N a t o c i) (hr : rn N (o i) = 1) (hc : c (o i) = 1) (h' : ∀ d, dp N d → (c' d = 1 ↔ c d = 1 ∨ (J N (o i) d ∧ frm N d = dst N (o i))) ∧ (c' d = 0 ∨ c' d = 1)) : CtI N a t o c' (i + 1) ∧ ∀ j, 0 ≤ j → j ≤ i → (c' (o j) = 1 ↔ c (o j) = 1) := by
  have hk : ∀ j, 0 ≤ j → j ≤ i → (c' (o j) = 1 ↔ c (o j) = 1) := fun j j0 ji => by
    rw [(h' (o j) (hP.1 j j0 (by omega))).1]
    exact ⟨fun z => z.elim id (fun z => absurd z.1 (ride_old hV hP hO j0 ji i1)), Or.inl⟩
  refine ⟨fun d hd => ⟨?_, (h' d hd).2⟩, hk⟩
  rw [(h' d hd).1, (h d hd).1]
  constructor
  · rintro ((z | ⟨j, j0, j1, z1, z2, z3⟩) | z)
    · exact Or.inl z
    · exact Or.inr ⟨j, j0, by omega, z1, (hk j j0 (by omega)).mpr z2, z3⟩
    · exact Or.inr ⟨i, i0, by omega, hr, (hk i i0 (by omega)).mpr hc, z⟩
  · rintro (z | ⟨j, j0, j1, z1, z2, z3⟩)
    · exact Or.inl (Or.inl z)
    · by_cases e : j = i
      · subst e; exact Or.inr z3
      · exact Or.inl (Or.inr ⟨j, j0, by omega, z1, (hk j j0 (by omega)).mp z2, z3⟩)
theorem SoI.ride {N : mN} {o c c' so so' : mF} {i s : Int} (i0 : 0 ≤ i) (h : SoI N o c so i s) (hm : so s ≤ 1000000) (hr : rn N (o i) = 1) (hc : c (o i) = 1) (hk : ∀ j, 0 ≤ j → j ≤ i → (c' (o j) = 1 ↔ c (o j) = 1)) (h1 : s ≠ dst N (o i) → so' s = so s) (h2 : s = dst N (o i) → so' s = if ar N (o i) < so s then ar N (o i) else so s) : SoI N o c' so' (i + 1) s := by
  by_cases e : s = dst N (o i)
  · have h2 := h2 e
    refine ⟨?_, fun j j0 j1 z1 z2 z3 => ?_⟩
    · by_cases z : ar N (o i) < so s
      · rw [if_pos z] at h2
        exact Or.inr ⟨i, i0, by omega, hr, (hk i i0 (by omega)).mpr hc, e.symm, h2⟩
      · rw [if_neg z] at h2
        rw [h2]
        exact h.1.imp id (fun ⟨j, j0, j1, z1, z2, z3⟩ => ⟨j, j0, by omega, z1, (hk j j0 (by omega)).mpr z2, z3⟩)
    · have hle : so' s ≤ so s ∧ so' s ≤ ar N (o i) := by rw [h2]; split <;> omega
      by_cases ej : j = i
      · subst ej; exact hle.2
      · exact Int.le_trans hle.1 (h.2 j j0 (by omega) z1 ((hk j j0 (by omega)).mp z2) z3)
  · rw [SoI, h1 e]
    refine ⟨h.1.imp id (fun ⟨j, j0, j1, z1, z2, z3⟩ => ⟨j, j0, by omega, z1, (hk j j0 (by omega)).mpr z2, z3⟩), fun j j0 j1 z1 z2 z3 => ?_⟩
    by_cases ej : j = i
    · subst ej; exact absurd z3.symm e
    · exact h.2 j j0 (by omega) z1 ((hk j j0 (by omega)).mp z2) z3
theorem CtI.all {N : mN} {a t : Int} {o c : mF} (hP : Pm o (nN N)) (h : CtI N a t o c (nN N)) : Ct N a t c := fun d hd => ⟨(h d hd).1.trans (or_congr Iff.rfl ⟨fun ⟨j, j0, j1, z⟩ => ⟨o j, hP.1 j j0 j1, z⟩, fun ⟨e, he, z⟩ => by
  obtain ⟨j, j0, j1, rfl⟩ := hP.sur he.1 he.2
  exact ⟨j, j0, j1, z⟩⟩), (h d hd).2⟩
theorem SoI.all {N : mN} {o c so : mF} {s : Int} (hP : Pm o (nN N)) (h : SoI N o c so (nN N) s) : So N c so s := ⟨h.1.imp id (fun ⟨j, j0, j1, z⟩ => ⟨o j, hP.1 j j0 j1, z⟩), fun e he z1 z2 z3 => by
  obtain ⟨j, j0, j1, rfl⟩ := hP.sur he.1 he.2
  exact h.2 j j0 j1 z1 z2 z3⟩
abbrev spQ (SO CA : Nat) (N : mN) (a t : Int) (h : mH) (r : mR) : mP := fun rv h1 r1 => rv = none ∧ r1 = r ∧ fr [SO, CA] h h1 ∧ Soon N a t (h1 SO)
/-- the same, and what was caught -/
abbrev spQ2 (SO CA : Nat) (N : mN) (a t : Int) (h : mH) (r : mR) : mP := fun rv h1 r1 => rv = none ∧ r1 = r ∧ fr [SO, CA] h h1 ∧ Soon N a t (h1 SO) ∧ Ct N a t (h1 CA)
theorem Ct.cg {N : mN} {a t : Int} {c c' : mF} (h : Ct N a t c) (e : c' = c) : Ct N a t c' := e ▸ h
set_option maxRecDepth 100000 in
set_option maxHeartbeats 4000000 in
theorem Fl_spreadC (F SO CA : Nat) (hF : isF F SO CA) (N : mN) (a t : Int) (h : mH) (r : mR) (hw : netW h r N) (ha : 0 ≤ a ∧ a < nS N) : ∀ (M : Nat) (i : Int) (h' : mH) (b : Option mV), (nN N - i).toNat = M → 0 ≤ i → i ≤ nN N → fr [SO, CA] h h' → CtI N a t (h 35) (h' CA) i → (∀ s, 0 ≤ s → s < nS N → SoI N (h 35) (h' CA) (h' SO) i s ∧ h' SO s ≤ 1000000) → WP (true, rm 4) m_Fl_spread (rt m_Fl_spread (rm 4) (spQ2 SO CA N a t h r)) 88 [some (vR F), some (vR 31), some (vI a), some (vI t), some (vI i), b] [] h' r (0, 0) := by
  have hF' := hF
  rcases hF with ⟨rfl, rfl, rfl⟩ | ⟨rfl, rfl, rfl⟩
  all_goals
    intro M
    induction M using Nat.strongRecOn with
    | ind M ih =>
      intro i h' b hM i0 i1 hf hC hS
      obtain ⟨hnde, hV, hN, hO, hG⟩ := id hw
      have hn := hV.1
      have hSs := hV.2.1
      have hw' : netW h' r N := hw.fr hf (by decide)
      have e31 : h' 31 0 = nN N := hw'.2.2.1.1
      have e35 : h' 35 i = h 35 i := hf.at 35 i (by decide)
      have ho : i < nN N → dp N (h 35 i) := fun z => hO.1.1 i i0 z
      have er : i < nN N → h' 34 (h 35 i) = rn N (h 35 i) := fun z => (hw'.2.2.1.2.2.1 _ (ho z)).2.2.2.2.2
      refine wq_iload (i := 4) (q := 90) rfl rfl rfl ?_
      refine wq_aload_n (kk := 1) (q := 91) rfl rfl rfl ?_
      refine wq_getI (kz := 0) (q := 94) rfl f_Fl_32 rfl rfl (Or.inl ⟨rfl, Nat.le_of_ble_eq_true rfl⟩) rfl rfl ?_
      refine wq_icmp_ge (tgt := 139) (q := 97) rfl rfl rfl (fun c94 => ?_) (fun c94 => ?_)
      · skip
        have ei : i = nN N := by omega
        subst ei
        refine wq_aload_n (kk := 0) (q := 140) rfl rfl rfl ?_
        refine wq_getF (q := 143) f_Fl_9 rfl rfl (Nat.le_of_ble_eq_true rfl) rfl rfl rfl ?_
        refine wq_iload_n (kk := 2) (q := 144) rfl rfl rfl ?_
        refine wq_iload_n (kk := 3) (q := 145) rfl rfl rfl ?_
        refine wq_iast (q := 146) rfl (Or.inl ⟨rfl, Nat.le_of_ble_eq_true rfl⟩) rfl rfl (by first | omega | (have z := ho (by omega); have z1 := z.1; have z2 := z.2; omega)) (by first | omega | (have z := ho (by omega); have z1 := z.1; have z2 := z.2; omega)) ?_
        refine wq_vret rfl rfl (Nat.le_refl _) (Nat.le_refl _) ⟨rfl, rfl, hf.up (by decide), ⟨hup_s, _, hC.all hO.1, fun s s0 s1 hs => ?_⟩, (hC.all hO.1).cg (funext fun x => hup_i (by decide))⟩
        have z := ((hS s s0 s1).1).all hO.1
        unfold So at *
        rw [hup_j hs]
        exact z
      · skip
        refine wq_aload_n (kk := 1) (q := 98) rfl rfl rfl ?_
        refine wq_getF (q := 101) f_Fl_41 rfl rfl (Nat.le_of_ble_eq_true rfl) rfl rfl rfl ?_
        refine wq_iload (i := 4) (q := 103) rfl rfl rfl ?_
        refine wq_iald (q := 104) rfl (Or.inl ⟨rfl, Nat.le_of_ble_eq_true rfl⟩) rfl rfl (by first | omega | (have z := ho (by omega); have z1 := z.1; have z2 := z.2; omega)) (by first | omega | (have z := ho (by omega); have z1 := z.1; have z2 := z.2; omega)) ?_
        rw [e35]
        refine wq_istore (i := 5) (q := 106) rfl rfl (Nat.le_of_ble_eq_true rfl) rfl ?_
        refine wq_aload_n (kk := 1) (q := 107) rfl rfl rfl ?_
        refine wq_getF (q := 110) f_Fl_44 rfl rfl (Nat.le_of_ble_eq_true rfl) rfl rfl rfl ?_
        refine wq_iload (i := 5) (q := 112) rfl rfl rfl ?_
        refine wq_zald (q := 113) rfl (Or.inl ⟨rfl, Nat.le_of_ble_eq_true rfl⟩) rfl rfl (by first | omega | (have z := ho (by omega); have z1 := z.1; have z2 := z.2; omega)) (by first | omega | (have z := ho (by omega); have z1 := z.1; have z2 := z.2; omega)) ?_
        rw [er (by omega)]
        refine wq_if_eq (tgt := 133) (q := 116) rfl rfl rfl (fun c113 => ?_) (fun c113 => ?_)
        · skip
          refine wq_iinc (i := 4) (n := 1) (q := 136) rfl rfl rfl (Nat.le_of_ble_eq_true rfl) rfl (by first | omega | (have z := ho (by omega); have z1 := z.1; have z2 := z.2; omega)) (by first | omega | (have z := ho (by omega); have z1 := z.1; have z2 := z.2; omega)) ?_
          refine wq_goto (tgt := 88) rfl rfl ?_
          first
            | (have hr1 : rn N (h 35 i) = 1 := by
                 have := (hV.2.2.1 _ (ho (by omega))).2.2.2.2
                 omega
               have hc1 := (hC _ (ho (by omega))).2.resolve_left c123
               obtain ⟨y1, y2⟩ := hC.ride hV hO.1 hO.2 i0 (by omega) hr1 hc1 x2
               refine ih _ ?_ (i + 1) h2 _ rfl (by omega) (by omega) (hf.trans f2 (by decide)) y1 (fun s s0' s1' => ⟨((hS s s0' s1').1).ride i0 (hS s s0' s1').2 hr1 hc1 y2 (fun z => s1 s z) (fun z => by subst z; exact s2), ?_⟩)
               · omega
               · have hb := (hS s s0' s1').2
                 by_cases es : s = dst N (h 35 i)
                 · subst es; rw [s2]; split <;> omega
                 · rw [s1 s es]; exact hb)
            | (refine ih _ ?_ (i + 1) h' _ rfl (by omega) (by omega) hf (hC.skip ?_) (fun s s0 s1 => ⟨((hS s s0 s1).1).skip ?_, (hS s s0 s1).2⟩)
               · omega
               · omega
               · omega)
        · skip
          refine wq_aload_n (kk := 0) (q := 117) rfl rfl rfl ?_
          refine wq_getF (q := 120) f_Fl_15 rfl rfl (Nat.le_of_ble_eq_true rfl) rfl rfl rfl ?_
          refine wq_iload (i := 5) (q := 122) rfl rfl rfl ?_
          refine wq_zald (q := 123) rfl (Or.inl ⟨rfl, Nat.le_of_ble_eq_true rfl⟩) rfl rfl (by first | omega | (have z := ho (by omega); have z1 := z.1; have z2 := z.2; omega)) (by first | omega | (have z := ho (by omega); have z1 := z.1; have z2 := z.2; omega)) ?_
          refine wq_if_eq (tgt := 133) (q := 126) rfl rfl rfl (fun c123 => ?_) (fun c123 => ?_)
          · skip
            refine wq_iinc (i := 4) (n := 1) (q := 136) rfl rfl rfl (Nat.le_of_ble_eq_true rfl) rfl (by first | omega | (have z := ho (by omega); have z1 := z.1; have z2 := z.2; omega)) (by first | omega | (have z := ho (by omega); have z1 := z.1; have z2 := z.2; omega)) ?_
            refine wq_goto (tgt := 88) rfl rfl ?_
            first
              | (have hr1 : rn N (h 35 i) = 1 := by
                   have := (hV.2.2.1 _ (ho (by omega))).2.2.2.2
                   omega
                 have hc1 := (hC _ (ho (by omega))).2.resolve_left c123
                 obtain ⟨y1, y2⟩ := hC.ride hV hO.1 hO.2 i0 (by omega) hr1 hc1 x2
                 refine ih _ ?_ (i + 1) h2 _ rfl (by omega) (by omega) (hf.trans f2 (by decide)) y1 (fun s s0' s1' => ⟨((hS s s0' s1').1).ride i0 (hS s s0' s1').2 hr1 hc1 y2 (fun z => s1 s z) (fun z => by subst z; exact s2), ?_⟩)
                 · omega
                 · have hb := (hS s s0' s1').2
                   by_cases es : s = dst N (h 35 i)
                   · subst es; rw [s2]; split <;> omega
                   · rw [s1 s es]; exact hb)
              | (refine ih _ ?_ (i + 1) h' _ rfl (by omega) (by omega) hf (hC.skip ?_) (fun s s0 s1 => ⟨((hS s s0 s1).1).skip ?_, (hS s s0 s1).2⟩)
                 · omega
                 · omega
                 · omega)
          · skip
            refine wq_aload_n (kk := 0) (q := 127) rfl rfl rfl ?_
            refine wq_aload_n (kk := 1) (q := 128) rfl rfl rfl ?_
            refine wq_iload (i := 5) (q := 130) rfl rfl rfl ?_
            refine wq_callV (q := 133) (m' := m_Fl_rideOn) (R' := rm 3) (As := [_, _]) rfl rfl l_Fl_47 vm_Fl_rideOn rfl rfl rfl (Or.inl ⟨rfl, Nat.le_of_ble_eq_true rfl⟩) (Nat.le_of_ble_eq_true rfl) (Nat.le_of_ble_eq_true rfl) (Nat.le_refl _) (Nat.le_refl _) (Nat.le_of_ble_eq_true rfl) (Fl_rideOn_ok _ _ _ hF' N (h 35 i) h' r (ho (by omega)) hw' (fun d hd => (hC d hd).2)) rfl ?_
            rintro rv h2 r2 ⟨rfl, rfl, f2, s1, s2, x2⟩ -
            refine wq_iinc (i := 4) (n := 1) (q := 136) rfl rfl rfl (Nat.le_of_ble_eq_true rfl) rfl (by first | omega | (have z := ho (by omega); have z1 := z.1; have z2 := z.2; omega)) (by first | omega | (have z := ho (by omega); have z1 := z.1; have z2 := z.2; omega)) ?_
            refine wq_goto (tgt := 88) rfl rfl ?_
            first
              | (have hr1 : rn N (h 35 i) = 1 := by
                   have := (hV.2.2.1 _ (ho (by omega))).2.2.2.2
                   omega
                 have hc1 := (hC _ (ho (by omega))).2.resolve_left c123
                 obtain ⟨y1, y2⟩ := hC.ride hV hO.1 hO.2 i0 (by omega) hr1 hc1 x2
                 refine ih _ ?_ (i + 1) h2 _ rfl (by omega) (by omega) (hf.trans f2 (by decide)) y1 (fun s s0' s1' => ⟨((hS s s0' s1').1).ride i0 (hS s s0' s1').2 hr1 hc1 y2 (fun z => s1 s z) (fun z => by subst z; exact s2), ?_⟩)
                 · omega
                 · have hb := (hS s s0' s1').2
                   by_cases es : s = dst N (h 35 i)
                   · subst es; rw [s2]; split <;> omega
                   · rw [s1 s es]; exact hb)
              | (refine ih _ ?_ (i + 1) h' _ rfl (by omega) (by omega) hf (hC.skip ?_) (fun s s0 s1 => ⟨((hS s s0 s1).1).skip ?_, (hS s s0 s1).2⟩)
                 · omega
                 · omega
                 · omega)
set_option maxRecDepth 100000 in
set_option maxHeartbeats 4000000 in
theorem Fl_spreadB (F SO CA : Nat) (hF : isF F SO CA) (N : mN) (a t : Int) (h : mH) (r : mR) (hw : netW h r N) (ha : 0 ≤ a ∧ a < nS N) : ∀ (M : Nat) (d : Int) (h' : mH) (b : Option mV), (nN N - d).toNat = M → 0 ≤ d → d ≤ nN N → fr [SO, CA] h h' → (∀ s, 0 ≤ s → s < nS N → h' SO s = 1000000) → (∀ x, 0 ≤ x → x < d → (h' CA x = 1 ↔ (frm N x = a ∧ t ≤ lv N x)) ∧ (h' CA x = 0 ∨ h' CA x = 1)) → WP (true, rm 4) m_Fl_spread (rt m_Fl_spread (rm 4) (spQ2 SO CA N a t h r)) 33 [some (vR F), some (vR 31), some (vI a), some (vI t), some (vI d), b] [] h' r (0, 0) := by
  have hF' := hF
  rcases hF with ⟨rfl, rfl, rfl⟩ | ⟨rfl, rfl, rfl⟩
  all_goals
    intro M
    induction M using Nat.strongRecOn with
    | ind M ih =>
      intro d h' b hM d0 d1 hf hS hx
      obtain ⟨hnde, hV, hN, hO, hG⟩ := id hw
      have hn := hV.1
      have hw' : netW h' r N := hw.fr hf (by decide)
      have e31 : h' 31 0 = nN N := hw'.2.2.1.1
      have hd := fun z : d < nN N => hw'.2.2.1.2.2.1 d ⟨d0, z⟩
      refine wq_iload (i := 4) (q := 35) rfl rfl rfl ?_
      refine wq_aload_n (kk := 1) (q := 36) rfl rfl rfl ?_
      refine wq_getI (kz := 0) (q := 39) rfl f_Fl_32 rfl rfl (Or.inl ⟨rfl, Nat.le_of_ble_eq_true rfl⟩) rfl rfl ?_
      refine wq_icmp_ge (tgt := 85) (q := 42) rfl rfl rfl (fun c39 => ?_) (fun c39 => ?_)
      · skip
        refine wq_iconst (n := 0) (q := 86) rfl rfl rfl ?_
        refine wq_istore (i := 4) (q := 88) rfl rfl (Nat.le_of_ble_eq_true rfl) rfl ?_
        have ed : d = nN N := by omega
        subst ed
        refine Fl_spreadC _ _ _ hF' N a t h r hw ha _ 0 h' _ rfl (by omega) (by omega) hf (fun x hx' => ⟨(hx x hx'.1 hx'.2).1.trans ⟨Or.inl, fun z => z.elim id (fun ⟨j, j0, j1, _⟩ => by omega)⟩, (hx x hx'.1 hx'.2).2⟩) (fun s s0 s1 => ⟨⟨Or.inl (hS s s0 s1), fun j j0 j1 => by omega⟩, by rw [hS s s0 s1]; exact Int.le_refl _⟩)
      · skip
        refine wq_aload_n (kk := 0) (q := 43) rfl rfl rfl ?_
        refine wq_getF (q := 46) f_Fl_15 rfl rfl (Nat.le_of_ble_eq_true rfl) rfl rfl rfl ?_
        refine wq_iload (i := 4) (q := 48) rfl rfl rfl ?_
        refine wq_aload_n (kk := 1) (q := 49) rfl rfl rfl ?_
        refine wq_getR (q := 52) f_Fl_19 rfl rfl (Or.inl ⟨rfl, Nat.le_of_ble_eq_true rfl⟩) hnde rfl rfl ?_
        refine wq_getF (q := 55) f_Fl_35 rfl rfl (Nat.le_of_ble_eq_true rfl) rfl rfl rfl ?_
        refine wq_iload (i := 4) (q := 57) rfl rfl rfl ?_
        refine wq_iald (q := 58) rfl (Or.inl ⟨rfl, Nat.le_of_ble_eq_true rfl⟩) rfl rfl (by first | omega | (simp [hup]; omega)) (by first | omega | (simp [hup]; omega)) ?_
        rw [(hd (by omega)).2.2.1]
        refine wq_iload_n (kk := 2) (q := 59) rfl rfl rfl ?_
        refine wq_icmp_ne (tgt := 77) (q := 62) rfl rfl rfl (fun c59 => ?_) (fun c59 => ?_)
        · skip
          refine wq_iconst (n := 0) (q := 78) rfl rfl rfl ?_
          refine wq_zast (q := 79) rfl (Or.inl ⟨rfl, Nat.le_of_ble_eq_true rfl⟩) rfl rfl (by first | omega | (simp [hup]; omega)) (by first | omega | (simp [hup]; omega)) (by omega) ?_
          refine wq_iinc (i := 4) (n := 1) (q := 82) rfl rfl rfl (Nat.le_of_ble_eq_true rfl) rfl (by first | omega | (simp [hup]; omega)) (by first | omega | (simp [hup]; omega)) ?_
          refine wq_goto (tgt := 33) rfl rfl ?_
          refine ih _ ?_ (d + 1) _ _ rfl (by omega) (by omega) (hf.up (by decide)) (fun s s0 s1 => by rw [hup_i (by decide)]; exact hS s s0 s1) (fun x x0 x1 => ?_)
          · omega
          · by_cases ex : x = d
            · subst ex
              rw [hup_s]
              refine ⟨⟨fun z => ?_, fun z => ?_⟩, by omega⟩
              · omega
              · omega
            · rw [hup_j ex]
              exact hx x x0 (by omega)
        · skip
          refine wq_aload_n (kk := 1) (q := 63) rfl rfl rfl ?_
          refine wq_getF (q := 66) f_Fl_38 rfl rfl (Nat.le_of_ble_eq_true rfl) rfl rfl rfl ?_
          refine wq_iload (i := 4) (q := 68) rfl rfl rfl ?_
          refine wq_iald (q := 69) rfl (Or.inl ⟨rfl, Nat.le_of_ble_eq_true rfl⟩) rfl rfl (by first | omega | (simp [hup]; omega)) (by first | omega | (simp [hup]; omega)) ?_
          rw [(hd (by omega)).1]
          refine wq_iload_n (kk := 3) (q := 70) rfl rfl rfl ?_
          refine wq_icmp_lt (tgt := 77) (q := 73) rfl rfl rfl (fun c70 => ?_) (fun c70 => ?_)
          · skip
            refine wq_iconst (n := 0) (q := 78) rfl rfl rfl ?_
            refine wq_zast (q := 79) rfl (Or.inl ⟨rfl, Nat.le_of_ble_eq_true rfl⟩) rfl rfl (by first | omega | (simp [hup]; omega)) (by first | omega | (simp [hup]; omega)) (by omega) ?_
            refine wq_iinc (i := 4) (n := 1) (q := 82) rfl rfl rfl (Nat.le_of_ble_eq_true rfl) rfl (by first | omega | (simp [hup]; omega)) (by first | omega | (simp [hup]; omega)) ?_
            refine wq_goto (tgt := 33) rfl rfl ?_
            refine ih _ ?_ (d + 1) _ _ rfl (by omega) (by omega) (hf.up (by decide)) (fun s s0 s1 => by rw [hup_i (by decide)]; exact hS s s0 s1) (fun x x0 x1 => ?_)
            · omega
            · by_cases ex : x = d
              · subst ex
                rw [hup_s]
                refine ⟨⟨fun z => ?_, fun z => ?_⟩, by omega⟩
                · omega
                · omega
              · rw [hup_j ex]
                exact hx x x0 (by omega)
          · skip
            refine wq_iconst (n := 1) (q := 74) rfl rfl rfl ?_
            refine wq_goto (tgt := 78) rfl rfl ?_
            refine wq_zast (q := 79) rfl (Or.inl ⟨rfl, Nat.le_of_ble_eq_true rfl⟩) rfl rfl (by first | omega | (simp [hup]; omega)) (by first | omega | (simp [hup]; omega)) (by omega) ?_
            refine wq_iinc (i := 4) (n := 1) (q := 82) rfl rfl rfl (Nat.le_of_ble_eq_true rfl) rfl (by first | omega | (simp [hup]; omega)) (by first | omega | (simp [hup]; omega)) ?_
            refine wq_goto (tgt := 33) rfl rfl ?_
            refine ih _ ?_ (d + 1) _ _ rfl (by omega) (by omega) (hf.up (by decide)) (fun s s0 s1 => by rw [hup_i (by decide)]; exact hS s s0 s1) (fun x x0 x1 => ?_)
            · omega
            · by_cases ex : x = d
              · subst ex
                rw [hup_s]
                refine ⟨⟨fun z => ?_, fun z => ?_⟩, by omega⟩
                · omega
                · omega
              · rw [hup_j ex]
                exact hx x x0 (by omega)
set_option maxRecDepth 100000 in
set_option maxHeartbeats 4000000 in
theorem Fl_spreadA (F SO CA : Nat) (hF : isF F SO CA) (N : mN) (a t : Int) (h : mH) (r : mR) (hw : netW h r N) (ha : 0 ≤ a ∧ a < nS N) : ∀ (M : Nat) (s : Int) (h' : mH) (b : Option mV), (nS N - s).toNat = M → 0 ≤ s → s ≤ nS N → fr [SO] h h' → (∀ x, 0 ≤ x → x < s → h' SO x = 1000000) → WP (true, rm 4) m_Fl_spread (rt m_Fl_spread (rm 4) (spQ2 SO CA N a t h r)) 3 [some (vR F), some (vR 31), some (vI a), some (vI t), some (vI s), b] [] h' r (0, 0) := by
  have hF' := hF
  rcases hF with ⟨rfl, rfl, rfl⟩ | ⟨rfl, rfl, rfl⟩
  all_goals
    intro M
    induction M using Nat.strongRecOn with
    | ind M ih =>
      intro s h' b hM s0 s1 hf hx
      obtain ⟨hnde, hV, hN, hO, hG⟩ := id hw
      have hS := hV.2.1
      have hn := hV.1
      have hw' : netW h' r N := hw.fr hf (by decide)
      have e2 : h' 2 1 = nS N := hw'.2.2.1.2.1
      refine wq_iload (i := 4) (q := 5) rfl rfl rfl ?_
      refine wq_aload_n (kk := 1) (q := 6) rfl rfl rfl ?_
      refine wq_getR (q := 9) f_Fl_19 rfl rfl (Or.inl ⟨rfl, Nat.le_of_ble_eq_true rfl⟩) hnde rfl rfl ?_
      refine wq_getI (kz := 1) (q := 12) rfl f_Fl_25 rfl rfl (Or.inl ⟨rfl, Nat.le_of_ble_eq_true rfl⟩) rfl rfl ?_
      refine wq_icmp_ge (tgt := 30) (q := 15) rfl rfl rfl (fun c12 => ?_) (fun c12 => ?_)
      · skip
        refine wq_iconst (n := 0) (q := 31) rfl rfl rfl ?_
        refine wq_istore (i := 4) (q := 33) rfl rfl (Nat.le_of_ble_eq_true rfl) rfl ?_
        exact Fl_spreadB _ _ _ hF' N a t h r hw ha _ 0 h' _ rfl (by omega) (by omega) (hf.mono (by decide)) (fun x x0 x1 => hx x x0 (by omega)) (fun x x0 x1 => by omega)
      · skip
        refine wq_aload_n (kk := 0) (q := 16) rfl rfl rfl ?_
        refine wq_getF (q := 19) f_Fl_9 rfl rfl (Nat.le_of_ble_eq_true rfl) rfl rfl rfl ?_
        refine wq_iload (i := 4) (q := 21) rfl rfl rfl ?_
        refine wq_ldc (n := 1000000) (q := 23) k_Fl_31 rfl rfl rfl ?_
        refine wq_iast (q := 24) rfl (Or.inl ⟨rfl, Nat.le_of_ble_eq_true rfl⟩) rfl rfl (by first | omega | (simp [hup]; omega)) (by first | omega | (simp [hup]; omega)) ?_
        refine wq_iinc (i := 4) (n := 1) (q := 27) rfl rfl rfl (Nat.le_of_ble_eq_true rfl) rfl (by first | omega | (simp [hup]; omega)) (by first | omega | (simp [hup]; omega)) ?_
        refine wq_goto (tgt := 3) rfl rfl ?_
        refine ih _ ?_ (s + 1) _ _ rfl (by omega) (by omega) (hf.up (by decide)) (fun x x0 x1 => ?_)
        · omega
        · by_cases ex : x = s
          · subst ex; rw [hup_s]
          · rw [hup_j ex]; exact hx x x0 (by omega)
set_option maxRecDepth 100000 in
theorem Fl_spread2_ok (F SO CA : Nat) (hF : isF F SO CA) (N : mN) (a t : Int) (h : mH) (r : mR) (hw : netW h r N) (ha : 0 ≤ a ∧ a < nS N) : Meets true (rm 4) m_Fl_spread [vR F, vR 31, vI a, vI t] h r (spQ2 SO CA N a t h r) := by
  have hS := hw.2.1.2.1
  refine ⟨ok_Fl_spread, Nat.le_of_ble_eq_true rfl, ?_⟩
  refine wq_iconst (n := 0) (q := 1) rfl rfl rfl ?_
  refine wq_istore (i := 4) (q := 3) rfl rfl (Nat.le_of_ble_eq_true rfl) rfl ?_
  exact Fl_spreadA _ _ _ hF N a t h r hw ha _ 0 h _ rfl (by omega) (by omega) fr.rf (fun x x0 x1 => by omega)
theorem Fl_spread_ok (F SO CA : Nat) (hF : isF F SO CA) (N : mN) (a t : Int) (h : mH) (r : mR) (hw : netW h r N) (ha : 0 ≤ a ∧ a < nS N) : Meets true (rm 4) m_Fl_spread [vR F, vR 31, vI a, vI t] h r (spQ SO CA N a t h r) :=
  (Fl_spread2_ok F SO CA hF N a t h r hw ha).mono fun _ _ _ z => ⟨z.1, z.2.1, z.2.2.1, z.2.2.2.1⟩

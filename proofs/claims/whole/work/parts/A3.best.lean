/-! LinkTimesModel: laysGoal, firstOf, best, begins -/
theorem goal_of {N : mN} {b : Int} {o : mF} {m : Int} (hS : Sr N o m (nN N)) (hn : nN N ≤ 120) {h : mH} (e1 : h 77 = o) (e2 : h 64 28 = m) (hA : lgI N b o h m) : goal N b h := by
  have key : ∀ d, dp N d → rn N d = 1 → LabAt N b 9999 (h 73) (h 74) (h 75) (h 76) d ∧ lb h d 120 := fun d hd hr => by
    obtain ⟨i, i0, i1, rfl⟩ := hS.2.2.2 d hd.1 hd.2 hr
    have hm := hS.1
    have := hA i i0 i1
    refine ⟨this.1, ?_⟩
    have z := this.2
    unfold lb at z ⊢
    omega
  exact ⟨fun d hd hr => (key d hd hr).1, fun d hd hr => (key d hd hr).2, by rw [e1, e2]; exact hS⟩
set_option maxRecDepth 100000 in
set_option maxHeartbeats 2000000 in
theorem Mo_goalL (N : mN) (b : Int) (h : mH) (r : mR) (hM : isM h N) (o : mF) (m : Int) (hS : Sr N o m (nN N)) : ∀ (M : Nat) (i : Int) (h1 : mH) (x3 x4 x5 : Option mV), (m - i).toNat = M → 0 ≤ i → i ≤ m → f64 [28] lgC h h1 → h1 77 = o → h1 64 28 = m → lgI N b o h1 i → (match x3 with | some (.inr (.inl _)) => false | _ => true) = true → (match x4 with | some (.inr (.inl _)) => false | _ => true) = true → WP (true, rm 6) m_Mo_laysGoal (rt m_Mo_laysGoal (rm 6) (fun rv h2 r2 => rv = none ∧ r2 = r ∧ f64 [28] lgC h h2 ∧ goal N b h2)) 6 [some (vR 64), some (vI b), some (vI i), x3, x4, x5] [] h1 r (0, 0) := by
  intro M
  induction M using Nat.strongRecOn with
  | ind M ih =>
    intro i h1 x3 x4 x5 hN i0 i1 hf e77 e28 hA p3 p4
    have hV := hM.1
    have hn := hV.1
    have hm := hS.1
    have hM1 := isM_f hM hf.1 (by decide)
    have e77' : h1 77 i = o i := by rw [e77]
    have ho : i < m → (0 ≤ o i ∧ o i < nN N) ∧ rn N (o i) = 1 := fun z => hS.2.1 i i0 z
    refine wq_iload_n (kk := 2) (q := 7) rfl rfl rfl ?_
    refine wq_aload_n (kk := 0) (q := 8) rfl rfl rfl ?_
    refine wq_getI (kz := 28) (q := 11) rfl f_Mo_275 rfl rfl (Or.inl ⟨rfl, Nat.le_of_ble_eq_true rfl⟩) rfl rfl ?_
    refine wq_icmp_ge (tgt := 123) (q := 14) rfl rfl rfl (fun c11 => ?_) (fun c11 => ?_)
    · skip
      have ei : i = m := by omega
      subst ei
      exact wq_vret rfl rfl (Nat.le_refl _) (Nat.le_refl _) ⟨rfl, rfl, hf, goal_of hS hn.2 e77 e28 hA⟩
    · skip
      refine wq_aload_n (kk := 0) (q := 15) rfl rfl rfl ?_
      refine wq_getF (q := 18) f_Mo_51 rfl rfl (Nat.le_of_ble_eq_true rfl) rfl rfl rfl ?_
      refine wq_iload_n (kk := 2) (q := 19) rfl rfl rfl ?_
      refine wq_iald (q := 20) rfl (Or.inl ⟨rfl, Nat.le_of_ble_eq_true rfl⟩) rfl rfl (by first | omega | (have := (ho (by omega)).1; omega)) (by first | omega | (have := (ho (by omega)).1; omega)) ?_
      rw [e77']
      have hoi := ho (by omega)
      have z := hM1.2.2.2.1 (o i) hoi.1
      have v := hV.2.2.1 (o i) hoi.1
      refine wq_istore_n (kk := 3) (q := 21) rfl rfl (Nat.le_of_ble_eq_true rfl) rfl ?_
      refine wq_aload_n (kk := 0) (q := 22) rfl rfl rfl ?_
      refine wq_getF (q := 25) f_Mo_17 rfl rfl (Nat.le_of_ble_eq_true rfl) rfl rfl rfl ?_
      refine wq_iload_n (kk := 3) (q := 26) rfl rfl rfl ?_
      refine wq_iconst (n := 2) (q := 27) rfl rfl rfl ?_
      refine wq_callS (q := 30) (m' := m_Mo_at) (R' := rm 1) (As := [_, _]) rfl rfl l_Mo_209 sm_Mo_at rfl (Nat.le_of_ble_eq_true rfl) (Nat.le_of_ble_eq_true rfl) (Nat.le_refl _) (Nat.le_refl _) (Nat.le_of_ble_eq_true rfl) (Mo_at_ok (o i) 2 h1 r (by omega) (by omega)) rfl ?_
      rintro rv h1 r ⟨rfl, rfl, rfl⟩ -
      refine wq_iald (q := 31) rfl (Or.inl ⟨rfl, Nat.le_of_ble_eq_true rfl⟩) rfl rfl (by first | omega | (have := (ho (by omega)).1; omega)) (by first | omega | (have := (ho (by omega)).1; omega)) ?_
      refine wq_iload_n (kk := 1) (q := 32) rfl rfl rfl ?_
      refine wq_icmp_ne (tgt := 39) (q := 35) rfl rfl rfl (fun c32 => ?_) (fun c32 => ?_)
      · skip
        refine wq_iconst (n := 0) (q := 40) rfl rfl rfl ?_
        refine wq_istore (i := 4) (q := 42) rfl rfl (Nat.le_of_ble_eq_true rfl) rfl ?_
        refine wq_aload_n (kk := 0) (q := 43) rfl rfl rfl ?_
        refine wq_getF (q := 46) f_Mo_39 rfl rfl (Nat.le_of_ble_eq_true rfl) rfl rfl rfl ?_
        refine wq_iload_n (kk := 3) (q := 47) rfl rfl rfl ?_
        refine wq_iload (i := 4) (q := 49) rfl rfl rfl ?_
        refine wq_if_eq (tgt := 60) (q := 52) rfl rfl rfl (fun c49 => ?_) (fun c49 => ?_)
        · skip
          refine wq_sipush (n := 9999) (q := 63) rfl rfl rfl ?_
          refine wq_iast (q := 64) rfl (Or.inl ⟨rfl, Nat.le_of_ble_eq_true rfl⟩) rfl rfl (by first | omega | (have := (ho (by omega)).1; omega)) (by first | omega | (have := (ho (by omega)).1; omega)) ?_
          refine wq_aload_n (kk := 0) (q := 65) rfl rfl rfl ?_
          refine wq_getF (q := 68) f_Mo_42 rfl rfl (Nat.le_of_ble_eq_true rfl) rfl rfl rfl ?_
          refine wq_iload_n (kk := 3) (q := 69) rfl rfl rfl ?_
          refine wq_iconst (n := 0) (q := 70) rfl rfl rfl ?_
          refine wq_iast (q := 71) rfl (Or.inl ⟨rfl, Nat.le_of_ble_eq_true rfl⟩) rfl rfl (by first | omega | (have := (ho (by omega)).1; omega)) (by first | omega | (have := (ho (by omega)).1; omega)) ?_
          refine wq_aload_n (kk := 0) (q := 72) rfl rfl rfl ?_
          refine wq_getF (q := 75) f_Mo_45 rfl rfl (Nat.le_of_ble_eq_true rfl) rfl rfl rfl ?_
          refine wq_iload_n (kk := 3) (q := 76) rfl rfl rfl ?_
          refine wq_iconst (n := 1) (q := 77) rfl rfl rfl ?_
          refine wq_iast (q := 78) rfl (Or.inl ⟨rfl, Nat.le_of_ble_eq_true rfl⟩) rfl rfl (by first | omega | (have := (ho (by omega)).1; omega)) (by first | omega | (have := (ho (by omega)).1; omega)) ?_
          refine wq_aload_n (kk := 0) (q := 79) rfl rfl rfl ?_
          refine wq_getF (q := 82) f_Mo_48 rfl rfl (Nat.le_of_ble_eq_true rfl) rfl rfl rfl ?_
          refine wq_iload_n (kk := 3) (q := 83) rfl rfl rfl ?_
          refine wq_iconst (n := -1) (q := 84) rfl rfl rfl ?_
          refine wq_iast (q := 85) rfl (Or.inl ⟨rfl, Nat.le_of_ble_eq_true rfl⟩) rfl rfl (by first | omega | (have := (ho (by omega)).1; omega)) (by first | omega | (have := (ho (by omega)).1; omega)) ?_
          refine wq_iconst (n := 0) (q := 86) rfl rfl rfl ?_
          refine wq_istore (i := 5) (q := 88) rfl rfl (Nat.le_of_ble_eq_true rfl) rfl ?_
          have hs1 : ∀ v, sl h1 (hup (hup (hup (hup h1 73 (o i) v) 74 (o i) 0) 75 (o i) 1) 76 (o i) (-1)) (o i) := fun v => (((sl.rf.up (by decide)).up (by decide)).up (by decide)).up (by decide)
          have old : ∀ j, 0 ≤ j → j < i → o j ≠ o i := fun j a c => (hS.2.2.1 j i a c (by omega)).2
          have fin : ∀ (h2 : mH) (k w : Int), sl h1 h2 (o i) → LabAt N b 9999 (h2 73) (h2 74) (h2 75) (h2 76) (o i) → WP (true, rm 6) m_Mo_laysGoal (rt m_Mo_laysGoal (rm 6) (fun rv h2 r2 => rv = none ∧ r2 = r ∧ f64 [28] lgC h h2 ∧ goal N b h2)) 117 [some (vR 64), some (vI b), some (vI i), some (vI (o i)), some (vI w), some (vI k)] [] h2 r (0, 0) := fun h2 k w hs hL => by
            refine wq_iinc (i := 2) (n := 1) (q := 120) rfl rfl rfl (Nat.le_of_ble_eq_true rfl) rfl (by omega) (by omega) ?_
            refine wq_goto (tgt := 6) rfl rfl ?_
            refine ih _ (by omega) (i + 1) h2 _ _ _ rfl (by omega) (by omega) (hf.tr (S' := []) (C' := laC) ⟨hs.1, fun k _ => hs.1.at 64 k (by decide)⟩ (by decide) (by decide)) (by rw [hs.1 77 (by decide)]; exact e77) (by rw [hs.1.at 64 28 (by decide)]; exact e28) (hA.step hV hS i0 (by omega) hs hL) rfl rfl
          first
          | (exfalso; omega)
          | (have hb : dst N (o i) = b := by omega
             refine wq_iload (i := 5) (q := 90) rfl rfl rfl ?_
             refine wq_iload_n (kk := 2) (q := 91) rfl rfl rfl ?_
             refine wq_icmp_ge (tgt := 117) (q := 94) rfl rfl rfl (fun c91 => ?_) (fun c91 => ?_)
             · refine fin _ _ _ (hs1 _) ⟨fun _ => ?_, fun y => absurd hb y⟩
               simp [hup]
             · refine wq_iload (i := 4) (q := 96) rfl rfl rfl ?_
               refine wq_if_ne (tgt := 117) (q := 99) rfl rfl rfl (fun _ => ?_) (fun c => absurd c (by decide))
               refine fin _ _ _ (hs1 _) ⟨fun _ => ?_, fun y => absurd hb y⟩
               simp [hup])
          | (have hb : dst N (o i) ≠ b := by omega
             refine Mo_goalI N b i _ _ r (isM_f hM1 (hs1 9999).1 (by decide)) o m hS i0 (by omega) (by rw [(hs1 9999).1 77 (by decide)]; exact e77) hb (fun j j0 j1 => ?_) (fun h2 k hs hL => fin h2 k 0 ⟨(hs1 9999).1.trans hs.1 (fun _ y => y), fun a x hx => (hs.2 a x hx).trans ((hs1 9999).2 a x hx)⟩ hL) _ 0 _ rfl (by omega) i0 sl.rf (Or.inl ⟨?_, ?_, ?_⟩) ?_
             · have lj := (hA j j0 j1).2
               unfold lb at lj ⊢
               rw [(hs1 9999).2 73 _ (old j j0 j1), (hs1 9999).2 74 _ (old j j0 j1), (hs1 9999).2 75 _ (old j j0 j1)]
               omega
             · rintro f ⟨q, q0, q1, -⟩
               omega
             · simp [hup]
             · simp [hup]
             · simp [hup])
        · skip
          refine wq_aload_n (kk := 0) (q := 53) rfl rfl rfl ?_
          refine wq_iload_n (kk := 3) (q := 54) rfl rfl rfl ?_
          refine wq_callV (q := 57) (m' := m_Mo_arrivesAt) (R' := rm 3) (As := [_]) rfl rfl l_Mo_272 vm_Mo_arrivesAt rfl rfl rfl (Or.inl ⟨rfl, Nat.le_of_ble_eq_true rfl⟩) (Nat.le_of_ble_eq_true rfl) (Nat.le_of_ble_eq_true rfl) (Nat.le_refl _) (Nat.le_refl _) (Nat.le_of_ble_eq_true rfl) (Mo_arrivesAt_ok N (o i) h1 r hM1 hoi.1) rfl ?_
          rintro rv h1 r ⟨rfl, rfl, rfl⟩ -
          refine wq_goto (tgt := 63) rfl rfl ?_
          refine wq_iast (q := 64) rfl (Or.inl ⟨rfl, Nat.le_of_ble_eq_true rfl⟩) rfl rfl (by first | omega | (have := (ho (by omega)).1; omega)) (by first | omega | (have := (ho (by omega)).1; omega)) ?_
          refine wq_aload_n (kk := 0) (q := 65) rfl rfl rfl ?_
          refine wq_getF (q := 68) f_Mo_42 rfl rfl (Nat.le_of_ble_eq_true rfl) rfl rfl rfl ?_
          refine wq_iload_n (kk := 3) (q := 69) rfl rfl rfl ?_
          refine wq_iconst (n := 0) (q := 70) rfl rfl rfl ?_
          refine wq_iast (q := 71) rfl (Or.inl ⟨rfl, Nat.le_of_ble_eq_true rfl⟩) rfl rfl (by first | omega | (have := (ho (by omega)).1; omega)) (by first | omega | (have := (ho (by omega)).1; omega)) ?_
          refine wq_aload_n (kk := 0) (q := 72) rfl rfl rfl ?_
          refine wq_getF (q := 75) f_Mo_45 rfl rfl (Nat.le_of_ble_eq_true rfl) rfl rfl rfl ?_
          refine wq_iload_n (kk := 3) (q := 76) rfl rfl rfl ?_
          refine wq_iconst (n := 1) (q := 77) rfl rfl rfl ?_
          refine wq_iast (q := 78) rfl (Or.inl ⟨rfl, Nat.le_of_ble_eq_true rfl⟩) rfl rfl (by first | omega | (have := (ho (by omega)).1; omega)) (by first | omega | (have := (ho (by omega)).1; omega)) ?_
          refine wq_aload_n (kk := 0) (q := 79) rfl rfl rfl ?_
          refine wq_getF (q := 82) f_Mo_48 rfl rfl (Nat.le_of_ble_eq_true rfl) rfl rfl rfl ?_
          refine wq_iload_n (kk := 3) (q := 83) rfl rfl rfl ?_
          refine wq_iconst (n := -1) (q := 84) rfl rfl rfl ?_
          refine wq_iast (q := 85) rfl (Or.inl ⟨rfl, Nat.le_of_ble_eq_true rfl⟩) rfl rfl (by first | omega | (have := (ho (by omega)).1; omega)) (by first | omega | (have := (ho (by omega)).1; omega)) ?_
          refine wq_iconst (n := 0) (q := 86) rfl rfl rfl ?_
          refine wq_istore (i := 5) (q := 88) rfl rfl (Nat.le_of_ble_eq_true rfl) rfl ?_
          have hs1 : ∀ v, sl h1 (hup (hup (hup (hup h1 73 (o i) v) 74 (o i) 0) 75 (o i) 1) 76 (o i) (-1)) (o i) := fun v => (((sl.rf.up (by decide)).up (by decide)).up (by decide)).up (by decide)
          have old : ∀ j, 0 ≤ j → j < i → o j ≠ o i := fun j a c => (hS.2.2.1 j i a c (by omega)).2
          have fin : ∀ (h2 : mH) (k w : Int), sl h1 h2 (o i) → LabAt N b 9999 (h2 73) (h2 74) (h2 75) (h2 76) (o i) → WP (true, rm 6) m_Mo_laysGoal (rt m_Mo_laysGoal (rm 6) (fun rv h2 r2 => rv = none ∧ r2 = r ∧ f64 [28] lgC h h2 ∧ goal N b h2)) 117 [some (vR 64), some (vI b), some (vI i), some (vI (o i)), some (vI w), some (vI k)] [] h2 r (0, 0) := fun h2 k w hs hL => by
            refine wq_iinc (i := 2) (n := 1) (q := 120) rfl rfl rfl (Nat.le_of_ble_eq_true rfl) rfl (by omega) (by omega) ?_
            refine wq_goto (tgt := 6) rfl rfl ?_
            refine ih _ (by omega) (i + 1) h2 _ _ _ rfl (by omega) (by omega) (hf.tr (S' := []) (C' := laC) ⟨hs.1, fun k _ => hs.1.at 64 k (by decide)⟩ (by decide) (by decide)) (by rw [hs.1 77 (by decide)]; exact e77) (by rw [hs.1.at 64 28 (by decide)]; exact e28) (hA.step hV hS i0 (by omega) hs hL) rfl rfl
          first
          | (exfalso; omega)
          | (have hb : dst N (o i) = b := by omega
             refine wq_iload (i := 5) (q := 90) rfl rfl rfl ?_
             refine wq_iload_n (kk := 2) (q := 91) rfl rfl rfl ?_
             refine wq_icmp_ge (tgt := 117) (q := 94) rfl rfl rfl (fun c91 => ?_) (fun c91 => ?_)
             · refine fin _ _ _ (hs1 _) ⟨fun _ => ?_, fun y => absurd hb y⟩
               simp [hup]
             · refine wq_iload (i := 4) (q := 96) rfl rfl rfl ?_
               refine wq_if_ne (tgt := 117) (q := 99) rfl rfl rfl (fun _ => ?_) (fun c => absurd c (by decide))
               refine fin _ _ _ (hs1 _) ⟨fun _ => ?_, fun y => absurd hb y⟩
               simp [hup])
          | (have hb : dst N (o i) ≠ b := by omega
             refine Mo_goalI N b i _ _ r (isM_f hM1 (hs1 9999).1 (by decide)) o m hS i0 (by omega) (by rw [(hs1 9999).1 77 (by decide)]; exact e77) hb (fun j j0 j1 => ?_) (fun h2 k hs hL => fin h2 k 0 ⟨(hs1 9999).1.trans hs.1 (fun _ y => y), fun a x hx => (hs.2 a x hx).trans ((hs1 9999).2 a x hx)⟩ hL) _ 0 _ rfl (by omega) i0 sl.rf (Or.inl ⟨?_, ?_, ?_⟩) ?_
             · have lj := (hA j j0 j1).2
               unfold lb at lj ⊢
               rw [(hs1 9999).2 73 _ (old j j0 j1), (hs1 9999).2 74 _ (old j j0 j1), (hs1 9999).2 75 _ (old j j0 j1)]
               omega
             · rintro f ⟨q, q0, q1, -⟩
               omega
             · simp [hup]
             · simp [hup]
             · simp [hup])
      · skip
        refine wq_iconst (n := 1) (q := 36) rfl rfl rfl ?_
        refine wq_goto (tgt := 40) rfl rfl ?_
        refine wq_istore (i := 4) (q := 42) rfl rfl (Nat.le_of_ble_eq_true rfl) rfl ?_
        refine wq_aload_n (kk := 0) (q := 43) rfl rfl rfl ?_
        refine wq_getF (q := 46) f_Mo_39 rfl rfl (Nat.le_of_ble_eq_true rfl) rfl rfl rfl ?_
        refine wq_iload_n (kk := 3) (q := 47) rfl rfl rfl ?_
        refine wq_iload (i := 4) (q := 49) rfl rfl rfl ?_
        refine wq_if_eq (tgt := 60) (q := 52) rfl rfl rfl (fun c49 => ?_) (fun c49 => ?_)
        · skip
          refine wq_sipush (n := 9999) (q := 63) rfl rfl rfl ?_
          refine wq_iast (q := 64) rfl (Or.inl ⟨rfl, Nat.le_of_ble_eq_true rfl⟩) rfl rfl (by first | omega | (have := (ho (by omega)).1; omega)) (by first | omega | (have := (ho (by omega)).1; omega)) ?_
          refine wq_aload_n (kk := 0) (q := 65) rfl rfl rfl ?_
          refine wq_getF (q := 68) f_Mo_42 rfl rfl (Nat.le_of_ble_eq_true rfl) rfl rfl rfl ?_
          refine wq_iload_n (kk := 3) (q := 69) rfl rfl rfl ?_
          refine wq_iconst (n := 0) (q := 70) rfl rfl rfl ?_
          refine wq_iast (q := 71) rfl (Or.inl ⟨rfl, Nat.le_of_ble_eq_true rfl⟩) rfl rfl (by first | omega | (have := (ho (by omega)).1; omega)) (by first | omega | (have := (ho (by omega)).1; omega)) ?_
          refine wq_aload_n (kk := 0) (q := 72) rfl rfl rfl ?_
          refine wq_getF (q := 75) f_Mo_45 rfl rfl (Nat.le_of_ble_eq_true rfl) rfl rfl rfl ?_
          refine wq_iload_n (kk := 3) (q := 76) rfl rfl rfl ?_
          refine wq_iconst (n := 1) (q := 77) rfl rfl rfl ?_
          refine wq_iast (q := 78) rfl (Or.inl ⟨rfl, Nat.le_of_ble_eq_true rfl⟩) rfl rfl (by first | omega | (have := (ho (by omega)).1; omega)) (by first | omega | (have := (ho (by omega)).1; omega)) ?_
          refine wq_aload_n (kk := 0) (q := 79) rfl rfl rfl ?_
          refine wq_getF (q := 82) f_Mo_48 rfl rfl (Nat.le_of_ble_eq_true rfl) rfl rfl rfl ?_
          refine wq_iload_n (kk := 3) (q := 83) rfl rfl rfl ?_
          refine wq_iconst (n := -1) (q := 84) rfl rfl rfl ?_
          refine wq_iast (q := 85) rfl (Or.inl ⟨rfl, Nat.le_of_ble_eq_true rfl⟩) rfl rfl (by first | omega | (have := (ho (by omega)).1; omega)) (by first | omega | (have := (ho (by omega)).1; omega)) ?_
          refine wq_iconst (n := 0) (q := 86) rfl rfl rfl ?_
          refine wq_istore (i := 5) (q := 88) rfl rfl (Nat.le_of_ble_eq_true rfl) rfl ?_
          have hs1 : ∀ v, sl h1 (hup (hup (hup (hup h1 73 (o i) v) 74 (o i) 0) 75 (o i) 1) 76 (o i) (-1)) (o i) := fun v => (((sl.rf.up (by decide)).up (by decide)).up (by decide)).up (by decide)
          have old : ∀ j, 0 ≤ j → j < i → o j ≠ o i := fun j a c => (hS.2.2.1 j i a c (by omega)).2
          have fin : ∀ (h2 : mH) (k w : Int), sl h1 h2 (o i) → LabAt N b 9999 (h2 73) (h2 74) (h2 75) (h2 76) (o i) → WP (true, rm 6) m_Mo_laysGoal (rt m_Mo_laysGoal (rm 6) (fun rv h2 r2 => rv = none ∧ r2 = r ∧ f64 [28] lgC h h2 ∧ goal N b h2)) 117 [some (vR 64), some (vI b), some (vI i), some (vI (o i)), some (vI w), some (vI k)] [] h2 r (0, 0) := fun h2 k w hs hL => by
            refine wq_iinc (i := 2) (n := 1) (q := 120) rfl rfl rfl (Nat.le_of_ble_eq_true rfl) rfl (by omega) (by omega) ?_
            refine wq_goto (tgt := 6) rfl rfl ?_
            refine ih _ (by omega) (i + 1) h2 _ _ _ rfl (by omega) (by omega) (hf.tr (S' := []) (C' := laC) ⟨hs.1, fun k _ => hs.1.at 64 k (by decide)⟩ (by decide) (by decide)) (by rw [hs.1 77 (by decide)]; exact e77) (by rw [hs.1.at 64 28 (by decide)]; exact e28) (hA.step hV hS i0 (by omega) hs hL) rfl rfl
          first
          | (exfalso; omega)
          | (have hb : dst N (o i) = b := by omega
             refine wq_iload (i := 5) (q := 90) rfl rfl rfl ?_
             refine wq_iload_n (kk := 2) (q := 91) rfl rfl rfl ?_
             refine wq_icmp_ge (tgt := 117) (q := 94) rfl rfl rfl (fun c91 => ?_) (fun c91 => ?_)
             · refine fin _ _ _ (hs1 _) ⟨fun _ => ?_, fun y => absurd hb y⟩
               simp [hup]
             · refine wq_iload (i := 4) (q := 96) rfl rfl rfl ?_
               refine wq_if_ne (tgt := 117) (q := 99) rfl rfl rfl (fun _ => ?_) (fun c => absurd c (by decide))
               refine fin _ _ _ (hs1 _) ⟨fun _ => ?_, fun y => absurd hb y⟩
               simp [hup])
          | (have hb : dst N (o i) ≠ b := by omega
             refine Mo_goalI N b i _ _ r (isM_f hM1 (hs1 9999).1 (by decide)) o m hS i0 (by omega) (by rw [(hs1 9999).1 77 (by decide)]; exact e77) hb (fun j j0 j1 => ?_) (fun h2 k hs hL => fin h2 k 0 ⟨(hs1 9999).1.trans hs.1 (fun _ y => y), fun a x hx => (hs.2 a x hx).trans ((hs1 9999).2 a x hx)⟩ hL) _ 0 _ rfl (by omega) i0 sl.rf (Or.inl ⟨?_, ?_, ?_⟩) ?_
             · have lj := (hA j j0 j1).2
               unfold lb at lj ⊢
               rw [(hs1 9999).2 73 _ (old j j0 j1), (hs1 9999).2 74 _ (old j j0 j1), (hs1 9999).2 75 _ (old j j0 j1)]
               omega
             · rintro f ⟨q, q0, q1, -⟩
               omega
             · simp [hup]
             · simp [hup]
             · simp [hup])
        · skip
          refine wq_aload_n (kk := 0) (q := 53) rfl rfl rfl ?_
          refine wq_iload_n (kk := 3) (q := 54) rfl rfl rfl ?_
          refine wq_callV (q := 57) (m' := m_Mo_arrivesAt) (R' := rm 3) (As := [_]) rfl rfl l_Mo_272 vm_Mo_arrivesAt rfl rfl rfl (Or.inl ⟨rfl, Nat.le_of_ble_eq_true rfl⟩) (Nat.le_of_ble_eq_true rfl) (Nat.le_of_ble_eq_true rfl) (Nat.le_refl _) (Nat.le_refl _) (Nat.le_of_ble_eq_true rfl) (Mo_arrivesAt_ok N (o i) h1 r hM1 hoi.1) rfl ?_
          rintro rv h1 r ⟨rfl, rfl, rfl⟩ -
          refine wq_goto (tgt := 63) rfl rfl ?_
          refine wq_iast (q := 64) rfl (Or.inl ⟨rfl, Nat.le_of_ble_eq_true rfl⟩) rfl rfl (by first | omega | (have := (ho (by omega)).1; omega)) (by first | omega | (have := (ho (by omega)).1; omega)) ?_
          refine wq_aload_n (kk := 0) (q := 65) rfl rfl rfl ?_
          refine wq_getF (q := 68) f_Mo_42 rfl rfl (Nat.le_of_ble_eq_true rfl) rfl rfl rfl ?_
          refine wq_iload_n (kk := 3) (q := 69) rfl rfl rfl ?_
          refine wq_iconst (n := 0) (q := 70) rfl rfl rfl ?_
          refine wq_iast (q := 71) rfl (Or.inl ⟨rfl, Nat.le_of_ble_eq_true rfl⟩) rfl rfl (by first | omega | (have := (ho (by omega)).1; omega)) (by first | omega | (have := (ho (by omega)).1; omega)) ?_
          refine wq_aload_n (kk := 0) (q := 72) rfl rfl rfl ?_
          refine wq_getF (q := 75) f_Mo_45 rfl rfl (Nat.le_of_ble_eq_true rfl) rfl rfl rfl ?_
          refine wq_iload_n (kk := 3) (q := 76) rfl rfl rfl ?_
          refine wq_iconst (n := 1) (q := 77) rfl rfl rfl ?_
          refine wq_iast (q := 78) rfl (Or.inl ⟨rfl, Nat.le_of_ble_eq_true rfl⟩) rfl rfl (by first | omega | (have := (ho (by omega)).1; omega)) (by first | omega | (have := (ho (by omega)).1; omega)) ?_
          refine wq_aload_n (kk := 0) (q := 79) rfl rfl rfl ?_
          refine wq_getF (q := 82) f_Mo_48 rfl rfl (Nat.le_of_ble_eq_true rfl) rfl rfl rfl ?_
          refine wq_iload_n (kk := 3) (q := 83) rfl rfl rfl ?_
          refine wq_iconst (n := -1) (q := 84) rfl rfl rfl ?_
          refine wq_iast (q := 85) rfl (Or.inl ⟨rfl, Nat.le_of_ble_eq_true rfl⟩) rfl rfl (by first | omega | (have := (ho (by omega)).1; omega)) (by first | omega | (have := (ho (by omega)).1; omega)) ?_
          refine wq_iconst (n := 0) (q := 86) rfl rfl rfl ?_
          refine wq_istore (i := 5) (q := 88) rfl rfl (Nat.le_of_ble_eq_true rfl) rfl ?_
          have hs1 : ∀ v, sl h1 (hup (hup (hup (hup h1 73 (o i) v) 74 (o i) 0) 75 (o i) 1) 76 (o i) (-1)) (o i) := fun v => (((sl.rf.up (by decide)).up (by decide)).up (by decide)).up (by decide)
          have old : ∀ j, 0 ≤ j → j < i → o j ≠ o i := fun j a c => (hS.2.2.1 j i a c (by omega)).2
          have fin : ∀ (h2 : mH) (k w : Int), sl h1 h2 (o i) → LabAt N b 9999 (h2 73) (h2 74) (h2 75) (h2 76) (o i) → WP (true, rm 6) m_Mo_laysGoal (rt m_Mo_laysGoal (rm 6) (fun rv h2 r2 => rv = none ∧ r2 = r ∧ f64 [28] lgC h h2 ∧ goal N b h2)) 117 [some (vR 64), some (vI b), some (vI i), some (vI (o i)), some (vI w), some (vI k)] [] h2 r (0, 0) := fun h2 k w hs hL => by
            refine wq_iinc (i := 2) (n := 1) (q := 120) rfl rfl rfl (Nat.le_of_ble_eq_true rfl) rfl (by omega) (by omega) ?_
            refine wq_goto (tgt := 6) rfl rfl ?_
            refine ih _ (by omega) (i + 1) h2 _ _ _ rfl (by omega) (by omega) (hf.tr (S' := []) (C' := laC) ⟨hs.1, fun k _ => hs.1.at 64 k (by decide)⟩ (by decide) (by decide)) (by rw [hs.1 77 (by decide)]; exact e77) (by rw [hs.1.at 64 28 (by decide)]; exact e28) (hA.step hV hS i0 (by omega) hs hL) rfl rfl
          first
          | (exfalso; omega)
          | (have hb : dst N (o i) = b := by omega
             refine wq_iload (i := 5) (q := 90) rfl rfl rfl ?_
             refine wq_iload_n (kk := 2) (q := 91) rfl rfl rfl ?_
             refine wq_icmp_ge (tgt := 117) (q := 94) rfl rfl rfl (fun c91 => ?_) (fun c91 => ?_)
             · refine fin _ _ _ (hs1 _) ⟨fun _ => ?_, fun y => absurd hb y⟩
               simp [hup]
             · refine wq_iload (i := 4) (q := 96) rfl rfl rfl ?_
               refine wq_if_ne (tgt := 117) (q := 99) rfl rfl rfl (fun _ => ?_) (fun c => absurd c (by decide))
               refine fin _ _ _ (hs1 _) ⟨fun _ => ?_, fun y => absurd hb y⟩
               simp [hup])
          | (have hb : dst N (o i) ≠ b := by omega
             refine Mo_goalI N b i _ _ r (isM_f hM1 (hs1 9999).1 (by decide)) o m hS i0 (by omega) (by rw [(hs1 9999).1 77 (by decide)]; exact e77) hb (fun j j0 j1 => ?_) (fun h2 k hs hL => fin h2 k 0 ⟨(hs1 9999).1.trans hs.1 (fun _ y => y), fun a x hx => (hs.2 a x hx).trans ((hs1 9999).2 a x hx)⟩ hL) _ 0 _ rfl (by omega) i0 sl.rf (Or.inl ⟨?_, ?_, ?_⟩) ?_
             · have lj := (hA j j0 j1).2
               unfold lb at lj ⊢
               rw [(hs1 9999).2 73 _ (old j j0 j1), (hs1 9999).2 74 _ (old j j0 j1), (hs1 9999).2 75 _ (old j j0 j1)]
               omega
             · rintro f ⟨q, q0, q1, -⟩
               omega
             · simp [hup]
             · simp [hup]
             · simp [hup])
set_option maxRecDepth 100000 in
theorem Mo_laysGoal_ok (N : mN) (b : Int) (h : mH) (r : mR) (hM : isM h N) : Meets true (rm 6) m_Mo_laysGoal [vR 64, vI b] h r (fun rv h2 r2 => rv = none ∧ r2 = r ∧ f64 [28] lgC h h2 ∧ goal N b h2) := by
  refine ⟨ok_Mo_laysGoal, Nat.le_of_ble_eq_true rfl, ?_⟩
  refine wq_aload_n (kk := 0) (q := 1) rfl rfl rfl ?_
  refine wq_callV (q := 4) (m' := m_Mo_sorts) (R' := rm 3) (As := []) rfl rfl l_Mo_278 vm_Mo_sorts rfl rfl rfl (Or.inl ⟨rfl, Nat.le_of_ble_eq_true rfl⟩) (Nat.le_of_ble_eq_true rfl) (Nat.le_of_ble_eq_true rfl) (Nat.le_refl _) (Nat.le_refl _) (Nat.le_of_ble_eq_true rfl) (Mo_sorts_ok N h r hM) rfl ?_
  rintro rv h1 r ⟨rfl, rfl, f1, hS⟩ -
  refine wq_iconst (n := 0) (q := 5) rfl rfl rfl ?_
  refine wq_istore_n (kk := 2) (q := 6) rfl rfl (Nat.le_of_ble_eq_true rfl) rfl ?_
  exact Mo_goalL N b h r hM (h1 77) (h1 64 28) hS _ 0 h1 none none none rfl (by omega) hS.1.1 (f1.mono (by decide) (by decide)) rfl rfl (fun j j0 j1 => by omega) rfl rfl
set_option maxRecDepth 100000 in
set_option maxHeartbeats 1000000 in
theorem Mo_isBetter_ok (N : mN) (d g : Int) (hne : d ≠ g) (h : mH) (r : mR) (hM : isM h N) (hd : dp N d) (hg : dp N g) (bd : lb h d 120) (bg : lb h g 120) (nd : h 73 d ≠ 9999) (ng : h 73 g ≠ 9999) : Meets true (rm 3) m_Mo_isBetter [vR 64, vI d, vI g] h r (pI (bI (kf N (h 73) (h 74) (h 75) d g)) h r) := by
  have hn := hM.1.1
  obtain ⟨d0, d1⟩ := id hd
  obtain ⟨g0, g1⟩ := id hg
  have vd := hM.1.2.2.1 d hd
  have vg := hM.1.2.2.1 g hg
  have bd' := bd.resolve_left nd
  have bg' := bg.resolve_left ng
  refine ⟨ok_Mo_isBetter, Nat.le_of_ble_eq_true rfl, ?_⟩
  refine wq_aload_n (kk := 0) (q := 1) rfl rfl rfl ?_
  refine wq_getF (q := 4) f_Mo_39 rfl rfl (Nat.le_of_ble_eq_true rfl) rfl rfl rfl ?_
  refine wq_iload_n (kk := 2) (q := 5) rfl rfl rfl ?_
  refine wq_iald (q := 6) rfl (Or.inl ⟨rfl, Nat.le_of_ble_eq_true rfl⟩) rfl rfl (by first | omega | (simp [hup]; omega)) (by first | omega | (simp [hup]; omega)) ?_
  refine wq_aload_n (kk := 0) (q := 7) rfl rfl rfl ?_
  refine wq_getF (q := 10) f_Mo_39 rfl rfl (Nat.le_of_ble_eq_true rfl) rfl rfl rfl ?_
  refine wq_iload_n (kk := 1) (q := 11) rfl rfl rfl ?_
  refine wq_iald (q := 12) rfl (Or.inl ⟨rfl, Nat.le_of_ble_eq_true rfl⟩) rfl rfl (by first | omega | (simp [hup]; omega)) (by first | omega | (simp [hup]; omega)) ?_
  refine wq_isub (q := 13) rfl rfl (by first | omega | (simp [hup]; omega)) (by first | omega | (simp [hup]; omega)) ?_
  refine wq_istore_n (kk := 3) (q := 14) rfl rfl (Nat.le_of_ble_eq_true rfl) rfl ?_
  refine wq_iload_n (kk := 3) (q := 15) rfl rfl rfl ?_
  refine wq_if_eq (tgt := 22) (q := 18) rfl rfl rfl (fun c15 => ?_) (fun c15 => ?_)
  · skip
    refine wq_aload_n (kk := 0) (q := 23) rfl rfl rfl ?_
    refine wq_getF (q := 26) f_Mo_42 rfl rfl (Nat.le_of_ble_eq_true rfl) rfl rfl rfl ?_
    refine wq_iload_n (kk := 2) (q := 27) rfl rfl rfl ?_
    refine wq_iald (q := 28) rfl (Or.inl ⟨rfl, Nat.le_of_ble_eq_true rfl⟩) rfl rfl (by first | omega | (simp [hup]; omega)) (by first | omega | (simp [hup]; omega)) ?_
    refine wq_aload_n (kk := 0) (q := 29) rfl rfl rfl ?_
    refine wq_getF (q := 32) f_Mo_42 rfl rfl (Nat.le_of_ble_eq_true rfl) rfl rfl rfl ?_
    refine wq_iload_n (kk := 1) (q := 33) rfl rfl rfl ?_
    refine wq_iald (q := 34) rfl (Or.inl ⟨rfl, Nat.le_of_ble_eq_true rfl⟩) rfl rfl (by first | omega | (simp [hup]; omega)) (by first | omega | (simp [hup]; omega)) ?_
    refine wq_isub (q := 35) rfl rfl (by first | omega | (simp [hup]; omega)) (by first | omega | (simp [hup]; omega)) ?_
    refine wq_istore_n (kk := 3) (q := 36) rfl rfl (Nat.le_of_ble_eq_true rfl) rfl ?_
    refine wq_iload_n (kk := 3) (q := 37) rfl rfl rfl ?_
    refine wq_if_eq (tgt := 44) (q := 40) rfl rfl rfl (fun c37 => ?_) (fun c37 => ?_)
    · skip
      refine wq_aload_n (kk := 0) (q := 45) rfl rfl rfl ?_
      refine wq_iload_n (kk := 1) (q := 46) rfl rfl rfl ?_
      refine wq_callV (q := 49) (m' := m_Mo_leavesAt) (R' := rm 2) (As := [_]) rfl rfl l_Mo_250 vm_Mo_leavesAt rfl rfl rfl (Or.inl ⟨rfl, Nat.le_of_ble_eq_true rfl⟩) (Nat.le_of_ble_eq_true rfl) (Nat.le_of_ble_eq_true rfl) (Nat.le_refl _) (Nat.le_refl _) (Nat.le_of_ble_eq_true rfl) (Mo_leavesAt_ok N d h r hM hd) rfl ?_
      rintro rv h r ⟨rfl, rfl, rfl⟩ -
      refine wq_aload_n (kk := 0) (q := 50) rfl rfl rfl ?_
      refine wq_iload_n (kk := 2) (q := 51) rfl rfl rfl ?_
      refine wq_callV (q := 54) (m' := m_Mo_leavesAt) (R' := rm 2) (As := [_]) rfl rfl l_Mo_250 vm_Mo_leavesAt rfl rfl rfl (Or.inl ⟨rfl, Nat.le_of_ble_eq_true rfl⟩) (Nat.le_of_ble_eq_true rfl) (Nat.le_of_ble_eq_true rfl) (Nat.le_refl _) (Nat.le_refl _) (Nat.le_of_ble_eq_true rfl) (Mo_leavesAt_ok N g h r hM hg) rfl ?_
      rintro rv h r ⟨rfl, rfl, rfl⟩ -
      refine wq_isub (q := 55) rfl rfl (by first | omega | (simp [hup]; omega)) (by first | omega | (simp [hup]; omega)) ?_
      refine wq_istore_n (kk := 3) (q := 56) rfl rfl (Nat.le_of_ble_eq_true rfl) rfl ?_
      refine wq_iload_n (kk := 3) (q := 57) rfl rfl rfl ?_
      refine wq_if_eq (tgt := 64) (q := 60) rfl rfl rfl (fun c57 => ?_) (fun c57 => ?_)
      · skip
        refine wq_aload_n (kk := 0) (q := 65) rfl rfl rfl ?_
        refine wq_getF (q := 68) f_Mo_45 rfl rfl (Nat.le_of_ble_eq_true rfl) rfl rfl rfl ?_
        refine wq_iload_n (kk := 2) (q := 69) rfl rfl rfl ?_
        refine wq_iald (q := 70) rfl (Or.inl ⟨rfl, Nat.le_of_ble_eq_true rfl⟩) rfl rfl (by first | omega | (simp [hup]; omega)) (by first | omega | (simp [hup]; omega)) ?_
        refine wq_aload_n (kk := 0) (q := 71) rfl rfl rfl ?_
        refine wq_getF (q := 74) f_Mo_45 rfl rfl (Nat.le_of_ble_eq_true rfl) rfl rfl rfl ?_
        refine wq_iload_n (kk := 1) (q := 75) rfl rfl rfl ?_
        refine wq_iald (q := 76) rfl (Or.inl ⟨rfl, Nat.le_of_ble_eq_true rfl⟩) rfl rfl (by first | omega | (simp [hup]; omega)) (by first | omega | (simp [hup]; omega)) ?_
        refine wq_isub (q := 77) rfl rfl (by first | omega | (simp [hup]; omega)) (by first | omega | (simp [hup]; omega)) ?_
        refine wq_istore_n (kk := 3) (q := 78) rfl rfl (Nat.le_of_ble_eq_true rfl) rfl ?_
        refine wq_iload_n (kk := 3) (q := 79) rfl rfl rfl ?_
        refine wq_if_eq (tgt := 94) (q := 82) rfl rfl rfl (fun c79 => ?_) (fun c79 => ?_)
        · skip
          refine wq_aload_n (kk := 0) (q := 95) rfl rfl rfl ?_
          refine wq_iload_n (kk := 1) (q := 96) rfl rfl rfl ?_
          refine wq_iload_n (kk := 2) (q := 97) rfl rfl rfl ?_
          refine wq_callV (q := 100) (m' := m_Mo_isLessRow) (R' := rm 1) (As := [_, _]) rfl rfl l_Mo_292 vm_Mo_isLessRow rfl rfl rfl (Or.inl ⟨rfl, Nat.le_of_ble_eq_true rfl⟩) (Nat.le_of_ble_eq_true rfl) (Nat.le_of_ble_eq_true rfl) (Nat.le_refl _) (Nat.le_refl _) (Nat.le_of_ble_eq_true rfl) (Mo_isLessRow_ok d g hne h r) rfl ?_
          rintro rv h r ⟨rfl, rfl, rfl⟩ -
          refine wq_zret rfl rfl (Nat.le_refl _) (Nat.le_refl _) (bI_z _) ⟨?_, rfl, rfl⟩
          rw [bI_c (P := d < g) (Q := kf N (h 73) (h 74) (h 75) d g) (by unfold kf; omega)]
        · skip
          refine wq_iload_n (kk := 3) (q := 83) rfl rfl rfl ?_
          refine wq_if_le (tgt := 90) (q := 86) rfl rfl rfl (fun c83 => ?_) (fun c83 => ?_)
          · skip
            refine wq_iconst (n := 0) (q := 91) rfl rfl rfl ?_
            refine wq_goto (tgt := 100) rfl rfl ?_
            refine wq_zret rfl rfl (Nat.le_refl _) (Nat.le_refl _) (by omega) ?_
            first | exact pC_t (by unfold kf; omega) | exact pC_f (by unfold kf; omega)
          · skip
            refine wq_iconst (n := 1) (q := 87) rfl rfl rfl ?_
            refine wq_goto (tgt := 100) rfl rfl ?_
            refine wq_zret rfl rfl (Nat.le_refl _) (Nat.le_refl _) (by omega) ?_
            first | exact pC_t (by unfold kf; omega) | exact pC_f (by unfold kf; omega)
      · skip
        refine wq_iload_n (kk := 3) (q := 61) rfl rfl rfl ?_
        refine wq_goto (tgt := 77) rfl rfl ?_
        refine wq_istore_n (kk := 3) (q := 78) rfl rfl (Nat.le_of_ble_eq_true rfl) rfl ?_
        refine wq_iload_n (kk := 3) (q := 79) rfl rfl rfl ?_
        refine wq_if_eq (tgt := 94) (q := 82) rfl rfl rfl (fun c79 => ?_) (fun c79 => ?_)
        · skip
          refine wq_aload_n (kk := 0) (q := 95) rfl rfl rfl ?_
          refine wq_iload_n (kk := 1) (q := 96) rfl rfl rfl ?_
          refine wq_iload_n (kk := 2) (q := 97) rfl rfl rfl ?_
          refine wq_callV (q := 100) (m' := m_Mo_isLessRow) (R' := rm 1) (As := [_, _]) rfl rfl l_Mo_292 vm_Mo_isLessRow rfl rfl rfl (Or.inl ⟨rfl, Nat.le_of_ble_eq_true rfl⟩) (Nat.le_of_ble_eq_true rfl) (Nat.le_of_ble_eq_true rfl) (Nat.le_refl _) (Nat.le_refl _) (Nat.le_of_ble_eq_true rfl) (Mo_isLessRow_ok d g hne h r) rfl ?_
          rintro rv h r ⟨rfl, rfl, rfl⟩ -
          refine wq_zret rfl rfl (Nat.le_refl _) (Nat.le_refl _) (bI_z _) ⟨?_, rfl, rfl⟩
          rw [bI_c (P := d < g) (Q := kf N (h 73) (h 74) (h 75) d g) (by unfold kf; omega)]
        · skip
          refine wq_iload_n (kk := 3) (q := 83) rfl rfl rfl ?_
          refine wq_if_le (tgt := 90) (q := 86) rfl rfl rfl (fun c83 => ?_) (fun c83 => ?_)
          · skip
            refine wq_iconst (n := 0) (q := 91) rfl rfl rfl ?_
            refine wq_goto (tgt := 100) rfl rfl ?_
            refine wq_zret rfl rfl (Nat.le_refl _) (Nat.le_refl _) (by omega) ?_
            first | exact pC_t (by unfold kf; omega) | exact pC_f (by unfold kf; omega)
          · skip
            refine wq_iconst (n := 1) (q := 87) rfl rfl rfl ?_
            refine wq_goto (tgt := 100) rfl rfl ?_
            refine wq_zret rfl rfl (Nat.le_refl _) (Nat.le_refl _) (by omega) ?_
            first | exact pC_t (by unfold kf; omega) | exact pC_f (by unfold kf; omega)
    · skip
      refine wq_iload_n (kk := 3) (q := 41) rfl rfl rfl ?_
      refine wq_goto (tgt := 55) rfl rfl ?_
      refine wq_istore_n (kk := 3) (q := 56) rfl rfl (Nat.le_of_ble_eq_true rfl) rfl ?_
      refine wq_iload_n (kk := 3) (q := 57) rfl rfl rfl ?_
      refine wq_if_eq (tgt := 64) (q := 60) rfl rfl rfl (fun c57 => ?_) (fun c57 => ?_)
      · skip
        refine wq_aload_n (kk := 0) (q := 65) rfl rfl rfl ?_
        refine wq_getF (q := 68) f_Mo_45 rfl rfl (Nat.le_of_ble_eq_true rfl) rfl rfl rfl ?_
        refine wq_iload_n (kk := 2) (q := 69) rfl rfl rfl ?_
        refine wq_iald (q := 70) rfl (Or.inl ⟨rfl, Nat.le_of_ble_eq_true rfl⟩) rfl rfl (by first | omega | (simp [hup]; omega)) (by first | omega | (simp [hup]; omega)) ?_
        refine wq_aload_n (kk := 0) (q := 71) rfl rfl rfl ?_
        refine wq_getF (q := 74) f_Mo_45 rfl rfl (Nat.le_of_ble_eq_true rfl) rfl rfl rfl ?_
        refine wq_iload_n (kk := 1) (q := 75) rfl rfl rfl ?_
        refine wq_iald (q := 76) rfl (Or.inl ⟨rfl, Nat.le_of_ble_eq_true rfl⟩) rfl rfl (by first | omega | (simp [hup]; omega)) (by first | omega | (simp [hup]; omega)) ?_
        refine wq_isub (q := 77) rfl rfl (by first | omega | (simp [hup]; omega)) (by first | omega | (simp [hup]; omega)) ?_
        refine wq_istore_n (kk := 3) (q := 78) rfl rfl (Nat.le_of_ble_eq_true rfl) rfl ?_
        refine wq_iload_n (kk := 3) (q := 79) rfl rfl rfl ?_
        refine wq_if_eq (tgt := 94) (q := 82) rfl rfl rfl (fun c79 => ?_) (fun c79 => ?_)
        · skip
          refine wq_aload_n (kk := 0) (q := 95) rfl rfl rfl ?_
          refine wq_iload_n (kk := 1) (q := 96) rfl rfl rfl ?_
          refine wq_iload_n (kk := 2) (q := 97) rfl rfl rfl ?_
          refine wq_callV (q := 100) (m' := m_Mo_isLessRow) (R' := rm 1) (As := [_, _]) rfl rfl l_Mo_292 vm_Mo_isLessRow rfl rfl rfl (Or.inl ⟨rfl, Nat.le_of_ble_eq_true rfl⟩) (Nat.le_of_ble_eq_true rfl) (Nat.le_of_ble_eq_true rfl) (Nat.le_refl _) (Nat.le_refl _) (Nat.le_of_ble_eq_true rfl) (Mo_isLessRow_ok d g hne h r) rfl ?_
          rintro rv h r ⟨rfl, rfl, rfl⟩ -
          refine wq_zret rfl rfl (Nat.le_refl _) (Nat.le_refl _) (bI_z _) ⟨?_, rfl, rfl⟩
          rw [bI_c (P := d < g) (Q := kf N (h 73) (h 74) (h 75) d g) (by unfold kf; omega)]
        · skip
          refine wq_iload_n (kk := 3) (q := 83) rfl rfl rfl ?_
          refine wq_if_le (tgt := 90) (q := 86) rfl rfl rfl (fun c83 => ?_) (fun c83 => ?_)
          · skip
            refine wq_iconst (n := 0) (q := 91) rfl rfl rfl ?_
            refine wq_goto (tgt := 100) rfl rfl ?_
            refine wq_zret rfl rfl (Nat.le_refl _) (Nat.le_refl _) (by omega) ?_
            first | exact pC_t (by unfold kf; omega) | exact pC_f (by unfold kf; omega)
          · skip
            refine wq_iconst (n := 1) (q := 87) rfl rfl rfl ?_
            refine wq_goto (tgt := 100) rfl rfl ?_
            refine wq_zret rfl rfl (Nat.le_refl _) (Nat.le_refl _) (by omega) ?_
            first | exact pC_t (by unfold kf; omega) | exact pC_f (by unfold kf; omega)
      · skip
        refine wq_iload_n (kk := 3) (q := 61) rfl rfl rfl ?_
        refine wq_goto (tgt := 77) rfl rfl ?_
        refine wq_istore_n (kk := 3) (q := 78) rfl rfl (Nat.le_of_ble_eq_true rfl) rfl ?_
        refine wq_iload_n (kk := 3) (q := 79) rfl rfl rfl ?_
        refine wq_if_eq (tgt := 94) (q := 82) rfl rfl rfl (fun c79 => ?_) (fun c79 => ?_)
        · skip
          refine wq_aload_n (kk := 0) (q := 95) rfl rfl rfl ?_
          refine wq_iload_n (kk := 1) (q := 96) rfl rfl rfl ?_
          refine wq_iload_n (kk := 2) (q := 97) rfl rfl rfl ?_
          refine wq_callV (q := 100) (m' := m_Mo_isLessRow) (R' := rm 1) (As := [_, _]) rfl rfl l_Mo_292 vm_Mo_isLessRow rfl rfl rfl (Or.inl ⟨rfl, Nat.le_of_ble_eq_true rfl⟩) (Nat.le_of_ble_eq_true rfl) (Nat.le_of_ble_eq_true rfl) (Nat.le_refl _) (Nat.le_refl _) (Nat.le_of_ble_eq_true rfl) (Mo_isLessRow_ok d g hne h r) rfl ?_
          rintro rv h r ⟨rfl, rfl, rfl⟩ -
          refine wq_zret rfl rfl (Nat.le_refl _) (Nat.le_refl _) (bI_z _) ⟨?_, rfl, rfl⟩
          rw [bI_c (P := d < g) (Q := kf N (h 73) (h 74) (h 75) d g) (by unfold kf; omega)]
        · skip
          refine wq_iload_n (kk := 3) (q := 83) rfl rfl rfl ?_
          refine wq_if_le (tgt := 90) (q := 86) rfl rfl rfl (fun c83 => ?_) (fun c83 => ?_)
          · skip
            refine wq_iconst (n := 0) (q := 91) rfl rfl rfl ?_
            refine wq_goto (tgt := 100) rfl rfl ?_
            refine wq_zret rfl rfl (Nat.le_refl _) (Nat.le_refl _) (by omega) ?_
            first | exact pC_t (by unfold kf; omega) | exact pC_f (by unfold kf; omega)
          · skip
            refine wq_iconst (n := 1) (q := 87) rfl rfl rfl ?_
            refine wq_goto (tgt := 100) rfl rfl ?_
            refine wq_zret rfl rfl (Nat.le_refl _) (Nat.le_refl _) (by omega) ?_
            first | exact pC_t (by unfold kf; omega) | exact pC_f (by unfold kf; omega)
  · skip
    refine wq_iload_n (kk := 3) (q := 19) rfl rfl rfl ?_
    refine wq_goto (tgt := 35) rfl rfl ?_
    refine wq_istore_n (kk := 3) (q := 36) rfl rfl (Nat.le_of_ble_eq_true rfl) rfl ?_
    refine wq_iload_n (kk := 3) (q := 37) rfl rfl rfl ?_
    refine wq_if_eq (tgt := 44) (q := 40) rfl rfl rfl (fun c37 => ?_) (fun c37 => ?_)
    · skip
      refine wq_aload_n (kk := 0) (q := 45) rfl rfl rfl ?_
      refine wq_iload_n (kk := 1) (q := 46) rfl rfl rfl ?_
      refine wq_callV (q := 49) (m' := m_Mo_leavesAt) (R' := rm 2) (As := [_]) rfl rfl l_Mo_250 vm_Mo_leavesAt rfl rfl rfl (Or.inl ⟨rfl, Nat.le_of_ble_eq_true rfl⟩) (Nat.le_of_ble_eq_true rfl) (Nat.le_of_ble_eq_true rfl) (Nat.le_refl _) (Nat.le_refl _) (Nat.le_of_ble_eq_true rfl) (Mo_leavesAt_ok N d h r hM hd) rfl ?_
      rintro rv h r ⟨rfl, rfl, rfl⟩ -
      refine wq_aload_n (kk := 0) (q := 50) rfl rfl rfl ?_
      refine wq_iload_n (kk := 2) (q := 51) rfl rfl rfl ?_
      refine wq_callV (q := 54) (m' := m_Mo_leavesAt) (R' := rm 2) (As := [_]) rfl rfl l_Mo_250 vm_Mo_leavesAt rfl rfl rfl (Or.inl ⟨rfl, Nat.le_of_ble_eq_true rfl⟩) (Nat.le_of_ble_eq_true rfl) (Nat.le_of_ble_eq_true rfl) (Nat.le_refl _) (Nat.le_refl _) (Nat.le_of_ble_eq_true rfl) (Mo_leavesAt_ok N g h r hM hg) rfl ?_
      rintro rv h r ⟨rfl, rfl, rfl⟩ -
      refine wq_isub (q := 55) rfl rfl (by first | omega | (simp [hup]; omega)) (by first | omega | (simp [hup]; omega)) ?_
      refine wq_istore_n (kk := 3) (q := 56) rfl rfl (Nat.le_of_ble_eq_true rfl) rfl ?_
      refine wq_iload_n (kk := 3) (q := 57) rfl rfl rfl ?_
      refine wq_if_eq (tgt := 64) (q := 60) rfl rfl rfl (fun c57 => ?_) (fun c57 => ?_)
      · skip
        refine wq_aload_n (kk := 0) (q := 65) rfl rfl rfl ?_
        refine wq_getF (q := 68) f_Mo_45 rfl rfl (Nat.le_of_ble_eq_true rfl) rfl rfl rfl ?_
        refine wq_iload_n (kk := 2) (q := 69) rfl rfl rfl ?_
        refine wq_iald (q := 70) rfl (Or.inl ⟨rfl, Nat.le_of_ble_eq_true rfl⟩) rfl rfl (by first | omega | (simp [hup]; omega)) (by first | omega | (simp [hup]; omega)) ?_
        refine wq_aload_n (kk := 0) (q := 71) rfl rfl rfl ?_
        refine wq_getF (q := 74) f_Mo_45 rfl rfl (Nat.le_of_ble_eq_true rfl) rfl rfl rfl ?_
        refine wq_iload_n (kk := 1) (q := 75) rfl rfl rfl ?_
        refine wq_iald (q := 76) rfl (Or.inl ⟨rfl, Nat.le_of_ble_eq_true rfl⟩) rfl rfl (by first | omega | (simp [hup]; omega)) (by first | omega | (simp [hup]; omega)) ?_
        refine wq_isub (q := 77) rfl rfl (by first | omega | (simp [hup]; omega)) (by first | omega | (simp [hup]; omega)) ?_
        refine wq_istore_n (kk := 3) (q := 78) rfl rfl (Nat.le_of_ble_eq_true rfl) rfl ?_
        refine wq_iload_n (kk := 3) (q := 79) rfl rfl rfl ?_
        refine wq_if_eq (tgt := 94) (q := 82) rfl rfl rfl (fun c79 => ?_) (fun c79 => ?_)
        · skip
          refine wq_aload_n (kk := 0) (q := 95) rfl rfl rfl ?_
          refine wq_iload_n (kk := 1) (q := 96) rfl rfl rfl ?_
          refine wq_iload_n (kk := 2) (q := 97) rfl rfl rfl ?_
          refine wq_callV (q := 100) (m' := m_Mo_isLessRow) (R' := rm 1) (As := [_, _]) rfl rfl l_Mo_292 vm_Mo_isLessRow rfl rfl rfl (Or.inl ⟨rfl, Nat.le_of_ble_eq_true rfl⟩) (Nat.le_of_ble_eq_true rfl) (Nat.le_of_ble_eq_true rfl) (Nat.le_refl _) (Nat.le_refl _) (Nat.le_of_ble_eq_true rfl) (Mo_isLessRow_ok d g hne h r) rfl ?_
          rintro rv h r ⟨rfl, rfl, rfl⟩ -
          refine wq_zret rfl rfl (Nat.le_refl _) (Nat.le_refl _) (bI_z _) ⟨?_, rfl, rfl⟩
          rw [bI_c (P := d < g) (Q := kf N (h 73) (h 74) (h 75) d g) (by unfold kf; omega)]
        · skip
          refine wq_iload_n (kk := 3) (q := 83) rfl rfl rfl ?_
          refine wq_if_le (tgt := 90) (q := 86) rfl rfl rfl (fun c83 => ?_) (fun c83 => ?_)
          · skip
            refine wq_iconst (n := 0) (q := 91) rfl rfl rfl ?_
            refine wq_goto (tgt := 100) rfl rfl ?_
            refine wq_zret rfl rfl (Nat.le_refl _) (Nat.le_refl _) (by omega) ?_
            first | exact pC_t (by unfold kf; omega) | exact pC_f (by unfold kf; omega)
          · skip
            refine wq_iconst (n := 1) (q := 87) rfl rfl rfl ?_
            refine wq_goto (tgt := 100) rfl rfl ?_
            refine wq_zret rfl rfl (Nat.le_refl _) (Nat.le_refl _) (by omega) ?_
            first | exact pC_t (by unfold kf; omega) | exact pC_f (by unfold kf; omega)
      · skip
        refine wq_iload_n (kk := 3) (q := 61) rfl rfl rfl ?_
        refine wq_goto (tgt := 77) rfl rfl ?_
        refine wq_istore_n (kk := 3) (q := 78) rfl rfl (Nat.le_of_ble_eq_true rfl) rfl ?_
        refine wq_iload_n (kk := 3) (q := 79) rfl rfl rfl ?_
        refine wq_if_eq (tgt := 94) (q := 82) rfl rfl rfl (fun c79 => ?_) (fun c79 => ?_)
        · skip
          refine wq_aload_n (kk := 0) (q := 95) rfl rfl rfl ?_
          refine wq_iload_n (kk := 1) (q := 96) rfl rfl rfl ?_
          refine wq_iload_n (kk := 2) (q := 97) rfl rfl rfl ?_
          refine wq_callV (q := 100) (m' := m_Mo_isLessRow) (R' := rm 1) (As := [_, _]) rfl rfl l_Mo_292 vm_Mo_isLessRow rfl rfl rfl (Or.inl ⟨rfl, Nat.le_of_ble_eq_true rfl⟩) (Nat.le_of_ble_eq_true rfl) (Nat.le_of_ble_eq_true rfl) (Nat.le_refl _) (Nat.le_refl _) (Nat.le_of_ble_eq_true rfl) (Mo_isLessRow_ok d g hne h r) rfl ?_
          rintro rv h r ⟨rfl, rfl, rfl⟩ -
          refine wq_zret rfl rfl (Nat.le_refl _) (Nat.le_refl _) (bI_z _) ⟨?_, rfl, rfl⟩
          rw [bI_c (P := d < g) (Q := kf N (h 73) (h 74) (h 75) d g) (by unfold kf; omega)]
        · skip
          refine wq_iload_n (kk := 3) (q := 83) rfl rfl rfl ?_
          refine wq_if_le (tgt := 90) (q := 86) rfl rfl rfl (fun c83 => ?_) (fun c83 => ?_)
          · skip
            refine wq_iconst (n := 0) (q := 91) rfl rfl rfl ?_
            refine wq_goto (tgt := 100) rfl rfl ?_
            refine wq_zret rfl rfl (Nat.le_refl _) (Nat.le_refl _) (by omega) ?_
            first | exact pC_t (by unfold kf; omega) | exact pC_f (by unfold kf; omega)
          · skip
            refine wq_iconst (n := 1) (q := 87) rfl rfl rfl ?_
            refine wq_goto (tgt := 100) rfl rfl ?_
            refine wq_zret rfl rfl (Nat.le_refl _) (Nat.le_refl _) (by omega) ?_
            first | exact pC_t (by unfold kf; omega) | exact pC_f (by unfold kf; omega)
    · skip
      refine wq_iload_n (kk := 3) (q := 41) rfl rfl rfl ?_
      refine wq_goto (tgt := 55) rfl rfl ?_
      refine wq_istore_n (kk := 3) (q := 56) rfl rfl (Nat.le_of_ble_eq_true rfl) rfl ?_
      refine wq_iload_n (kk := 3) (q := 57) rfl rfl rfl ?_
      refine wq_if_eq (tgt := 64) (q := 60) rfl rfl rfl (fun c57 => ?_) (fun c57 => ?_)
      · skip
        refine wq_aload_n (kk := 0) (q := 65) rfl rfl rfl ?_
        refine wq_getF (q := 68) f_Mo_45 rfl rfl (Nat.le_of_ble_eq_true rfl) rfl rfl rfl ?_
        refine wq_iload_n (kk := 2) (q := 69) rfl rfl rfl ?_
        refine wq_iald (q := 70) rfl (Or.inl ⟨rfl, Nat.le_of_ble_eq_true rfl⟩) rfl rfl (by first | omega | (simp [hup]; omega)) (by first | omega | (simp [hup]; omega)) ?_
        refine wq_aload_n (kk := 0) (q := 71) rfl rfl rfl ?_
        refine wq_getF (q := 74) f_Mo_45 rfl rfl (Nat.le_of_ble_eq_true rfl) rfl rfl rfl ?_
        refine wq_iload_n (kk := 1) (q := 75) rfl rfl rfl ?_
        refine wq_iald (q := 76) rfl (Or.inl ⟨rfl, Nat.le_of_ble_eq_true rfl⟩) rfl rfl (by first | omega | (simp [hup]; omega)) (by first | omega | (simp [hup]; omega)) ?_
        refine wq_isub (q := 77) rfl rfl (by first | omega | (simp [hup]; omega)) (by first | omega | (simp [hup]; omega)) ?_
        refine wq_istore_n (kk := 3) (q := 78) rfl rfl (Nat.le_of_ble_eq_true rfl) rfl ?_
        refine wq_iload_n (kk := 3) (q := 79) rfl rfl rfl ?_
        refine wq_if_eq (tgt := 94) (q := 82) rfl rfl rfl (fun c79 => ?_) (fun c79 => ?_)
        · skip
          refine wq_aload_n (kk := 0) (q := 95) rfl rfl rfl ?_
          refine wq_iload_n (kk := 1) (q := 96) rfl rfl rfl ?_
          refine wq_iload_n (kk := 2) (q := 97) rfl rfl rfl ?_
          refine wq_callV (q := 100) (m' := m_Mo_isLessRow) (R' := rm 1) (As := [_, _]) rfl rfl l_Mo_292 vm_Mo_isLessRow rfl rfl rfl (Or.inl ⟨rfl, Nat.le_of_ble_eq_true rfl⟩) (Nat.le_of_ble_eq_true rfl) (Nat.le_of_ble_eq_true rfl) (Nat.le_refl _) (Nat.le_refl _) (Nat.le_of_ble_eq_true rfl) (Mo_isLessRow_ok d g hne h r) rfl ?_
          rintro rv h r ⟨rfl, rfl, rfl⟩ -
          refine wq_zret rfl rfl (Nat.le_refl _) (Nat.le_refl _) (bI_z _) ⟨?_, rfl, rfl⟩
          rw [bI_c (P := d < g) (Q := kf N (h 73) (h 74) (h 75) d g) (by unfold kf; omega)]
        · skip
          refine wq_iload_n (kk := 3) (q := 83) rfl rfl rfl ?_
          refine wq_if_le (tgt := 90) (q := 86) rfl rfl rfl (fun c83 => ?_) (fun c83 => ?_)
          · skip
            refine wq_iconst (n := 0) (q := 91) rfl rfl rfl ?_
            refine wq_goto (tgt := 100) rfl rfl ?_
            refine wq_zret rfl rfl (Nat.le_refl _) (Nat.le_refl _) (by omega) ?_
            first | exact pC_t (by unfold kf; omega) | exact pC_f (by unfold kf; omega)
          · skip
            refine wq_iconst (n := 1) (q := 87) rfl rfl rfl ?_
            refine wq_goto (tgt := 100) rfl rfl ?_
            refine wq_zret rfl rfl (Nat.le_refl _) (Nat.le_refl _) (by omega) ?_
            first | exact pC_t (by unfold kf; omega) | exact pC_f (by unfold kf; omega)
      · skip
        refine wq_iload_n (kk := 3) (q := 61) rfl rfl rfl ?_
        refine wq_goto (tgt := 77) rfl rfl ?_
        refine wq_istore_n (kk := 3) (q := 78) rfl rfl (Nat.le_of_ble_eq_true rfl) rfl ?_
        refine wq_iload_n (kk := 3) (q := 79) rfl rfl rfl ?_
        refine wq_if_eq (tgt := 94) (q := 82) rfl rfl rfl (fun c79 => ?_) (fun c79 => ?_)
        · skip
          refine wq_aload_n (kk := 0) (q := 95) rfl rfl rfl ?_
          refine wq_iload_n (kk := 1) (q := 96) rfl rfl rfl ?_
          refine wq_iload_n (kk := 2) (q := 97) rfl rfl rfl ?_
          refine wq_callV (q := 100) (m' := m_Mo_isLessRow) (R' := rm 1) (As := [_, _]) rfl rfl l_Mo_292 vm_Mo_isLessRow rfl rfl rfl (Or.inl ⟨rfl, Nat.le_of_ble_eq_true rfl⟩) (Nat.le_of_ble_eq_true rfl) (Nat.le_of_ble_eq_true rfl) (Nat.le_refl _) (Nat.le_refl _) (Nat.le_of_ble_eq_true rfl) (Mo_isLessRow_ok d g hne h r) rfl ?_
          rintro rv h r ⟨rfl, rfl, rfl⟩ -
          refine wq_zret rfl rfl (Nat.le_refl _) (Nat.le_refl _) (bI_z _) ⟨?_, rfl, rfl⟩
          rw [bI_c (P := d < g) (Q := kf N (h 73) (h 74) (h 75) d g) (by unfold kf; omega)]
        · skip
          refine wq_iload_n (kk := 3) (q := 83) rfl rfl rfl ?_
          refine wq_if_le (tgt := 90) (q := 86) rfl rfl rfl (fun c83 => ?_) (fun c83 => ?_)
          · skip
            refine wq_iconst (n := 0) (q := 91) rfl rfl rfl ?_
            refine wq_goto (tgt := 100) rfl rfl ?_
            refine wq_zret rfl rfl (Nat.le_refl _) (Nat.le_refl _) (by omega) ?_
            first | exact pC_t (by unfold kf; omega) | exact pC_f (by unfold kf; omega)
          · skip
            refine wq_iconst (n := 1) (q := 87) rfl rfl rfl ?_
            refine wq_goto (tgt := 100) rfl rfl ?_
            refine wq_zret rfl rfl (Nat.le_refl _) (Nat.le_refl _) (by omega) ?_
            first | exact pC_t (by unfold kf; omega) | exact pC_f (by unfold kf; omega)
set_option maxRecDepth 100000 in
set_option maxHeartbeats 1000000 in
theorem Mo_firstL (N : mN) (a t b : Int) (h : mH) (r : mR) (hM : isM h N) (hG : goal N b h) : ∀ (M : Nat) (d f : Int), (nN N - d).toNat = M → 0 ≤ d → d ≤ nN N → Fs N 9999 (h 73) (h 74) (h 75) a t (fun x => x < d) f → WP (true, rm 4) m_Mo_firstOf (rt m_Mo_firstOf (rm 4) (fun rv h1 r1 => ∃ f, rv = some (vI f) ∧ h1 = h ∧ r1 = r ∧ Fs N 9999 (h 73) (h 74) (h 75) a t (fun _ => True) f)) 5 [some (vR 64), some (vI a), some (vI t), some (vI f), some (vI d)] [] h r (0, 0) := by
  intro M
  induction M using Nat.strongRecOn with
  | ind M ih =>
    intro d f hN d0 d1 hF
    have hV := hM.1
    have hn := hV.1
    have e4 := hM.2.1
    have hdp : d < nN N → dp N d := fun z => ⟨d0, z⟩
    have hfr : d < nN N → h 66 (25 + 8 * d + 1) = frm N d := fun z => (hM.2.2.2.1 d ⟨d0, z⟩).2.2.1
    have skip : ¬ Fc N 9999 (h 73) a t d → Fs N 9999 (h 73) (h 74) (h 75) a t (fun x => x < d + 1) f := fun hz => by
      rcases hF with ⟨e, z⟩ | ⟨z1, z2, z3⟩
      · refine Or.inl ⟨e, fun x hx hc => ?_⟩
        by_cases ex : x = d
        · rw [ex] at hc; exact hz hc
        · exact z x (by omega) hc
      · refine Or.inr ⟨by omega, z2, fun x hx hc hne => ?_⟩
        by_cases ex : x = d
        · rw [ex] at hc; exact absurd hc hz
        · exact z3 x (by omega) hc hne
    refine wq_iload (i := 4) (q := 7) rfl rfl rfl ?_
    refine wq_aload_n (kk := 0) (q := 8) rfl rfl rfl ?_
    refine wq_getF (q := 11) f_Mo_17 rfl rfl (Nat.le_of_ble_eq_true rfl) rfl rfl rfl ?_
    refine wq_iconst (n := 4) (q := 12) rfl rfl rfl ?_
    refine wq_iald (q := 13) rfl (Or.inl ⟨rfl, Nat.le_of_ble_eq_true rfl⟩) rfl rfl (by first | omega | (simp [hup]; omega)) (by first | omega | (simp [hup]; omega)) ?_
    refine wq_icmp_ge (tgt := 94) (q := 16) rfl rfl rfl (fun c13 => ?_) (fun c13 => ?_)
    · skip
      refine wq_iload_n (kk := 3) (q := 95) rfl rfl rfl ?_
      refine wq_iret rfl rfl (Nat.le_refl _) (Nat.le_refl _) ⟨f, rfl, rfl, rfl, ?_⟩
      rcases hF with ⟨e, z⟩ | ⟨z1, z2, z3⟩
      · exact Or.inl ⟨e, fun x _ hc => z x (by have := hc.1.2; omega) hc⟩
      · exact Or.inr ⟨trivial, z2, fun x _ hc hne => z3 x (by have := hc.1.2; omega) hc hne⟩
    · skip
      refine wq_aload_n (kk := 0) (q := 17) rfl rfl rfl ?_
      refine wq_iload (i := 4) (q := 19) rfl rfl rfl ?_
      refine wq_callV (q := 22) (m' := m_Mo_runs) (R' := rm 2) (As := [_]) rfl rfl l_Mo_253 vm_Mo_runs rfl rfl rfl (Or.inl ⟨rfl, Nat.le_of_ble_eq_true rfl⟩) (Nat.le_of_ble_eq_true rfl) (Nat.le_of_ble_eq_true rfl) (Nat.le_refl _) (Nat.le_refl _) (Nat.le_of_ble_eq_true rfl) (Mo_runs_ok N d h r hM (hdp (by omega))) rfl ?_
      rintro rv h r ⟨rfl, rfl, rfl⟩ -
      refine wq_cif_eq (tgt := 88) (q := 25) rfl rfl rfl (fun c22 => ?_) (fun c22 => ?_)
      · skip
        refine wq_iinc (i := 4) (n := 1) (q := 91) rfl rfl rfl (Nat.le_of_ble_eq_true rfl) rfl (by first | omega | (simp [hup]; omega)) (by first | omega | (simp [hup]; omega)) ?_
        refine wq_goto (tgt := 5) rfl rfl ?_
        first
        | (refine ih _ (by omega) (d + 1) _ rfl (by omega) (by omega) ?_
           rcases hF with ⟨e, z⟩ | ⟨z1, z2, z3⟩
           · refine Or.inr ⟨by omega, hc, fun x hx hcx hne => absurd hcx (z x (by omega))⟩
           · refine Or.inr ⟨by omega, hc, fun x hx hcx hne => ?_⟩
             by_cases ex : x = f
             · rw [ex]; exact c78
             · exact c78.trans (z3 x (by omega) hcx ex))
        | (refine ih _ (by omega) (d + 1) _ rfl (by omega) (by omega) ?_
           rcases hF with ⟨e, z⟩ | ⟨z1, z2, z3⟩
           · exact Or.inr ⟨by omega, hc, fun x hx hcx hne => absurd hcx (z x (by omega))⟩
           · exfalso
             have := z2.1.1
             omega)
        | (refine ih _ (by omega) (d + 1) _ rfl (by omega) (by omega) ?_
           rcases hF with ⟨e, z⟩ | ⟨z1, z2, z3⟩
           · exact absurd e c68
           · refine Or.inr ⟨by omega, z2, fun x hx hcx hne => ?_⟩
             by_cases ex : x = d
             · rw [ex]; exact kf.tot (by omega) c78
             · exact z3 x (by omega) hcx hne)
        | (refine ih _ (by omega) (d + 1) _ rfl (by omega) (by omega) (skip (fun hc => ?_))
           have hfd := hfr (by omega)
           have y1 := hc.2.1
           have y2 := hc.2.2.1
           have y3 := hc.2.2.2.1
           have y4 := hc.2.2.2.2
           first | exact c22 y1 | omega)
      · skip
        refine wq_aload_n (kk := 0) (q := 26) rfl rfl rfl ?_
        refine wq_getF (q := 29) f_Mo_17 rfl rfl (Nat.le_of_ble_eq_true rfl) rfl rfl rfl ?_
        refine wq_iload (i := 4) (q := 31) rfl rfl rfl ?_
        refine wq_iconst (n := 1) (q := 32) rfl rfl rfl ?_
        refine wq_callS (q := 35) (m' := m_Mo_at) (R' := rm 1) (As := [_, _]) rfl rfl l_Mo_209 sm_Mo_at rfl (Nat.le_of_ble_eq_true rfl) (Nat.le_of_ble_eq_true rfl) (Nat.le_refl _) (Nat.le_refl _) (Nat.le_of_ble_eq_true rfl) (Mo_at_ok d 1 h r (by omega) (by omega)) rfl ?_
        rintro rv h r ⟨rfl, rfl, rfl⟩ -
        refine wq_iald (q := 36) rfl (Or.inl ⟨rfl, Nat.le_of_ble_eq_true rfl⟩) rfl rfl (by first | omega | (simp [hup]; omega)) (by first | omega | (simp [hup]; omega)) ?_
        refine wq_iload_n (kk := 1) (q := 37) rfl rfl rfl ?_
        refine wq_icmp_ne (tgt := 88) (q := 40) rfl rfl rfl (fun c37 => ?_) (fun c37 => ?_)
        · skip
          refine wq_iinc (i := 4) (n := 1) (q := 91) rfl rfl rfl (Nat.le_of_ble_eq_true rfl) rfl (by first | omega | (simp [hup]; omega)) (by first | omega | (simp [hup]; omega)) ?_
          refine wq_goto (tgt := 5) rfl rfl ?_
          first
          | (refine ih _ (by omega) (d + 1) _ rfl (by omega) (by omega) ?_
             rcases hF with ⟨e, z⟩ | ⟨z1, z2, z3⟩
             · refine Or.inr ⟨by omega, hc, fun x hx hcx hne => absurd hcx (z x (by omega))⟩
             · refine Or.inr ⟨by omega, hc, fun x hx hcx hne => ?_⟩
               by_cases ex : x = f
               · rw [ex]; exact c78
               · exact c78.trans (z3 x (by omega) hcx ex))
          | (refine ih _ (by omega) (d + 1) _ rfl (by omega) (by omega) ?_
             rcases hF with ⟨e, z⟩ | ⟨z1, z2, z3⟩
             · exact Or.inr ⟨by omega, hc, fun x hx hcx hne => absurd hcx (z x (by omega))⟩
             · exfalso
               have := z2.1.1
               omega)
          | (refine ih _ (by omega) (d + 1) _ rfl (by omega) (by omega) ?_
             rcases hF with ⟨e, z⟩ | ⟨z1, z2, z3⟩
             · exact absurd e c68
             · refine Or.inr ⟨by omega, z2, fun x hx hcx hne => ?_⟩
               by_cases ex : x = d
               · rw [ex]; exact kf.tot (by omega) c78
               · exact z3 x (by omega) hcx hne)
          | (refine ih _ (by omega) (d + 1) _ rfl (by omega) (by omega) (skip (fun hc => ?_))
             have hfd := hfr (by omega)
             have y1 := hc.2.1
             have y2 := hc.2.2.1
             have y3 := hc.2.2.2.1
             have y4 := hc.2.2.2.2
             first | exact c22 y1 | omega)
        · skip
          refine wq_aload_n (kk := 0) (q := 41) rfl rfl rfl ?_
          refine wq_iload (i := 4) (q := 43) rfl rfl rfl ?_
          refine wq_callV (q := 46) (m' := m_Mo_leavesAt) (R' := rm 2) (As := [_]) rfl rfl l_Mo_250 vm_Mo_leavesAt rfl rfl rfl (Or.inl ⟨rfl, Nat.le_of_ble_eq_true rfl⟩) (Nat.le_of_ble_eq_true rfl) (Nat.le_of_ble_eq_true rfl) (Nat.le_refl _) (Nat.le_refl _) (Nat.le_of_ble_eq_true rfl) (Mo_leavesAt_ok N d h r hM (hdp (by omega))) rfl ?_
          rintro rv h r ⟨rfl, rfl, rfl⟩ -
          refine wq_iload_n (kk := 2) (q := 47) rfl rfl rfl ?_
          refine wq_icmp_lt (tgt := 88) (q := 50) rfl rfl rfl (fun c47 => ?_) (fun c47 => ?_)
          · skip
            refine wq_iinc (i := 4) (n := 1) (q := 91) rfl rfl rfl (Nat.le_of_ble_eq_true rfl) rfl (by first | omega | (simp [hup]; omega)) (by first | omega | (simp [hup]; omega)) ?_
            refine wq_goto (tgt := 5) rfl rfl ?_
            first
            | (refine ih _ (by omega) (d + 1) _ rfl (by omega) (by omega) ?_
               rcases hF with ⟨e, z⟩ | ⟨z1, z2, z3⟩
               · refine Or.inr ⟨by omega, hc, fun x hx hcx hne => absurd hcx (z x (by omega))⟩
               · refine Or.inr ⟨by omega, hc, fun x hx hcx hne => ?_⟩
                 by_cases ex : x = f
                 · rw [ex]; exact c78
                 · exact c78.trans (z3 x (by omega) hcx ex))
            | (refine ih _ (by omega) (d + 1) _ rfl (by omega) (by omega) ?_
               rcases hF with ⟨e, z⟩ | ⟨z1, z2, z3⟩
               · exact Or.inr ⟨by omega, hc, fun x hx hcx hne => absurd hcx (z x (by omega))⟩
               · exfalso
                 have := z2.1.1
                 omega)
            | (refine ih _ (by omega) (d + 1) _ rfl (by omega) (by omega) ?_
               rcases hF with ⟨e, z⟩ | ⟨z1, z2, z3⟩
               · exact absurd e c68
               · refine Or.inr ⟨by omega, z2, fun x hx hcx hne => ?_⟩
                 by_cases ex : x = d
                 · rw [ex]; exact kf.tot (by omega) c78
                 · exact z3 x (by omega) hcx hne)
            | (refine ih _ (by omega) (d + 1) _ rfl (by omega) (by omega) (skip (fun hc => ?_))
               have hfd := hfr (by omega)
               have y1 := hc.2.1
               have y2 := hc.2.2.1
               have y3 := hc.2.2.2.1
               have y4 := hc.2.2.2.2
               first | exact c22 y1 | omega)
          · skip
            refine wq_aload_n (kk := 0) (q := 51) rfl rfl rfl ?_
            refine wq_getF (q := 54) f_Mo_39 rfl rfl (Nat.le_of_ble_eq_true rfl) rfl rfl rfl ?_
            refine wq_iload (i := 4) (q := 56) rfl rfl rfl ?_
            refine wq_iald (q := 57) rfl (Or.inl ⟨rfl, Nat.le_of_ble_eq_true rfl⟩) rfl rfl (by first | omega | (simp [hup]; omega)) (by first | omega | (simp [hup]; omega)) ?_
            refine wq_sipush (n := 9999) (q := 60) rfl rfl rfl ?_
            refine wq_icmp_ne (tgt := 66) (q := 63) rfl rfl rfl (fun c60 => ?_) (fun c60 => ?_)
            · skip
              have hfd := hfr (by omega)
              have hc : Fc N 9999 (h 73) a t d := ⟨hdp (by omega), c22, by omega, by omega, c60⟩
              have hbd := hG.2.1 d hc.1 hc.2.1
              have hf' : f ≠ -1 → f < d ∧ Fc N 9999 (h 73) a t f := fun z => hF.elim (fun y => absurd y.1 z) (fun y => ⟨y.1, y.2.1⟩)
              refine wq_iload_n (kk := 3) (q := 67) rfl rfl rfl ?_
              refine wq_iconst (n := -1) (q := 68) rfl rfl rfl ?_
              refine wq_icmp_eq (tgt := 81) (q := 71) rfl rfl rfl (fun c68 => ?_) (fun c68 => ?_)
              · skip
                refine wq_iload (i := 4) (q := 83) rfl rfl rfl ?_
                refine wq_goto (tgt := 87) rfl rfl ?_
                refine wq_istore_n (kk := 3) (q := 88) rfl rfl (Nat.le_of_ble_eq_true rfl) rfl ?_
                refine wq_iinc (i := 4) (n := 1) (q := 91) rfl rfl rfl (Nat.le_of_ble_eq_true rfl) rfl (by first | omega | (simp [hup]; omega)) (by first | omega | (simp [hup]; omega)) ?_
                refine wq_goto (tgt := 5) rfl rfl ?_
                first
                | (refine ih _ (by omega) (d + 1) _ rfl (by omega) (by omega) ?_
                   rcases hF with ⟨e, z⟩ | ⟨z1, z2, z3⟩
                   · refine Or.inr ⟨by omega, hc, fun x hx hcx hne => absurd hcx (z x (by omega))⟩
                   · refine Or.inr ⟨by omega, hc, fun x hx hcx hne => ?_⟩
                     by_cases ex : x = f
                     · rw [ex]; exact c78
                     · exact c78.trans (z3 x (by omega) hcx ex))
                | (refine ih _ (by omega) (d + 1) _ rfl (by omega) (by omega) ?_
                   rcases hF with ⟨e, z⟩ | ⟨z1, z2, z3⟩
                   · exact Or.inr ⟨by omega, hc, fun x hx hcx hne => absurd hcx (z x (by omega))⟩
                   · exfalso
                     have := z2.1.1
                     omega)
                | (refine ih _ (by omega) (d + 1) _ rfl (by omega) (by omega) ?_
                   rcases hF with ⟨e, z⟩ | ⟨z1, z2, z3⟩
                   · exact absurd e c68
                   · refine Or.inr ⟨by omega, z2, fun x hx hcx hne => ?_⟩
                     by_cases ex : x = d
                     · rw [ex]; exact kf.tot (by omega) c78
                     · exact z3 x (by omega) hcx hne)
                | (refine ih _ (by omega) (d + 1) _ rfl (by omega) (by omega) (skip (fun hc => ?_))
                   have hfd := hfr (by omega)
                   have y1 := hc.2.1
                   have y2 := hc.2.2.1
                   have y3 := hc.2.2.2.1
                   have y4 := hc.2.2.2.2
                   first | exact c22 y1 | omega)
              · skip
                refine wq_aload_n (kk := 0) (q := 72) rfl rfl rfl ?_
                refine wq_iload (i := 4) (q := 74) rfl rfl rfl ?_
                refine wq_iload_n (kk := 3) (q := 75) rfl rfl rfl ?_
                refine wq_callV (q := 78) (m' := m_Mo_isBetter) (R' := rm 3) (As := [_, _]) rfl rfl l_Mo_295 vm_Mo_isBetter rfl rfl rfl (Or.inl ⟨rfl, Nat.le_of_ble_eq_true rfl⟩) (Nat.le_of_ble_eq_true rfl) (Nat.le_of_ble_eq_true rfl) (Nat.le_refl _) (Nat.le_refl _) (Nat.le_of_ble_eq_true rfl) (Mo_isBetter_ok N d f (by have := hf' c68; omega) h r hM (hdp (by omega)) (hf' c68).2.1 hbd (hG.2.1 f (hf' c68).2.1 (hf' c68).2.2.1) c60 (hf' c68).2.2.2.2.2) rfl ?_
                rintro rv h r ⟨rfl, rfl, rfl⟩ -
                refine wq_cif_eq (tgt := 86) (q := 81) rfl rfl rfl (fun c78 => ?_) (fun c78 => ?_)
                · skip
                  refine wq_iload_n (kk := 3) (q := 87) rfl rfl rfl ?_
                  refine wq_istore_n (kk := 3) (q := 88) rfl rfl (Nat.le_of_ble_eq_true rfl) rfl ?_
                  refine wq_iinc (i := 4) (n := 1) (q := 91) rfl rfl rfl (Nat.le_of_ble_eq_true rfl) rfl (by first | omega | (simp [hup]; omega)) (by first | omega | (simp [hup]; omega)) ?_
                  refine wq_goto (tgt := 5) rfl rfl ?_
                  first
                  | (refine ih _ (by omega) (d + 1) _ rfl (by omega) (by omega) ?_
                     rcases hF with ⟨e, z⟩ | ⟨z1, z2, z3⟩
                     · refine Or.inr ⟨by omega, hc, fun x hx hcx hne => absurd hcx (z x (by omega))⟩
                     · refine Or.inr ⟨by omega, hc, fun x hx hcx hne => ?_⟩
                       by_cases ex : x = f
                       · rw [ex]; exact c78
                       · exact c78.trans (z3 x (by omega) hcx ex))
                  | (refine ih _ (by omega) (d + 1) _ rfl (by omega) (by omega) ?_
                     rcases hF with ⟨e, z⟩ | ⟨z1, z2, z3⟩
                     · exact Or.inr ⟨by omega, hc, fun x hx hcx hne => absurd hcx (z x (by omega))⟩
                     · exfalso
                       have := z2.1.1
                       omega)
                  | (refine ih _ (by omega) (d + 1) _ rfl (by omega) (by omega) ?_
                     rcases hF with ⟨e, z⟩ | ⟨z1, z2, z3⟩
                     · exact absurd e c68
                     · refine Or.inr ⟨by omega, z2, fun x hx hcx hne => ?_⟩
                       by_cases ex : x = d
                       · rw [ex]; exact kf.tot (by omega) c78
                       · exact z3 x (by omega) hcx hne)
                  | (refine ih _ (by omega) (d + 1) _ rfl (by omega) (by omega) (skip (fun hc => ?_))
                     have hfd := hfr (by omega)
                     have y1 := hc.2.1
                     have y2 := hc.2.2.1
                     have y3 := hc.2.2.2.1
                     have y4 := hc.2.2.2.2
                     first | exact c22 y1 | omega)
                · skip
                  refine wq_iload (i := 4) (q := 83) rfl rfl rfl ?_
                  refine wq_goto (tgt := 87) rfl rfl ?_
                  refine wq_istore_n (kk := 3) (q := 88) rfl rfl (Nat.le_of_ble_eq_true rfl) rfl ?_
                  refine wq_iinc (i := 4) (n := 1) (q := 91) rfl rfl rfl (Nat.le_of_ble_eq_true rfl) rfl (by first | omega | (simp [hup]; omega)) (by first | omega | (simp [hup]; omega)) ?_
                  refine wq_goto (tgt := 5) rfl rfl ?_
                  first
                  | (refine ih _ (by omega) (d + 1) _ rfl (by omega) (by omega) ?_
                     rcases hF with ⟨e, z⟩ | ⟨z1, z2, z3⟩
                     · refine Or.inr ⟨by omega, hc, fun x hx hcx hne => absurd hcx (z x (by omega))⟩
                     · refine Or.inr ⟨by omega, hc, fun x hx hcx hne => ?_⟩
                       by_cases ex : x = f
                       · rw [ex]; exact c78
                       · exact c78.trans (z3 x (by omega) hcx ex))
                  | (refine ih _ (by omega) (d + 1) _ rfl (by omega) (by omega) ?_
                     rcases hF with ⟨e, z⟩ | ⟨z1, z2, z3⟩
                     · exact Or.inr ⟨by omega, hc, fun x hx hcx hne => absurd hcx (z x (by omega))⟩
                     · exfalso
                       have := z2.1.1
                       omega)
                  | (refine ih _ (by omega) (d + 1) _ rfl (by omega) (by omega) ?_
                     rcases hF with ⟨e, z⟩ | ⟨z1, z2, z3⟩
                     · exact absurd e c68
                     · refine Or.inr ⟨by omega, z2, fun x hx hcx hne => ?_⟩
                       by_cases ex : x = d
                       · rw [ex]; exact kf.tot (by omega) c78
                       · exact z3 x (by omega) hcx hne)
                  | (refine ih _ (by omega) (d + 1) _ rfl (by omega) (by omega) (skip (fun hc => ?_))
                     have hfd := hfr (by omega)
                     have y1 := hc.2.1
                     have y2 := hc.2.2.1
                     have y3 := hc.2.2.2.1
                     have y4 := hc.2.2.2.2
                     first | exact c22 y1 | omega)
            · skip
              refine wq_goto (tgt := 88) rfl rfl ?_
              refine wq_iinc (i := 4) (n := 1) (q := 91) rfl rfl rfl (Nat.le_of_ble_eq_true rfl) rfl (by first | omega | (simp [hup]; omega)) (by first | omega | (simp [hup]; omega)) ?_
              refine wq_goto (tgt := 5) rfl rfl ?_
              first
              | (refine ih _ (by omega) (d + 1) _ rfl (by omega) (by omega) ?_
                 rcases hF with ⟨e, z⟩ | ⟨z1, z2, z3⟩
                 · refine Or.inr ⟨by omega, hc, fun x hx hcx hne => absurd hcx (z x (by omega))⟩
                 · refine Or.inr ⟨by omega, hc, fun x hx hcx hne => ?_⟩
                   by_cases ex : x = f
                   · rw [ex]; exact c78
                   · exact c78.trans (z3 x (by omega) hcx ex))
              | (refine ih _ (by omega) (d + 1) _ rfl (by omega) (by omega) ?_
                 rcases hF with ⟨e, z⟩ | ⟨z1, z2, z3⟩
                 · exact Or.inr ⟨by omega, hc, fun x hx hcx hne => absurd hcx (z x (by omega))⟩
                 · exfalso
                   have := z2.1.1
                   omega)
              | (refine ih _ (by omega) (d + 1) _ rfl (by omega) (by omega) ?_
                 rcases hF with ⟨e, z⟩ | ⟨z1, z2, z3⟩
                 · exact absurd e c68
                 · refine Or.inr ⟨by omega, z2, fun x hx hcx hne => ?_⟩
                   by_cases ex : x = d
                   · rw [ex]; exact kf.tot (by omega) c78
                   · exact z3 x (by omega) hcx hne)
              | (refine ih _ (by omega) (d + 1) _ rfl (by omega) (by omega) (skip (fun hc => ?_))
                 have hfd := hfr (by omega)
                 have y1 := hc.2.1
                 have y2 := hc.2.2.1
                 have y3 := hc.2.2.2.1
                 have y4 := hc.2.2.2.2
                 first | exact c22 y1 | omega)
set_option maxRecDepth 100000 in
theorem Mo_firstOf_ok (N : mN) (a t b : Int) (h : mH) (r : mR) (hM : isM h N) (hG : goal N b h) : Meets true (rm 4) m_Mo_firstOf [vR 64, vI a, vI t] h r (fun rv h1 r1 => ∃ f, rv = some (vI f) ∧ h1 = h ∧ r1 = r ∧ Fs N 9999 (h 73) (h 74) (h 75) a t (fun _ => True) f) := by
  have hn := hM.1.1
  refine ⟨ok_Mo_firstOf, Nat.le_of_ble_eq_true rfl, ?_⟩
  refine wq_iconst (n := -1) (q := 1) rfl rfl rfl ?_
  refine wq_istore_n (kk := 3) (q := 2) rfl rfl (Nat.le_of_ble_eq_true rfl) rfl ?_
  refine wq_iconst (n := 0) (q := 3) rfl rfl rfl ?_
  refine wq_istore (i := 4) (q := 5) rfl rfl (Nat.le_of_ble_eq_true rfl) rfl ?_
  refine Mo_firstL N a t b h r hM hG _ 0 (-1) rfl (by omega) (by omega) (Or.inl ⟨rfl, fun x hx hc => ?_⟩)
  have := hc.1.1
  omega

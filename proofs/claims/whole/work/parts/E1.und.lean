/-! THE COUPLING: extra, undo, desk -/
theorem xad2_fr {h : mH} {l a b t w k : Int} : fr [2, 5, 6, 7, 8, 9, 10, 11, 12] h (x_addDep 2 h l a b t w k) := ((((((((fr.rf.up (by decide)).up (by decide)).up (by decide)).up (by decide)).up (by decide)).up (by decide)).up (by decide)).up (by decide)).up (by decide)
theorem kE_4 {h : mH} {l a b t w : Int} : kE h l a b t w ≠ 4 := by
  unfold kE
  split
  · decide
  · split
    · decide
    · split <;> decide
theorem kE_z {h : mH} {l a b t w : Int} (k : kE h l a b t w = 0) : ((0 ≤ l ∧ l < h 2 2) ∧ kU (h 2 1) a b) ∧ ((0 ≤ t ∧ t ≤ h 2 0) ∧ 1 ≤ w ∧ w ≤ 99) ∧ h 2 4 < 120 := by
  unfold kE at k
  split at k
  · omega
  · rename_i c1
    split at k
    · omega
    · rename_i c2
      split at k
      · omega
      · exact ⟨bI_ne c1, bI_ne c2, by omega⟩
theorem two_extra (l a b t w : Int) {h : mH} {r : mR} (C : Cp h r) : Two m_Lt_extra (rm 3) m_Mo_extra (rm 4) [vI l, vI a, vI b, vI t, vI w] h r := by
  have V := C.2.2.2.1
  obtain ⟨x0, x1, x2, x3, x4, -⟩ := id C.2.2.1
  have F : ∀ h1, (∃ h2, noted (x_addDep 2 h l a b t w (-2)) h2 4 (h 2 4) 0 ∧ h1 = hup h2 0 12 0) → fr acC h h1 := by
    rintro h1 ⟨ha, N1, rfl⟩
    exact ((xad2_fr.mono (by decide)).trans N1.fr (by decide)).up (by decide)
  refine two_act (k' := fun h1 => kER h1 (dN h 0) l a b t w) (F' := fun h1 v h2 => (∃ hb, kpd (x_ref h1 0) hb ∧ fr [66] hb h2 ∧ h2 66 = add1 (h1 66) l a b t w (-2)) ∧ v = h1 66 4) C (Lt_extra_ok l a b t w h r C.1 C.lb) (fun h1 e66 e64 => Mo_extra_ok l a b t w (dN h 0) h1 r (C.rp e66 e64).1 (C.rp e66 e64).2 (by rw [e66]; exact V.1.2.2.1)) (fun h1 e66 => ?_) kE_4 (fun v h1 _ f => ⟨F h1 f.1 66 (by decide), F h1 f.1 64 (by decide)⟩) ?_
  · unfold kER kE
    rw [e66, x0, x2, x4]
    rfl
  rintro v h1 v' h2 k0 ⟨fx, rfl⟩ ⟨⟨hb, Kp, F2, row⟩, rfl⟩
  have F1 := F h1 fx
  obtain ⟨ha, N1, rfl⟩ := fx
  obtain ⟨⟨hl, hab⟩, ⟨ht, hw⟩, h4⟩ := kE_z k0
  have e66 : hup ha 0 12 0 66 = h 66 := F1 66 (by decide)
  rw [e66] at row ⊢
  have NF := N1.fr
  have R1 : 0 < h 66 1 := by omega
  have R0 : h 66 0 ≠ 0 := fun z => by have := V.1.2.2.2.2.2.1 z; omega
  have m : dM 2 (x_addDep 2 h l a b t w (-2)) (add1 (h 66) l a b t w (-2)) := dM_add C.2.2.1 V.1.2.2.2.2.1.1 V.1.2.1.2
  have VV : RV (add1 (h 66) l a b t w (-2)) := RV_add V.1 R0 (by omega) (by omega) (by omega) (by omega) (by omega) (by have := V.1.1; omega) hw
  obtain ⟨a0, a4, -⟩ := add1_e (R := h 66) (l := l) (a := a) (b := b) (t := t) (w := w) (k := -2) V.1.2.2.2.2.1.1
  have R4 := V.1.2.2.2.2.1
  have fx : fr [27, 28, 29, 30] (x_addDep 2 h l a b t w (-2)) ha := NF
  obtain ⟨s, s1, f, a27, arow, ak, an, ab⟩ := N1
  have z27 : x_addDep 2 h l a b t w (-2) 27 = h 27 := xad2_fr 27 (by decide)
  have z28 : ∀ c, c = 28 ∨ c = 29 ∨ c = 30 → x_addDep 2 h l a b t w (-2) c = h c := fun c hc => xad2_fr c (by rcases hc with rfl | rfl | rfl <;> decide)
  rw [z27] at s1 a27 arow ak an ab
  refine ⟨x4, C.act (h1 := hup ha 0 12 0) (hb := hb) (k := 4) (n := h 2 4) (b := 0) ⟨s, s1, ?_, ?_, ?_, ?_, ?_⟩ F1 ⟨hup_s, fun j hj => ?_⟩ Kp F2 ?_ ?_ ?_ ?_⟩
  · rw [hup_i (by decide)]; exact a27
  · intro c hc j j0 j1
    rw [hup_i (by omega), arow c hc j j0 j1, z28 c hc]
  · rw [hup_i (by decide)]; exact ak
  · rw [hup_i (by decide)]; exact an
  · rw [hup_i (by decide)]; exact ab
  · rw [hup_j hj, fx 0 (by decide), xad2_fr 0 (by decide)]
  · rw [row]
    exact dM_k m (fun i i0 i1 => (hup_ne (by omega)).trans (fx i (by simp; omega)))
  · rw [row]
    refine ⟨VV, ?_⟩
    rw [a0 1 (by decide) (by omega)]
    have := V.2
    omega
  · rw [row]
    have eu : uR (add1 (h 66) l a b t w (-2)) 4 (h 2 4) 0 = up (add1 (h 66) l a b t w (-2)) 4 (h 2 4) := by simp [uR]
    rw [eu]
    refine ⟨by rw [up_n (by decide), a0 0 (by decide) (by omega)], fun j hj => ?_⟩
    unfold lvR at hj
    by_cases e : j = 4
    · subst e; rw [up_s]; exact x4
    · rw [up_n e, a0 j e (by have := V.1.2.1; omega)]
  · rw [row, a4]; omega
theorem dM_s {h : mH} {A R : mF} (m : dM 2 h R) (e : sM A R) : dM 2 h A := by
  obtain ⟨x0, x1, x2, x3, x4, xs, xd⟩ := m
  have a1 := e.2 1 (Or.inl (by decide))
  have a2 := e.2 2 (Or.inl (by decide))
  have a3 := e.2 3 (Or.inl (by decide))
  have a4 := e.2 4 (Or.inl (by decide))
  refine ⟨x0.trans e.1.symm, x1.trans a1, x2.trans a2, x3.trans a3, x4.trans a4, fun s s0 s1 => ?_, fun d d0 d1 => ?_⟩
  · have b1 := e.2 (5 + s) (Or.inr (Or.inl ⟨by omega, by omega⟩))
    have b2 := e.2 (15 + s) (Or.inr (Or.inr (Or.inl ⟨by omega, by omega⟩)))
    rw [← b1, ← b2]
    exact xs s s0 (by omega)
  · have b : ∀ k, 0 ≤ k → k ≤ 7 → R (25 + 8 * d + k) = A (25 + 8 * d + k) := fun k k0 k7 => e.2 _ (Or.inr (Or.inr (Or.inr ⟨by omega, by omega⟩)))
    have b0 := e.2 (25 + 8 * d) (Or.inr (Or.inr (Or.inr ⟨by omega, by omega⟩)))
    rw [← b0, ← b 1 (by decide) (by decide), ← b 2 (by decide) (by decide), ← b 3 (by decide) (by decide), ← b 4 (by decide) (by decide), ← b 5 (by decide) (by decide), ← b 6 (by decide) (by decide), ← b 7 (by decide) (by decide)]
    exact xd d d0 (by omega)
theorem dM_x {h : mH} {A R : mF} (m : dM 2 h R) (V : RV R) (e : ∀ x, 0 ≤ x → x < 985 → A x = R x) : dM 2 h A := dM_s m (sM_x sM.rf V e (fun _ _ _ => rfl))
theorem two_undo {h : mH} {r : mR} (C : Cp h r) : Two m_Lt_undo (rm 2) m_Mo_undo (rm 2) [] h r := by
  have L := C.2.2.2.2.2.2
  obtain ⟨⟨K0, K1⟩, l2, l3⟩ := id L
  refine ⟨_, Lt_undo_ok h r C.1.2.2.2.1 L.ok, ?_⟩
  rintro rv h1 r1 ⟨rfl, ⟨z, rfl, rfl⟩ | ⟨z, rfl, e1⟩⟩
  · refine ⟨_, Mo_undo_ok _ r1 (by rw [hup_i (by decide)]; exact ⟨K0, K1⟩), ?_⟩
    rintro rv h2 r2 ⟨rfl, ⟨y, rfl, rfl⟩ | ⟨y, -⟩⟩
    · exact ⟨0, rfl, rfl, Or.inl (C.ref (by decide))⟩
    · rw [hup_i (by decide)] at y; omega
  · rw [l2] at z e1
    have uf : fr [2, 3, 4, 10, 12] (hup h 27 0 (h 64 10 - 1)) (unl (hup h 27 0 (h 64 10 - 1)) (h 28 (h 64 10 - 1)) (h 29 (h 64 10 - 1)) (h 30 (h 64 10 - 1))) := fr_unl
    obtain ⟨q1, q2, q3, q4, q5, q6⟩ := l3 (h 64 10 - 1) (by omega) (by omega)
    have rk : rwk h (h 64 10 - 1 + 1) = h 66 := by unfold rwk; rw [if_pos (by omega)]
    rw [rk] at q2 q6
    have m0 : dM 2 (hup h 27 0 (h 64 10 - 1)) (h 66) := dM_k C.2.2.1 (fun i i0 i1 => hup_ne (by omega))
    have m1 := dM_un (w := h 30 (h 64 10 - 1)) m0 C.2.2.2.1.1 q3 q5 q6
    have f1 : fr [0, 2, 3, 4, 10, 12, 27] h h1 := by
      rw [e1]
      exact (((fr.rf.up (S := [0, 2, 3, 4, 10, 12, 27]) (i := 27) (by decide)).trans uf (by decide)).up (by decide))
    have g1 : ∀ j, j ≠ 12 → h1 0 j = h 0 j := fun j hj => by rw [e1, hup_j hj, uf 0 (by decide), hup_i (by decide)]
    have t1 : h1 0 12 = 0 := by rw [e1, hup_s]
    have k1 : h1 27 0 = h 64 10 - 1 := by rw [e1, hup_i (by decide), uf 27 (by decide), hup_s]
    have e10 : h1 64 = h 64 := f1 64 (by decide)
    refine ⟨_, Mo_undo_ok h1 r1 (by rw [e10]; exact ⟨K0, K1⟩), ?_⟩
    rintro rv h2 r2 ⟨rfl, ⟨y, rfl, rfl⟩ | ⟨y, rfl, f2, g2, k2, row⟩⟩
    · rw [e10] at y; omega
    rw [e10] at k2 row
    rw [f1 69 (by decide)] at row
    obtain ⟨xf, xg, xt⟩ := x_ref_e h1 0
    have d64 : ∀ j : Int, j ≠ 10 → j ≠ 0 → j ≠ 1 → j ≠ 3 → h2 64 j = h 64 j := fun j hj j0 j1 j3 => by rw [g2 j hj, xg j j0 j1 j3, e10]
    have c0 : ∀ i, i ∉ [64, 66] → h2 i = h1 i := fun i hi => f2 i hi
    have V2 : RW (h 64 11) (h2 66) := RW_x q1 row
    have m2 : dM 2 h2 (h2 66) := dM_x (dM_k (dM_s m1 q2) (fun i i0 i1 => by rw [c0 i (by simp; omega), e1, hup_ne (by omega)])) q1.1 row
    obtain ⟨⟨-, i1, i2, i3, i4⟩, c2, -, -, ⟨c5, c6, c7⟩, ⟨u0, u1, u2, u3⟩, -⟩ := C
    have s1 : h2 64 1 = 0 := by rw [g2 1 (by decide)]; exact xt
    have c69 : h2 69 = h 69 := (c0 69 (by decide)).trans (f1 69 (by decide))
    refine ⟨1, rfl, rfl, Or.inl ⟨⟨DV_d m2 V2.1, ?_, ?_, i3, i4⟩, c2, m2, ?_, ⟨?_, ?_, ?_⟩, ?_, ?_, ?_, ?_⟩⟩
    · rw [c0 31 (by decide), f1 31 (by decide)]; exact i1
    · rw [c0 31 (by decide), f1 31 (by decide), c0 35 (by decide), f1 35 (by decide)]; exact i2
    · rw [d64 11 (by decide) (by decide) (by decide) (by decide)]; exact V2
    · rw [s1, c0 0 (by decide)]; exact t1.symm
    · rw [d64 2 (by decide) (by decide) (by decide) (by decide), c0 0 (by decide), g1 13 (by decide)]; exact c6
    · intro y'; omega
    · rw [c0 0 (by decide), g1 1 (by decide), d64 5 (by decide) (by decide) (by decide) (by decide), c0 65 (by decide), f1 65 (by decide), c0 1 (by decide), f1 1 (by decide)]
      exact ⟨u0, u1, u2, u3⟩
    · rw [k2]; omega
    · rw [k2, c0 27 (by decide)]; exact k1
    · intro j j0 j1
      rw [k2] at j1
      obtain ⟨p1, p2, p3⟩ := l3 j j0 (by omega)
      have r1 : ∀ x, 0 ≤ x → x < 985 → rwk h2 (j + 1) x = rwk h (j + 1) x := fun x x0 x1 => by
        unfold rwk
        rw [if_neg (show ¬ j + 1 = h 64 10 by omega), k2]
        by_cases y' : j + 1 = h 64 10 - 1
        · rw [if_pos y', row x x0 x1, y']
        · rw [if_neg y', c69]
      unfold enK at *
      rw [c69, d64 11 (by decide) (by decide) (by decide) (by decide), c0 28 (by decide), f1 28 (by decide), c0 29 (by decide), f1 29 (by decide), c0 30 (by decide), f1 30 (by decide), r1 4 (by decide) (by decide)]
      exact ⟨p1, sM_x p2 p1.1 (fun _ _ _ => rfl) (uR_x r1), p3⟩

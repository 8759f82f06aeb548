/-! THE COUPLING: acts -/
theorem x_ref_e (h : mH) (k : Int) : fr [64] h (x_ref h k) ∧ (∀ j, j ≠ 0 → j ≠ 1 → j ≠ 3 → x_ref h k 64 j = h 64 j) ∧ x_ref h k 64 1 = k := by
  refine ⟨((fr.rf.up (by decide)).up (by decide)).up (by decide), fun j j0 j1 j3 => ?_, hup_s⟩
  unfold x_ref
  rw [hup_j j1, hup_j j3, hup_j j0]
/-- a refused act -/
theorem Cp.ref {h : mH} {r : mR} (C : Cp h r) {k : Int} (k4 : k ≠ 4) : Cp (x_ref (hup h 0 12 k) k) r := by
  obtain ⟨f, g, t⟩ := x_ref_e (hup h 0 12 k) k
  have f0 : fr [0] h (hup h 0 12 k) := fr.rf.up (by decide)
  refine Cp_k C ((C.1.fr f0 (by decide)).fr f (by decide)) C.2.1 (fun i hi => (f i (by revert hi i; decide)).trans (f0 i (by revert hi i; decide))) (fun j hj => ?_) (fun j hj => ?_) ?_ (fun z => absurd (t.symm.trans z) k4)
  · rw [f 0 (by decide), hup_j (by omega)]
  · rw [g j (by omega) (by omega) (by omega), hup_i (by decide)]
  · rw [t, f 0 (by decide), hup_s]
/-- what noting leaves in the class -/
def ntd (h h1 : mH) (k n b : Int) : Prop := ∃ s : Int, (s = 0 ∧ h 27 0 < 10 ∨ s = 1 ∧ h 27 0 = 10) ∧ h1 27 0 = h 27 0 + 1 - s ∧ (∀ a, a = 28 ∨ a = 29 ∨ a = 30 → ∀ j, 0 ≤ j → j < h 27 0 - s → h1 a j = h a (j + s)) ∧ h1 28 (h 27 0 - s) = k ∧ h1 29 (h 27 0 - s) = n ∧ h1 30 (h 27 0 - s) = b
abbrev acC : List Nat := [0, 2, 3, 4, 5, 6, 7, 8, 9, 10, 11, 12, 27, 28, 29, 30]
theorem LG_act {h h1 hb h2 : mH} {k n b : Int} (L : LG h) (N1 : ntd h h1 k n b) (F1 : fr acC h h1) (Kp : kpd (x_ref h1 0) hb) (F2 : fr [66] hb h2) (V0 : RW (h 64 11) (h 66)) (u : sM (h 66) (uR (h2 66) k n b)) (ek : 0 ≤ n ∧ (k = 0 ∨ k = 1 → n < 120) ∧ (k = 2 ∨ k = 3 → n < 10) ∧ (k = 0 ∨ k = 1 ∨ k = 2 ∨ k = 3 ∨ n ≤ h2 66 4)) : LG h2 := by
  obtain ⟨⟨K0, K1⟩, l2, l3⟩ := L
  obtain ⟨f, g, t⟩ := x_ref_e h1 0
  have e10 : x_ref h1 0 64 10 = h 64 10 := by rw [g 10 (by decide) (by decide) (by decide), F1 64 (by decide)]
  have e11 : x_ref h1 0 64 11 = h 64 11 := by rw [g 11 (by decide) (by decide) (by decide), F1 64 (by decide)]
  have e69 : x_ref h1 0 69 = h 69 := (f 69 (by decide)).trans (F1 69 (by decide))
  have e66 : x_ref h1 0 66 = h 66 := (f 66 (by decide)).trans (F1 66 (by decide))
  obtain ⟨s, s1, kf, kg, k10, krow, knew⟩ := Kp
  rw [e10] at s1 k10
  rw [e10] at krow knew
  rw [e69] at krow
  rw [e66] at knew
  obtain ⟨s', s1', n27, nrow, nk, nn, nb⟩ := N1
  rw [l2] at s1' n27 nrow nk nn nb
  have ss : s' = s := by omega
  subst ss
  have a27 : ∀ i, i = 27 ∨ i = 28 ∨ i = 29 ∨ i = 30 → h2 i = h1 i := fun i hi => by
    have n1 : i ∉ [66] := by simp; omega
    have n2 : i ∉ [64, 69] := by simp; omega
    have n3 : i ∉ [64] := by simp; omega
    exact (F2 i n1).trans ((kf i n2).trans (f i n3))
  have b10 : h2 64 10 = h 64 10 + 1 - s' := by rw [F2 64 (by decide)]; exact k10
  have b11 : h2 64 11 = h 64 11 := by rw [F2 64 (by decide), kg 11 (by decide)]; exact e11
  have c69 : h2 69 = hb 69 := F2 69 (by decide)
  refine ⟨by rw [b10]; omega, by rw [a27 27 (by omega), n27, b10], fun j j0 j1 => ?_⟩
  rw [b10] at j1
  unfold enK
  rw [a27 28 (by omega), a27 29 (by omega), a27 30 (by omega), b11, c69]
  by_cases z : j < h 64 10 - s'
  · obtain ⟨q1, q2, q3⟩ := l3 (j + s') (by omega) (by omega)
    have r0 : ∀ x, 0 ≤ x → x < 985 → (fun x => hb 69 (985 * j + x)) x = (fun x => h 69 (985 * (j + s') + x)) x := fun x x0 x1 => krow j x j0 z x0 x1
    have r1 : ∀ x, 0 ≤ x → x < 985 → rwk h2 (j + 1) x = rwk h (j + s' + 1) x := fun x x0 x1 => by
      unfold rwk
      rw [if_neg (by omega), c69]
      by_cases y : j + s' + 1 = h 64 10
      · rw [if_pos y]
        have := knew x x0 x1
        rw [show h 64 10 - s' = j + 1 by omega] at this
        exact this
      · rw [if_neg y]
        have := krow (j + 1) x (by omega) (by omega) x0 x1
        rw [show j + 1 + s' = j + s' + 1 by omega] at this
        exact this
    rw [nrow 28 (by omega) j j0 z, nrow 29 (by omega) j j0 z, nrow 30 (by omega) j j0 z]
    refine ⟨RW_x q1 r0, sM_x q2 q1.1 r0 (uR_x r1), ?_⟩
    rw [r1 4 (by decide) (by decide)]
    exact q3
  · have zj : j = h 64 10 - s' := by omega
    subst zj
    have r0 : ∀ x, 0 ≤ x → x < 985 → (fun x => hb 69 (985 * (h 64 10 - s') + x)) x = h 66 x := fun x x0 x1 => knew x x0 x1
    have r1 : rwk h2 (h 64 10 - s' + 1) = h2 66 := by
      unfold rwk
      rw [if_pos (by omega)]
    rw [nk, nn, nb, r1]
    exact ⟨RW_x V0 r0, sM_x u V0.1 r0 (fun _ _ _ => rfl), ek⟩
theorem Cp.act {h h1 hb h2 : mH} {r : mR} {k n b : Int} (C : Cp h r) (N1 : ntd h h1 k n b) (F1 : fr acC h h1) (T1 : h1 0 12 = 0 ∧ ∀ j, j ≠ 12 → h1 0 j = h 0 j) (Kp : kpd (x_ref h1 0) hb) (F2 : fr [66] hb h2) (m : dM 2 h1 (h2 66)) (V : RW (h 64 11) (h2 66)) (u : sM (h 66) (uR (h2 66) k n b)) (ek : 0 ≤ n ∧ (k = 0 ∨ k = 1 → n < 120) ∧ (k = 2 ∨ k = 3 → n < 10) ∧ (k = 0 ∨ k = 1 ∨ k = 2 ∨ k = 3 ∨ n ≤ h2 66 4)) : Cp h2 r := by
  have L := LG_act C.2.2.2.2.2.2 N1 F1 Kp F2 C.2.2.2.1 u ek
  obtain ⟨f, g, t⟩ := x_ref_e h1 0
  obtain ⟨-, -, kf, kg, -⟩ := Kp
  have c0 : ∀ i, i ∉ [66] → i ∉ [64, 69] → i ∉ [64] → h2 i = h1 i := fun i n1 n2 n3 => (F2 i n1).trans ((kf i n2).trans (f i n3))
  have c64 : ∀ j : Int, j ≠ 10 → h2 64 j = x_ref h1 0 64 j := fun j hj => by rw [F2 64 (by decide)]; exact kg j hj
  have d64 : ∀ j : Int, j ≠ 10 → j ≠ 0 → j ≠ 1 → j ≠ 3 → h2 64 j = h 64 j := fun j hj j0 j1 j3 => by rw [c64 j hj, g j j0 j1 j3, F1 64 (by decide)]
  have m2 : dM 2 h2 (h2 66) := dM_k m (fun i i0 i1 => c0 i (by simp; omega) (by simp; omega) (by simp; omega))
  have t1 : h2 64 1 = 0 := by rw [c64 1 (by decide)]; exact t
  have e0 : h2 0 = h1 0 := c0 0 (by decide) (by decide) (by decide)
  obtain ⟨⟨-, i1, i2, i3, i4⟩, c2, -, -, ⟨c5, c6, c7⟩, ⟨u0, u1, u2, u3⟩, -⟩ := C
  refine ⟨⟨DV_d m2 V.1, ?_, ?_, i3, i4⟩, c2, m2, ?_, ⟨?_, ?_, ?_⟩, ?_, L⟩
  · rw [c0 31 (by decide) (by decide) (by decide), F1 31 (by decide)]; exact i1
  · rw [c0 31 (by decide) (by decide) (by decide), F1 31 (by decide), c0 35 (by decide) (by decide) (by decide), F1 35 (by decide)]; exact i2
  · rw [d64 11 (by decide) (by decide) (by decide) (by decide)]; exact V
  · rw [t1, e0]; exact T1.1.symm
  · rw [d64 2 (by decide) (by decide) (by decide) (by decide), e0, T1.2 13 (by decide)]; exact c6
  · intro z; omega
  · rw [e0, T1.2 1 (by decide), d64 5 (by decide) (by decide) (by decide) (by decide), c0 65 (by decide) (by decide) (by decide), F1 65 (by decide), c0 1 (by decide) (by decide) (by decide), F1 1 (by decide)]
    exact ⟨u0, u1, u2, u3⟩
theorem up_id {R : mF} {p v : Int} (h : v = R p) : up R p v = R := by
  funext j
  by_cases e : j = p
  · subst e; rw [up_s]; exact h
  · exact up_n e
theorem fr_unl {h : mH} {k n w : Int} : fr [2, 3, 4, 10, 12] h (unl h k n w) := by
  unfold unl
  split
  · exact fr.rf.up (by decide)
  · split
    · exact fr.rf.up (by decide)
    · split
      · exact fr.rf.up (by decide)
      · split
        · exact fr.rf.up (by decide)
        · exact fr.rf.up (by decide)
/-- acts that put one number -/
theorem Cp.put {h ha hb h2 : mH} {r : mR} {k n w b p v : Int} (C : Cp h r) (n0 : 0 ≤ n) (hk : (k = 0 ∧ n < 120) ∨ (k = 1 ∧ n < 120 ∧ 0 ≤ w ∧ w ≤ 99) ∨ (k = 2 ∧ n < 10 ∧ 0 ≤ w ∧ w ≤ 99) ∨ (k = 3 ∧ n < 10 ∧ (w = -2 ∨ 0 ≤ w ∧ w ≤ 999))) (N1 : noted h ha k n b) (Kp : kpd (x_ref (hup (unl ha k n w) 0 12 0) 0) hb) (e2 : h2 = hup hb 66 p v) (hp : ∀ R, up R p v = uR R k n w) (ub : uR (uR (h 66) k n w) k n b = h 66) : Cp h2 r := by
  subst e2
  have NF := N1.fr
  obtain ⟨s, s1, f, a27, arow, ak, an, ab⟩ := N1
  have uf : fr [2, 3, 4, 10, 12] ha (unl ha k n w) := fr_unl
  have vf : fr [0] (unl ha k n w) (hup (unl ha k n w) 0 12 0) := fr.rf.up (by decide)
  have gg : ∀ i, i ∉ [27, 28, 29, 30] → i ∉ [2, 3, 4, 10, 12] → i ∉ [0] → hup (unl ha k n w) 0 12 0 i = h i := fun i n1 n2 n3 => (vf i n3).trans ((uf i n2).trans (NF i n1))
  have g27 : ∀ i, i ∉ [2, 3, 4, 10, 12] → i ∉ [0] → hup (unl ha k n w) 0 12 0 i = ha i := fun i n2 n3 => (vf i n3).trans (uf i n2)
  have F1 : fr acC h (hup (unl ha k n w) 0 12 0) := ((NF.mono (by decide)).trans uf (by decide)).trans vf (by decide)
  have hb66 : hb 66 = h 66 := by
    obtain ⟨-, -, kf, -⟩ := Kp
    rw [kf 66 (by decide), (x_ref_e _ 0).1 66 (by decide), F1 66 (by decide)]
  have row : hup hb 66 p v 66 = uR (h 66) k n w := by rw [hup_up, hp, hb66]
  have ma : dM 2 ha (h 66) := dM_k C.2.2.1 (fun i i0 i1 => NF i (by simp; omega))
  have V := C.2.2.2.1
  obtain ⟨V1, V2, V3⟩ := RV_un (k := k) (n := n) (w := w) V.1 n0 (by omega)
  refine C.act (h1 := hup (unl ha k n w) 0 12 0) (hb := hb) (k := k) (n := n) (b := b) ⟨s, s1, ?_, ?_, ?_, ?_, ?_⟩ F1 ⟨hup_s, fun j hj => ?_⟩ Kp (fr.rf.up (by decide)) ?_ ?_ ?_ ?_
  · rw [g27 27 (by decide) (by decide)]; exact a27
  · intro a ha' j j0 j1
    rw [g27 a (by simp; omega) (by simp; omega)]
    exact arow a ha' j j0 j1
  · rw [g27 28 (by decide) (by decide)]; exact ak
  · rw [g27 29 (by decide) (by decide)]; exact an
  · rw [g27 30 (by decide) (by decide)]; exact ab
  · rw [hup_j hj, uf 0 (by decide), NF 0 (by decide)]
  · rw [row]
    exact dM_k (dM_un (k := k) (n := n) (w := w) ma V.1 n0 (by omega) (by omega)) (fun i i0 i1 => vf i (by simp; omega))
  · rw [row]
    exact ⟨V1, by rw [V2, V3]; exact V.2⟩
  · rw [row, ub]; exact sM.rf
  · omega

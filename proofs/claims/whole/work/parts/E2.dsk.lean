/-! THE COUPLING: desk -/
theorem LG_k2 {h h1 : mH} (L : LG h) (e : ∀ i, i = 28 ∨ i = 29 ∨ i = 30 ∨ i = 66 ∨ i = 69 → h1 i = h i) (e27 : h1 27 0 = h 27 0) (a : h1 64 10 = h 64 10) (b : h1 64 11 = h 64 11) : LG h1 := by
  unfold LG rwk enK at *
  rw [e27, e 28 (by omega), e 29 (by omega), e 30 (by omega), e 66 (by omega), e 69 (by omega), a, b]
  exact L
theorem dM_sw {h : mH} {R : mF} (m : dM 13 h R) : dM 2 (swH h) R := m
theorem two_desk (n : Int) {h : mH} {r : mR} (C : Cp h r) : Two m_Lt_desk (rm 12) m_Mo_desk (rm 12) [vI n] h r := by
  obtain ⟨⟨i0, i1, i2, i3, nw, fw, iB⟩, c2, c3, c4, ⟨c5, c6, c7⟩, ⟨u0, u1, u2, u3⟩, L⟩ := id C
  refine ⟨_, Lt_desk_ok n h r ⟨u0, u1⟩ i3 c2, ?_⟩
  rintro rv h1 r1 (⟨z, rfl, rfl, rfl⟩ | ⟨z, f, ⟨d1, d13, d14⟩, dz⟩)
  · refine ⟨_, Mo_desk_ok (h 1) n _ r1 (by rw [hup_i (by decide), u2]; exact ⟨u0, u1⟩) (by rw [hup_i (by decide), u2, hup_ne (by decide)]; exact u3), ?_⟩
    rintro rv h2 r2 ⟨rfl, ⟨y, rfl, rfl⟩ | ⟨y, -⟩⟩
    · exact ⟨-1, rfl, rfl, Or.inl (C.ref (by decide))⟩
    · rw [hup_i (by decide), u2] at y
      exact absurd y z
  · have e64 : h1 64 = h 64 := f 64 (by decide)
    have e65 : h1 65 = h 65 := f 65 (by decide)
    refine ⟨_, Mo_desk_ok (h 1) n h1 r1 (by rw [e64, u2]; exact ⟨u0, u1⟩) (by rw [e64, u2, e65]; exact u3), ?_⟩
    generalize pRd (h 1) n = zz at *
    rintro rv' h2 r2 ⟨rfl, ⟨y, -⟩ | ⟨-, g, g5, g0, gz⟩⟩
    · rw [e64, u2] at y
      exact absurd z y
    have k0 : ∀ i, i ∉ dkK → h2 i = h1 i := fun i hi => g.1 i hi
    have k69 : h2 69 = h 69 := (k0 69 (by decide)).trans (f 69 (by decide))
    rcases dz with ⟨z0, rfl, t12, t27, rfl⟩ | ⟨z0, rfl, t12, t27, rfl, m, V, R1⟩
    · rcases gz with ⟨-, rfl, s1, s2, s3, s66, s11, s10⟩ | ⟨y, -⟩
      · refine ⟨-1, rfl, rfl, Or.inl ?_⟩
        have I0 : IQ h (rup r 24 4 (some 13)) := ⟨i0, i1, i2, (rup_o (by omega)).trans i3, nw, fw, iB.1, (rup_o (by omega)).trans iB.2.1, (rup_o (by omega)).trans iB.2.2⟩
        have I : IQ h2 (rup r 24 4 (some 13)) := (I0.fr f (by decide)).fr g.1 (by decide)
        have e66 : h2 66 = h 66 := s66.trans (f 66 (by decide))
        refine ⟨I, (rup_o (by omega)).trans c2, ?_, ?_, ⟨?_, ?_, ?_⟩, ?_, LG_k2 L (fun i hi => ?_) ?_ ?_ ?_⟩
        · rw [e66]
          exact dM_k c3 (fun i i0 i1 => (k0 i (by simp; omega)).trans (f i (by simp; omega)))
        · rw [e66, s11, e64]; exact c4
        · rw [s1, k0 0 (by decide)]; exact t12.symm
        · rw [s2, k0 0 (by decide)]; exact d13.symm
        · intro _
          rw [s3, k0 0 (by decide)]; exact d14.symm
        · rw [k0 0 (by decide), d1, g5]
          exact ⟨by decide, by decide, rfl, fun j j0 j1 => by omega⟩
        · rcases hi with rfl | rfl | rfl | rfl | rfl
          · exact (k0 28 (by decide)).trans (f 28 (by decide))
          · exact (k0 29 (by decide)).trans (f 29 (by decide))
          · exact (k0 30 (by decide)).trans (f 30 (by decide))
          · exact e66
          · exact k69
        · rw [k0 27 (by decide)]; exact t27
        · rw [s10, e64]
        · rw [s11, e64]
      · exact absurd y z0
    · rcases gz with ⟨y, -⟩ | ⟨-, rfl, s1, s2, ee, -, -, s11, s10⟩
      · exact absurd z0 y
      · have R0 : 0 < zz.2.2.1 0 := by
          have a := V.1
          have b := V.2.2.2.2.2.1
          omega
        have e4 := ee.n
        have m2 : dM 13 h2 (h2 66) := dM_e (by
          have q : ∀ i, 13 ≤ i → i ≤ 23 → h2 i = h1 i := fun i a b => k0 i (by simp; omega)
          unfold dM at *
          rw [q 13 (by decide) (by decide), q (13 + 1) (by decide) (by decide), q (13 + 2) (by decide) (by decide), q (13 + 3) (by decide) (by decide), q (13 + 4) (by decide) (by decide), q (13 + 5) (by decide) (by decide), q (13 + 6) (by decide) (by decide), q (13 + 7) (by decide) (by decide), q (13 + 8) (by decide) (by decide), q (13 + 9) (by decide) (by decide), q (13 + 10) (by decide) (by decide)]
          exact m) ee R0
        have V2 : RV (h2 66) := RV_e V ee R0
        have M : dM 2 (swH h2) (h2 66) := dM_sw m2
        refine ⟨zz.2.2.1 4, rfl, by rw [e4.2.2.2], Or.inr ⟨⟨DV_d M V2, ?_, ?_, rfl, nw, fw, iB.1, ?_, ?_⟩, rfl, M, ?_, ⟨?_, ?_, ?_⟩, ?_, ?_, ?_, ?_⟩⟩
        · show 0 ≤ h2 31 0 ∧ h2 31 0 ≤ 120
          rw [k0 31 (by decide), f 31 (by decide)]; exact i1
        · show Pm (h2 35) (h2 31 0)
          rw [k0 31 (by decide), f 31 (by decide), k0 35 (by decide), f 35 (by decide)]; exact i2
        · show ((rD r).1 58 4).map sg = some nw
          rw [rup_o (by omega), rup_o (by omega), rup_o (by omega), iB.2.1]
          rcases iB.1 with ⟨rfl, rfl⟩ | ⟨rfl, rfl⟩ <;> rfl
        · show ((rD r).1 58 5).map sg = some fw
          rw [rup_o (by omega), rup_o (by omega), rup_o (by omega), iB.2.2]
          rcases iB.1 with ⟨rfl, rfl⟩ | ⟨rfl, rfl⟩ <;> rfl
        · show RW (h2 64 11) (h2 66)
          exact ⟨V2, Or.inl ⟨s11, by rw [e4.1]; exact R1⟩⟩
        · show h2 64 1 = h2 0 12
          rw [s1, k0 0 (by decide)]; exact t12.symm
        · show h2 64 2 = h2 0 13
          rw [s2, k0 0 (by decide), d13]; exact z0.symm
        · show h2 64 1 = 4 → _
          intro y; omega
        · show 0 ≤ h2 0 1 ∧ h2 0 1 ≤ 900 ∧ h2 64 5 = h2 0 1 ∧ _
          rw [k0 0 (by decide), d1, g5]
          refine ⟨by decide, by decide, rfl, fun j j0 j1 => ?_⟩
          have j1' : j < h2 0 1 := j1
          rw [k0 0 (by decide), d1] at j1'
          omega
        · show 0 ≤ h2 64 10 ∧ h2 64 10 ≤ 10
          rw [s10]; decide
        · show h2 27 0 = h2 64 10
          rw [s10, k0 27 (by decide)]; exact t27
        · intro j j0 j1
          have j1' : j < h2 64 10 := j1
          rw [s10] at j1'
          omega

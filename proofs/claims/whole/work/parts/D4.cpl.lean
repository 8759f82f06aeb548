/-! The two sides hold the same -/
theorem rT_d {h : mH} {R : mF} (m : dM 2 h R) : rT R (dN h 0) := by
  obtain ⟨x0, x1, x2, x3, x4, xs, xd⟩ := m
  refine ⟨x4.symm, x1.symm, fun d hd => ?_, fun s s0 s1 => ?_⟩
  · have d1 : d < h 2 4 := hd.2
    obtain ⟨y3, y4, y5, y6, y7, y8, y9, y10⟩ := xd d hd.1 (by omega)
    refine ⟨?_, ?_, y4.symm, y5.symm, ?_, ?_⟩
    · show _ = h 8 d + (if (0 : Int) = 0 then h 10 d else 0)
      rw [if_pos rfl]
      have a : h 8 d = R (25 + 8 * d + 3) := y6
      have b : h 10 d = R (25 + 8 * d + 5) := y8
      omega
    · show h 8 d + (if (0 : Int) = 0 then h 10 d else 0) + _ = h 8 d + (if (0 : Int) = 0 then h 10 d else 0) + h 9 d
      have a : h 9 d = R (25 + 8 * d + 4) := y7
      rw [a]
    · rw [Int.add_zero]; exact y3.symm
    · show _ = (if (0 : Int) = 0 then 1 - h 12 d else 1)
      rw [if_pos rfl]
      have a : h 12 d = 1 - R (25 + 8 * d + 6) := y10
      omega
  · have s1' : s < h 2 1 := s1
    obtain ⟨a, b⟩ := xs s s0 (by omega)
    exact ⟨a.symm, b.symm⟩
theorem asT_d {h : mH} {R : mF} (m : dM 2 h R) : asT R (dN h 1) := by
  obtain ⟨x0, x1, x2, x3, x4, xs, xd⟩ := m
  refine ⟨x4.symm, x1.symm, fun d hd => ?_, fun s s0 s1 => ?_⟩
  · have d1 : d < h 2 4 := hd.2
    obtain ⟨y3, y4, y5, y6, y7, y8, y9, y10⟩ := xd d hd.1 (by omega)
    refine ⟨?_, ?_, y4.symm, y5.symm, ?_, ?_⟩
    · show _ = h 8 d + (if (1 : Int) = 0 then h 10 d else 0)
      rw [if_neg (by decide)]
      have a : h 8 d = R (25 + 8 * d + 3) := y6
      omega
    · show h 8 d + (if (1 : Int) = 0 then h 10 d else 0) + _ = h 8 d + (if (1 : Int) = 0 then h 10 d else 0) + h 9 d
      have a : h 9 d = R (25 + 8 * d + 4) := y7
      rw [a]
    · rw [Int.add_zero]; exact y3.symm
    · show (if (1 : Int) = 0 then 1 - h 12 d else 1) = 1
      rw [if_neg (by decide)]
  · have s1' : s < h 2 1 := s1
    obtain ⟨a, b⟩ := xs s s0 (by omega)
    exact ⟨a.symm, b.symm⟩
/-- a desk that a valid row tells is valid -/
theorem DV_d {h : mH} {R : mF} (m : dM 2 h R) (V : RV R) : DV h := by
  obtain ⟨x0, x1, x2, x3, x4, xs, xd⟩ := m
  obtain ⟨v0, v1, v2, v3, v4, -, vs, vd⟩ := V
  refine ⟨by omega, by omega, fun d d0 d1 => ?_, fun s s0 s1 => ?_, by omega, by omega, by omega⟩
  · obtain ⟨y3, y4, y5, y6, y7, y8, y9, y10⟩ := xd d d0 (by omega)
    have w := vd d d0 (by omega)
    unfold dOK at w
    have a5 : h 5 d = R (25 + 8 * d) := y3
    have a6 : h 6 d = R (25 + 8 * d + 1) := y4
    have a7 : h 7 d = R (25 + 8 * d + 2) := y5
    have a8 : h 8 d = R (25 + 8 * d + 3) := y6
    have a9 : h 9 d = R (25 + 8 * d + 4) := y7
    have a10 : h 10 d = R (25 + 8 * d + 5) := y8
    have a12 : h 12 d = 1 - R (25 + 8 * d + 6) := y10
    rw [a5, a6, a7, a8, a9, a10, a12, x1, x2]
    omega
  · obtain ⟨a, b⟩ := xs s s0 (by omega)
    have a3 : h 3 s = R (5 + s) := a
    have a4 : h 4 s = R (15 + s) := b
    rw [a3, a4]
    exact vs s s0 (by omega)
theorem isM_d {h : mH} (m : dM 2 h (h 66)) (V : RV (h 66)) : isM h (dN h 0) := ⟨dN_V (DV_d m V) 0, rT_d m⟩

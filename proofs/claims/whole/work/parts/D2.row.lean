/-! Rows that tell the same -/
theorem eM.s {A R : mF} (e : eM A R) {s : Int} (s0 : 0 ≤ s) (s1 : s < R 1) : A (5 + s) = R (5 + s) ∧ A (15 + s) = R (15 + s) := ⟨e.2 _ (Or.inr (Or.inl ⟨by omega, by omega⟩)), e.2 _ (Or.inr (Or.inr (Or.inl ⟨by omega, by omega⟩)))⟩
theorem eM.d {A R : mF} (e : eM A R) {d k : Int} (d0 : 0 ≤ d) (d1 : d < R 4) (k0 : 0 ≤ k) (k1 : k ≤ 7) : A (25 + 8 * d + k) = R (25 + 8 * d + k) := e.2 _ (Or.inr (Or.inr (Or.inr ⟨by omega, by omega⟩)))
theorem eM.d0 {A R : mF} (e : eM A R) {d : Int} (d0 : 0 ≤ d) (d1 : d < R 4) : A (25 + 8 * d) = R (25 + 8 * d) := e.2 _ (Or.inr (Or.inr (Or.inr ⟨by omega, by omega⟩)))
theorem dM_e {i : Nat} {h : mH} {A R : mF} (m : dM i h R) (e : eM A R) (z : 0 < R 0) : dM i h A := by
  obtain ⟨a1, a2, a3, a4⟩ := e.n
  obtain ⟨x0, x1, x2, x3, x4, xs, xd⟩ := m
  refine ⟨x0.trans (e.1 z).symm, x1.trans a1.symm, x2.trans a2.symm, x3.trans a3.symm, x4.trans a4.symm, fun s s0 s1 => ?_, fun d d0 d1 => ?_⟩
  · rw [a1] at s1
    rw [(e.s s0 s1).1, (e.s s0 s1).2]
    exact xs s s0 s1
  · rw [a4] at d1
    rw [e.d0 d0 d1, e.d d0 d1 (k := 1) (by decide) (by decide), e.d d0 d1 (k := 2) (by decide) (by decide), e.d d0 d1 (k := 3) (by decide) (by decide), e.d d0 d1 (k := 4) (by decide) (by decide), e.d d0 d1 (k := 5) (by decide) (by decide), e.d d0 d1 (k := 6) (by decide) (by decide), e.d d0 d1 (k := 7) (by decide) (by decide)]
    exact xd d d0 d1
theorem RV_e {A R : mF} (V : RV R) (e : eM A R) (z : 0 < R 0) : RV A := by
  obtain ⟨a1, a2, a3, a4⟩ := e.n
  have a0 := e.1 z
  obtain ⟨x0, x1, x2, x3, x4, xz, xs, xd⟩ := V
  refine ⟨by rw [a0]; exact x0, by rw [a1]; exact x1, by rw [a2]; exact x2, by rw [a3]; exact x3, by rw [a4]; exact x4, fun y => by omega, fun s s0 s1 => ?_, fun d d0 d1 => ?_⟩
  · rw [a1] at s1
    rw [(e.s s0 s1).1, (e.s s0 s1).2]
    exact xs s s0 s1
  · rw [a4] at d1
    have y := xd d d0 d1
    unfold dOK at *
    rw [a1, a2, e.d0 d0 d1, e.d d0 d1 (k := 1) (by decide) (by decide), e.d d0 d1 (k := 2) (by decide) (by decide), e.d d0 d1 (k := 3) (by decide) (by decide), e.d d0 d1 (k := 4) (by decide) (by decide), e.d d0 d1 (k := 5) (by decide) (by decide), e.d d0 d1 (k := 6) (by decide) (by decide)]
    exact y

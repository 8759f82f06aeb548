/-! THE COUPLING: what holds between the class and the reference between two calls -/
/-- a valid row; t: a desk has been told -/
def RW (t : Int) (R : mF) : Prop := RV R ∧ (t = 1 ∧ 0 < R 1 ∨ t = 0 ∧ R 1 = 0 ∧ R 4 = 0)
/-- a row behind one undoing -/
def uR (R : mF) (k n w : Int) : mF := if k = 0 then up R (25 + 8 * n + 6) (if w = 1 then 0 else 1) else if k = 1 then up R (25 + 8 * n + 5) w else if k = 2 then up R (5 + n) w else if k = 3 then up R (15 + n) w else up R 4 n
/-- R tells all that A tells -/
def sM (A R : mF) : Prop := A 0 = R 0 ∧ ∀ j, lvR A j → R j = A j
theorem sM.rf {A : mF} : sM A A := ⟨rfl, fun _ _ => rfl⟩
/-- the rows kept, and the row in force behind them -/
def rwk (h : mH) (j : Int) : mF := if j = h 64 10 then h 66 else fun x => h 69 (985 * j + x)
def enK (h : mH) (j : Int) (R : mF) : Prop := 0 ≤ h 29 j ∧ (h 28 j = 0 ∨ h 28 j = 1 → h 29 j < 120) ∧ (h 28 j = 2 ∨ h 28 j = 3 → h 29 j < 10) ∧ (h 28 j = 0 ∨ h 28 j = 1 ∨ h 28 j = 2 ∨ h 28 j = 3 ∨ h 29 j ≤ R 4)
def LG (h : mH) : Prop := (0 ≤ h 64 10 ∧ h 64 10 ≤ 10) ∧ h 27 0 = h 64 10 ∧ ∀ j, 0 ≤ j → j < h 64 10 → RW (h 64 11) (fun x => h 69 (985 * j + x)) ∧ sM (fun x => h 69 (985 * j + x)) (uR (rwk h (j + 1)) (h 28 j) (h 29 j) (h 30 j)) ∧ enK h j (rwk h (j + 1))
def Cp (h : mH) (r : mR) : Prop := IQ h r ∧ r.1 0 3 = some 13 ∧ dM 2 h (h 66) ∧ RW (h 64 11) (h 66) ∧ (h 64 1 = h 0 12 ∧ h 64 2 = h 0 13 ∧ (h 64 1 = 4 → h 64 3 = h 0 14)) ∧ (0 ≤ h 0 1 ∧ h 0 1 ≤ 900 ∧ h 64 5 = h 0 1 ∧ ∀ j, 0 ≤ j → j < h 0 1 → 0 ≤ h 65 j ∧ bq (h 1 j) (h 65 j)) ∧ LG h
theorem LG.ok {h : mH} (L : LG h) : lgOK h := ⟨by rw [L.2.1]; exact L.1, fun j j0 j1 => by
  rw [L.2.1] at j1
  obtain ⟨-, -, a, b, c, -⟩ := L.2.2 j j0 j1
  exact ⟨a, b, c⟩⟩
/-- rows alike on their places -/
theorem RV_x {A R : mF} (V : RV R) (e : ∀ x, 0 ≤ x → x < 985 → A x = R x) : RV A := by
  obtain ⟨x0, x1, x2, x3, x4, xz, xs, xd⟩ := V
  have a0 := e 0 (by decide) (by decide)
  have a1 := e 1 (by decide) (by decide)
  have a2 := e 2 (by decide) (by decide)
  have a3 := e 3 (by decide) (by decide)
  have a4 := e 4 (by decide) (by decide)
  refine ⟨by rw [a0]; exact x0, by rw [a1]; exact x1, by rw [a2]; exact x2, by rw [a3]; exact x3, by rw [a4]; exact x4, fun y => by omega, fun s s0 s1 => ?_, fun d d0 d1 => ?_⟩
  · rw [a1] at s1
    rw [e (5 + s) (by omega) (by omega), e (15 + s) (by omega) (by omega)]
    exact xs s s0 s1
  · rw [a4] at d1
    have y := xd d d0 d1
    unfold dOK at *
    rw [a1, a2, e (25 + 8 * d) (by omega) (by omega), e (25 + 8 * d + 1) (by omega) (by omega), e (25 + 8 * d + 2) (by omega) (by omega), e (25 + 8 * d + 3) (by omega) (by omega), e (25 + 8 * d + 4) (by omega) (by omega), e (25 + 8 * d + 5) (by omega) (by omega), e (25 + 8 * d + 6) (by omega) (by omega)]
    exact y
theorem RW_x {t : Int} {A R : mF} (V : RW t R) (e : ∀ x, 0 ≤ x → x < 985 → A x = R x) : RW t A := ⟨RV_x V.1 e, by
  rw [e 1 (by decide) (by decide), e 4 (by decide) (by decide)]; exact V.2⟩
theorem lvR_b {R : mF} (V : RV R) {j : Int} (h : lvR R j) : 0 ≤ j ∧ j < 985 := by
  obtain ⟨x0, x1, x2, x3, x4, -⟩ := V
  unfold lvR at h
  omega
theorem lvR_x {A R : mF} (e : ∀ x, 0 ≤ x → x < 985 → A x = R x) {j : Int} : lvR A j ↔ lvR R j := by
  unfold lvR
  rw [e 1 (by decide) (by decide), e 4 (by decide) (by decide)]
theorem uR_x {A R : mF} {k n w : Int} (e : ∀ x, 0 ≤ x → x < 985 → A x = R x) : ∀ x, 0 ≤ x → x < 985 → uR A k n w x = uR R k n w x := by
  intro x x0 x1
  unfold uR
  split
  · exact up_c (fun _ => e x x0 x1)
  · split
    · exact up_c (fun _ => e x x0 x1)
    · split
      · exact up_c (fun _ => e x x0 x1)
      · split
        · exact up_c (fun _ => e x x0 x1)
        · exact up_c (fun _ => e x x0 x1)
theorem sM_x {A R A' R' : mF} (h : sM A R) (V : RV A) (eA : ∀ x, 0 ≤ x → x < 985 → A' x = A x) (eR : ∀ x, 0 ≤ x → x < 985 → R' x = R x) : sM A' R' := by
  refine ⟨by rw [eA 0 (by decide) (by decide), eR 0 (by decide) (by decide)]; exact h.1, fun j hj => ?_⟩
  have hj' := (lvR_x eA).1 hj
  obtain ⟨j0, j1⟩ := lvR_b V hj'
  rw [eA j j0 j1, eR j j0 j1]
  exact h.2 j hj'
/-- a desk that R tells, behind one undoing -/
theorem dM_un {h : mH} {R : mF} {k n w : Int} (m : dM 2 h R) (V : RV R) (n0 : 0 ≤ n) (n2 : k = 2 ∨ k = 3 → n < 10) (n4 : k = 0 ∨ k = 1 ∨ k = 2 ∨ k = 3 ∨ n ≤ R 4) : dM 2 (unl h k n w) (uR R k n w) := by
  obtain ⟨x0, x1, x2, x3, x4, xs, xd⟩ := m
  obtain ⟨-, v1, v2, v3, v4, -, -, -⟩ := V
  unfold unl uR
  by_cases k0 : k = 0
  · rw [if_pos k0, if_pos k0]
    refine ⟨by rw [hup_i (by decide), up_n (by omega)]; exact x0, by rw [hup_i (by decide), up_n (by omega)]; exact x1, by rw [hup_i (by decide), up_n (by omega)]; exact x2, by rw [hup_i (by decide), up_n (by omega)]; exact x3, by rw [hup_i (by decide), up_n (by omega)]; exact x4, fun s s0 s1 => ?_, fun d d0 d1 => ?_⟩
    · rw [up_n (by omega)] at s1
      rw [hup_i (by decide), hup_i (by decide), up_n (by omega), up_n (by omega)]
      exact xs s s0 s1
    · rw [up_n (by omega)] at d1
      obtain ⟨y3, y4, y5, y6, y7, y8, y9, y10⟩ := xd d d0 d1
      refine ⟨by rw [hup_i (by decide), up_n (by omega)]; exact y3, by rw [hup_i (by decide), up_n (by omega)]; exact y4, by rw [hup_i (by decide), up_n (by omega)]; exact y5, by rw [hup_i (by decide), up_n (by omega)]; exact y6, by rw [hup_i (by decide), up_n (by omega)]; exact y7, by rw [hup_i (by decide), up_n (by omega)]; exact y8, by rw [hup_i (by decide), up_n (by omega)]; exact y9, ?_⟩
      by_cases e : d = n
      · subst e
        show hup h 12 d (if w = 1 then 1 else 0) 12 d = 1 - up R (25 + 8 * d + 6) (if w = 1 then 0 else 1) (25 + 8 * d + 6)
        rw [hup_s, up_s]
        split <;> rfl
      · rw [hup_j e, up_n (by omega)]; exact y10
  · rw [if_neg k0, if_neg k0]
    by_cases k1 : k = 1
    · rw [if_pos k1, if_pos k1]
      refine ⟨by rw [hup_i (by decide), up_n (by omega)]; exact x0, by rw [hup_i (by decide), up_n (by omega)]; exact x1, by rw [hup_i (by decide), up_n (by omega)]; exact x2, by rw [hup_i (by decide), up_n (by omega)]; exact x3, by rw [hup_i (by decide), up_n (by omega)]; exact x4, fun s s0 s1 => ?_, fun d d0 d1 => ?_⟩
      · rw [up_n (by omega)] at s1
        rw [hup_i (by decide), hup_i (by decide), up_n (by omega), up_n (by omega)]
        exact xs s s0 s1
      · rw [up_n (by omega)] at d1
        obtain ⟨y3, y4, y5, y6, y7, y8, y9, y10⟩ := xd d d0 d1
        refine ⟨by rw [hup_i (by decide), up_n (by omega)]; exact y3, by rw [hup_i (by decide), up_n (by omega)]; exact y4, by rw [hup_i (by decide), up_n (by omega)]; exact y5, by rw [hup_i (by decide), up_n (by omega)]; exact y6, by rw [hup_i (by decide), up_n (by omega)]; exact y7, ?_, by rw [hup_i (by decide), up_n (by omega)]; exact y9, by rw [hup_i (by decide), up_n (by omega)]; exact y10⟩
        by_cases e : d = n
        · subst e
          show hup h 10 d w 10 d = up R (25 + 8 * d + 5) w (25 + 8 * d + 5)
          rw [hup_s, up_s]
        · rw [hup_j e, up_n (by omega)]; exact y8
    · rw [if_neg k1, if_neg k1]
      by_cases k2 : k = 2
      · have n9 := n2 (Or.inl k2)
        rw [if_pos k2, if_pos k2]
        refine ⟨by rw [hup_i (by decide), up_n (by omega)]; exact x0, by rw [hup_i (by decide), up_n (by omega)]; exact x1, by rw [hup_i (by decide), up_n (by omega)]; exact x2, by rw [hup_i (by decide), up_n (by omega)]; exact x3, by rw [hup_i (by decide), up_n (by omega)]; exact x4, fun s s0 s1 => ?_, fun d d0 d1 => ?_⟩
        · rw [up_n (by omega)] at s1
          obtain ⟨a, b⟩ := xs s s0 s1
          refine ⟨?_, by rw [hup_i (by decide), up_n (by omega)]; exact b⟩
          by_cases e : s = n
          · subst e
            show hup h 3 s w 3 s = up R (5 + s) w (5 + s)
            rw [hup_s, up_s]
          · rw [hup_j e, up_n (by omega)]; exact a
        · rw [up_n (by omega)] at d1
          obtain ⟨y3, y4, y5, y6, y7, y8, y9, y10⟩ := xd d d0 d1
          exact ⟨by rw [hup_i (by decide), up_n (by omega)]; exact y3, by rw [hup_i (by decide), up_n (by omega)]; exact y4, by rw [hup_i (by decide), up_n (by omega)]; exact y5, by rw [hup_i (by decide), up_n (by omega)]; exact y6, by rw [hup_i (by decide), up_n (by omega)]; exact y7, by rw [hup_i (by decide), up_n (by omega)]; exact y8, by rw [hup_i (by decide), up_n (by omega)]; exact y9, by rw [hup_i (by decide), up_n (by omega)]; exact y10⟩
      · rw [if_neg k2, if_neg k2]
        by_cases k3 : k = 3
        · have n9 := n2 (Or.inr k3)
          rw [if_pos k3, if_pos k3]
          refine ⟨by rw [hup_i (by decide), up_n (by omega)]; exact x0, by rw [hup_i (by decide), up_n (by omega)]; exact x1, by rw [hup_i (by decide), up_n (by omega)]; exact x2, by rw [hup_i (by decide), up_n (by omega)]; exact x3, by rw [hup_i (by decide), up_n (by omega)]; exact x4, fun s s0 s1 => ?_, fun d d0 d1 => ?_⟩
          · rw [up_n (by omega)] at s1
            obtain ⟨a, b⟩ := xs s s0 s1
            refine ⟨by rw [hup_i (by decide), up_n (by omega)]; exact a, ?_⟩
            by_cases e : s = n
            · subst e
              show hup h 4 s w 4 s = up R (15 + s) w (15 + s)
              rw [hup_s, up_s]
            · rw [hup_j e, up_n (by omega)]; exact b
          · rw [up_n (by omega)] at d1
            obtain ⟨y3, y4, y5, y6, y7, y8, y9, y10⟩ := xd d d0 d1
            exact ⟨by rw [hup_i (by decide), up_n (by omega)]; exact y3, by rw [hup_i (by decide), up_n (by omega)]; exact y4, by rw [hup_i (by decide), up_n (by omega)]; exact y5, by rw [hup_i (by decide), up_n (by omega)]; exact y6, by rw [hup_i (by decide), up_n (by omega)]; exact y7, by rw [hup_i (by decide), up_n (by omega)]; exact y8, by rw [hup_i (by decide), up_n (by omega)]; exact y9, by rw [hup_i (by decide), up_n (by omega)]; exact y10⟩
        · have n9 : n ≤ R 4 := by omega
          rw [if_neg k3, if_neg k3]
          refine ⟨by rw [hup_j (by decide), up_n (by omega)]; exact x0, by rw [hup_j (by decide), up_n (by omega)]; exact x1, by rw [hup_j (by decide), up_n (by omega)]; exact x2, by rw [hup_j (by decide), up_n (by omega)]; exact x3, by rw [hup_s, up_s], fun s s0 s1 => ?_, fun d d0 d1 => ?_⟩
          · rw [up_n (by omega)] at s1
            rw [hup_i (by decide), hup_i (by decide), up_n (by omega), up_n (by omega)]
            exact xs s s0 s1
          · rw [up_s] at d1
            obtain ⟨y3, y4, y5, y6, y7, y8, y9, y10⟩ := xd d d0 (by omega)
            exact ⟨by rw [hup_i (by decide), up_n (by omega)]; exact y3, by rw [hup_i (by decide), up_n (by omega)]; exact y4, by rw [hup_i (by decide), up_n (by omega)]; exact y5, by rw [hup_i (by decide), up_n (by omega)]; exact y6, by rw [hup_i (by decide), up_n (by omega)]; exact y7, by rw [hup_i (by decide), up_n (by omega)]; exact y8, by rw [hup_i (by decide), up_n (by omega)]; exact y9, by rw [hup_i (by decide), up_n (by omega)]; exact y10⟩
/-- a row stays valid under a change that is allowed -/
theorem RV_un {R : mF} {k n w : Int} (V : RV R) (n0 : 0 ≤ n) (hk : k = 0 ∨ (k = 1 ∧ 0 ≤ w ∧ w ≤ 99) ∨ (k = 2 ∧ n < 10 ∧ 0 ≤ w ∧ w ≤ 99) ∨ (k = 3 ∧ n < 10 ∧ (w = -2 ∨ 0 ≤ w ∧ w ≤ 999))) : RV (uR R k n w) ∧ uR R k n w 1 = R 1 ∧ uR R k n w 4 = R 4 := by
  obtain ⟨x0, x1, x2, x3, x4, xz, xs, xd⟩ := V
  unfold uR
  rcases hk with rfl | ⟨rfl, w0, w1⟩ | ⟨rfl, n1, w0, w1⟩ | ⟨rfl, n1, w0⟩
  · rw [if_pos rfl]
    refine ⟨⟨by rw [up_n (by omega)]; exact x0, by rw [up_n (by omega)]; exact x1, by rw [up_n (by omega)]; exact x2, by rw [up_n (by omega)]; exact x3, by rw [up_n (by omega)]; exact x4, fun z => by rw [up_n (by omega)] at z; rw [up_n (by omega), up_n (by omega), up_n (by omega), up_n (by omega)]; exact xz z, fun s s0 s1 => ?_, fun d d0 d1 => ?_⟩, up_n (by omega), up_n (by omega)⟩
    · rw [up_n (by omega)] at s1
      rw [up_n (by omega), up_n (by omega)]; exact xs s s0 s1
    · rw [up_n (by omega)] at d1
      have y := xd d d0 d1
      unfold dOK at *
      rw [up_n (j := 25 + 8 * d) (by omega), up_n (j := 25 + 8 * d + 1) (by omega), up_n (j := 25 + 8 * d + 2) (by omega), up_n (j := 25 + 8 * d + 3) (by omega), up_n (j := 25 + 8 * d + 4) (by omega), up_n (j := 25 + 8 * d + 5) (by omega), up_n (j := 1) (by omega), up_n (j := 2) (by omega)]
      refine ⟨y.1, y.2.1, y.2.2.1, y.2.2.2.1, y.2.2.2.2.1, y.2.2.2.2.2.1, y.2.2.2.2.2.2.1, ?_⟩
      by_cases e : d = n
      · subst e; rw [up_s]; split
        · exact Or.inl rfl
        · exact Or.inr rfl
      · rw [up_n (by omega)]; exact y.2.2.2.2.2.2.2
  · rw [if_neg (by decide), if_pos rfl]
    refine ⟨⟨by rw [up_n (by omega)]; exact x0, by rw [up_n (by omega)]; exact x1, by rw [up_n (by omega)]; exact x2, by rw [up_n (by omega)]; exact x3, by rw [up_n (by omega)]; exact x4, fun z => by rw [up_n (by omega)] at z; rw [up_n (by omega), up_n (by omega), up_n (by omega), up_n (by omega)]; exact xz z, fun s s0 s1 => ?_, fun d d0 d1 => ?_⟩, up_n (by omega), up_n (by omega)⟩
    · rw [up_n (by omega)] at s1
      rw [up_n (by omega), up_n (by omega)]; exact xs s s0 s1
    · rw [up_n (by omega)] at d1
      have y := xd d d0 d1
      unfold dOK at *
      rw [up_n (j := 25 + 8 * d) (by omega), up_n (j := 25 + 8 * d + 1) (by omega), up_n (j := 25 + 8 * d + 2) (by omega), up_n (j := 25 + 8 * d + 3) (by omega), up_n (j := 25 + 8 * d + 4) (by omega), up_n (j := 25 + 8 * d + 6) (by omega), up_n (j := 1) (by omega), up_n (j := 2) (by omega)]
      refine ⟨y.1, y.2.1, y.2.2.1, y.2.2.2.1, y.2.2.2.2.1, y.2.2.2.2.2.1, ?_, y.2.2.2.2.2.2.2⟩
      by_cases e : d = n
      · subst e; rw [up_s]; exact ⟨w0, w1⟩
      · rw [up_n (by omega)]; exact y.2.2.2.2.2.2.1
  · rw [if_neg (by decide), if_neg (by decide), if_pos rfl]
    refine ⟨⟨by rw [up_n (by omega)]; exact x0, by rw [up_n (by omega)]; exact x1, by rw [up_n (by omega)]; exact x2, by rw [up_n (by omega)]; exact x3, by rw [up_n (by omega)]; exact x4, fun z => by rw [up_n (by omega)] at z; rw [up_n (by omega), up_n (by omega), up_n (by omega), up_n (by omega)]; exact xz z, fun s s0 s1 => ?_, fun d d0 d1 => ?_⟩, up_n (by omega), up_n (by omega)⟩
    · rw [up_n (by omega)] at s1
      refine ⟨?_, by rw [up_n (by omega)]; exact (xs s s0 s1).2⟩
      by_cases e : s = n
      · subst e; rw [up_s]; exact ⟨w0, w1⟩
      · rw [up_n (by omega)]; exact (xs s s0 s1).1
    · rw [up_n (by omega)] at d1
      have y := xd d d0 d1
      unfold dOK at *
      rw [up_n (j := 25 + 8 * d) (by omega), up_n (j := 25 + 8 * d + 1) (by omega), up_n (j := 25 + 8 * d + 2) (by omega), up_n (j := 25 + 8 * d + 3) (by omega), up_n (j := 25 + 8 * d + 4) (by omega), up_n (j := 25 + 8 * d + 5) (by omega), up_n (j := 25 + 8 * d + 6) (by omega), up_n (j := 1) (by omega), up_n (j := 2) (by omega)]
      exact y
  · rw [if_neg (by decide), if_neg (by decide), if_neg (by decide), if_pos rfl]
    refine ⟨⟨by rw [up_n (by omega)]; exact x0, by rw [up_n (by omega)]; exact x1, by rw [up_n (by omega)]; exact x2, by rw [up_n (by omega)]; exact x3, by rw [up_n (by omega)]; exact x4, fun z => by rw [up_n (by omega)] at z; rw [up_n (by omega), up_n (by omega), up_n (by omega), up_n (by omega)]; exact xz z, fun s s0 s1 => ?_, fun d d0 d1 => ?_⟩, up_n (by omega), up_n (by omega)⟩
    · rw [up_n (by omega)] at s1
      refine ⟨by rw [up_n (by omega)]; exact (xs s s0 s1).1, ?_⟩
      by_cases e : s = n
      · subst e; rw [up_s]; exact w0
      · rw [up_n (by omega)]; exact (xs s s0 s1).2
    · rw [up_n (by omega)] at d1
      have y := xd d d0 d1
      unfold dOK at *
      rw [up_n (j := 25 + 8 * d) (by omega), up_n (j := 25 + 8 * d + 1) (by omega), up_n (j := 25 + 8 * d + 2) (by omega), up_n (j := 25 + 8 * d + 3) (by omega), up_n (j := 25 + 8 * d + 4) (by omega), up_n (j := 25 + 8 * d + 5) (by omega), up_n (j := 25 + 8 * d + 6) (by omega), up_n (j := 1) (by omega), up_n (j := 2) (by omega)]
      exact y

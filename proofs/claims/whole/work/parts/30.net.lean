/-! NETS: how many departures and spots; when each leaves and arrives, from, to, line, runs; change and wait of spots -/
abbrev mF : Type := Int → Int
abbrev mN : Type := Int × Int × mF × mF × mF × mF × mF × mF × mF × mF
abbrev nN (N : mN) : Int := N.1
abbrev nS (N : mN) : Int := N.2.1
abbrev lv (N : mN) : mF := N.2.2.1
abbrev ar (N : mN) : mF := N.2.2.2.1
abbrev frm (N : mN) : mF := N.2.2.2.2.1
abbrev dst (N : mN) : mF := N.2.2.2.2.2.1
abbrev ln (N : mN) : mF := N.2.2.2.2.2.2.1
abbrev rn (N : mN) : mF := N.2.2.2.2.2.2.2.1
abbrev gp (N : mN) : mF := N.2.2.2.2.2.2.2.2.1
abbrev pt (N : mN) : mF := N.2.2.2.2.2.2.2.2.2
/-- a departure's number -/
def dp (N : mN) (d : Int) : Prop := 0 ≤ d ∧ d < nN N
def NV (N : mN) : Prop := (0 ≤ nN N ∧ nN N ≤ 120) ∧ (0 ≤ nS N ∧ nS N ≤ 10) ∧
  (∀ d, dp N d → (0 ≤ frm N d ∧ frm N d < nS N) ∧ (0 ≤ dst N d ∧ dst N d < nS N) ∧ (0 ≤ lv N d ∧ lv N d ≤ 1500) ∧ (lv N d < ar N d ∧ ar N d ≤ 1700) ∧ (rn N d = 0 ∨ rn N d = 1)) ∧
  ∀ s, 0 ≤ s → s < nS N → (0 ≤ gp N s ∧ gp N s ≤ 99) ∧ (pt N s = -2 ∨ 0 ≤ pt N s ∧ pt N s ≤ 999)
/-- one can ride e behind d, as far as times tell -/
def J (N : mN) (d e : Int) : Prop := 0 ≤ lv N e - ar N d ∧ (pt N (dst N d) = -2 ∨ lv N e - ar N d ≤ pt N (dst N d)) ∧ (ln N d = ln N e ∨ gp N (dst N d) ≤ lv N e - ar N d)
/-- the order of departures: by when they leave, of like ones by numbers -/
def ol (N : mN) (d e : Int) : Prop := lv N d < lv N e ∨ lv N d = lv N e ∧ d < e
/-- a row that holds each of 0 .. n-1 once -/
def Pm (o : mF) (n : Int) : Prop := (∀ i, 0 ≤ i → i < n → 0 ≤ o i ∧ o i < n) ∧ ∀ p : Int → Bool, cn (fun i => p (o i)) n.toNat = cn p n.toNat
theorem cn_pos {p : Int → Bool} : ∀ {k : Nat}, 0 < cn p k → ∃ d : Int, 0 ≤ d ∧ d < k ∧ p d = true
  | 0, h => by unfold cn at h; omega
  | k + 1, h => by
    unfold cn at h
    by_cases hp : p k = true
    · exact ⟨k, by omega, by omega, hp⟩
    · rw [if_neg hp] at h
      obtain ⟨d, h0, h1, h2⟩ := cn_pos (p := p) (k := k) (by omega)
      exact ⟨d, h0, by omega, h2⟩
theorem cn_one {p : Int → Bool} : ∀ {k : Nat} {d : Int}, 0 ≤ d → d < k → p d = true → 0 < cn p k
  | 0, d, h0, h1, _ => by omega
  | k + 1, d, h0, h1, hp => by
    unfold cn
    by_cases hk : d = k
    · subst hk
      have := cn_b p k
      rw [if_pos hp]; omega
    · have := cn_one (p := p) (k := k) h0 (by omega) hp
      split <;> omega
theorem cn_le1 {p : Int → Bool} : ∀ {k : Nat}, cn p k ≤ 1 → ∀ {i j : Int}, 0 ≤ i → i < j → j < k → p i = true → p j = true → False
  | 0, _, i, j, h0, h1, h2, _, _ => by omega
  | k + 1, h, i, j, h0, h1, h2, hi, hj => by
    unfold cn at h
    by_cases hk : j = k
    · subst hk
      have := cn_one (p := p) (k := k) h0 h1 hi
      rw [if_pos hj] at h; omega
    · have hb := cn_b p k
      exact cn_le1 (p := p) (k := k) (by split at h <;> omega) h0 h1 (by omega) hi hj
theorem cn_eq (d : Int) : ∀ {k : Nat}, 0 ≤ d → d < k → cn (fun x => x == d) k = 1
  | 0, h0, h1 => by omega
  | k + 1, h0, h1 => by
    unfold cn
    by_cases hk : d = k
    · subst hk
      have : cn (fun x => x == (k : Int)) k = 0 := by
        have hz : cn (fun x => x == (k : Int)) k = cn (fun _ => false) k := cn_congr (fun d h0 h1 => by simp; omega)
        rw [hz]
        have : ∀ n : Nat, cn (fun _ => false) n = 0 := by
          intro n
          induction n with
          | zero => rfl
          | succ n ih => unfold cn; rw [ih]; rfl
        exact this k
      rw [this]; simp
    · have := cn_eq d (k := k) h0 (by omega)
      rw [this]
      have hne : ((k : Int) == d) = false := by simp; omega
      rw [hne]; rfl
theorem Pm.sur {o : mF} {n : Int} (h : Pm o n) {d : Int} (h0 : 0 ≤ d) (h1 : d < n) : ∃ i, 0 ≤ i ∧ i < n ∧ o i = d := by
  have := h.2 (fun x => x == d)
  rw [cn_eq d h0 (by omega)] at this
  obtain ⟨i, i0, i1, i2⟩ := cn_pos (p := fun i => o i == d) (k := n.toNat) (by omega)
  exact ⟨i, i0, by omega, by simpa using i2⟩
theorem Pm.inj {o : mF} {n : Int} (h : Pm o n) {i j : Int} (h0 : 0 ≤ i) (h1 : i < j) (h2 : j < n) : o i ≠ o j := by
  intro e
  have hi := h.1 i h0 (by omega)
  have := h.2 (fun x => x == o i)
  rw [cn_eq (o i) hi.1 (by omega)] at this
  exact cn_le1 (p := fun x => o x == o i) (k := n.toNat) (by omega) h0 h1 (by omega) (by simp) (by simp [e])
/-- two neighbours change places -/
theorem cn_swap {f g : Int → Bool} {k : Int} (h1 : 1 ≤ k) (hk : g k = f (k - 1)) (hk1 : g (k - 1) = f k) (ho : ∀ i, i ≠ k → i ≠ k - 1 → g i = f i) : ∀ {n : Nat}, k < n → cn g n = cn f n
  | 0, hn => by omega
  | n + 1, hn => by
    by_cases hkn : k = n
    · obtain ⟨m, rfl⟩ : ∃ m : Nat, n = m + 1 := ⟨n - 1, by omega⟩
      subst hkn
      have e1 : ((m + 1 : Nat) : Int) - 1 = m := by omega
      rw [e1] at hk hk1 ho
      have e2 : cn g m = cn f m := cn_congr (fun d h0 h1 => ho d (by omega) (by omega))
      simp only [cn]
      rw [e2, hk, hk1]
      omega
    · have ih := cn_swap h1 hk hk1 ho (n := n) (by omega)
      unfold cn
      rw [ih, ho n (by omega) (by omega)]
theorem Pm.swap {o o' : mF} {n k : Int} (h : Pm o n) (h1 : 1 ≤ k) (h2 : k < n) (hk : o' k = o (k - 1)) (hk1 : o' (k - 1) = o k) (ho : ∀ i, i ≠ k → i ≠ k - 1 → o' i = o i) : Pm o' n := by
  refine ⟨fun i i0 i1 => ?_, fun p => ?_⟩
  · by_cases e1 : i = k
    · subst e1; rw [hk]; exact h.1 _ (by omega) (by omega)
    · by_cases e2 : i = k - 1
      · subst e2; rw [hk1]; exact h.1 _ (by omega) (by omega)
      · rw [ho i e1 e2]; exact h.1 i i0 i1
  · rw [← h.2 p]
    exact cn_swap (f := fun i => p (o i)) (g := fun i => p (o' i)) h1 (by simp [hk]) (by simp [hk1]) (fun i a b => by simp [ho i a b]) (by omega)
theorem Pm.congr {o o' : mF} {n : Int} (h : Pm o n) (he : ∀ i, 0 ≤ i → i < n → o' i = o i) : Pm o' n :=
  ⟨fun i i0 i1 => by rw [he i i0 i1]; exact h.1 i i0 i1, fun p => by rw [← h.2 p]; exact cn_congr (fun d d0 d1 => by rw [he d d0 (by omega)])⟩
/-- the rows of cell 31 as they are for N, but for order and groups -/
def isN (h : mH) (N : mN) : Prop := h 31 0 = nN N ∧ h 2 1 = nS N ∧ (∀ d, dp N d → h 32 d = lv N d ∧ h 33 d = ar N d ∧ h 6 d = frm N d ∧ h 7 d = dst N d ∧ h 5 d = ln N d ∧ h 34 d = rn N d) ∧ ∀ s, 0 ≤ s → s < nS N → h 38 s = gp N s ∧ h 39 s = pt N s
/-- the order is right -/
def isO (h : mH) (N : mN) : Prop := Pm (h 35) (nN N) ∧ ∀ i j, 0 ≤ i → i < j → j < nN N → ol N (h 35 i) (h 35 j)
/-- the groups are right -/
def isG (h : mH) (N : mN) : Prop := (∀ s, 0 ≤ s → s < nS N → 0 ≤ h 37 s ∧ h 37 s ≤ h 37 (s + 1) ∧ h 37 (s + 1) ≤ nN N) ∧
  (∀ s p, 0 ≤ s → s < nS N → h 37 s ≤ p → p < h 37 (s + 1) → dp N (h 36 p) ∧ frm N (h 36 p) = s) ∧
  (∀ d, dp N d → ∃ p, h 37 (frm N d) ≤ p ∧ p < h 37 (frm N d + 1) ∧ h 36 p = d) ∧
  ∀ s p q, 0 ≤ s → s < nS N → h 37 s ≤ p → p < q → q < h 37 (s + 1) → ol N (h 36 p) (h 36 q)

theorem cn_mono {p : Int → Bool} {i j : Nat} (h : i ≤ j) : cn p i ≤ cn p j := by
  induction j with
  | zero => have : i = 0 := by omega
            subst this; exact Int.le_refl _
  | succ j ih =>
    by_cases e : i = j + 1
    · subst e; exact Int.le_refl _
    · have := ih (by omega)
      show cn p i ≤ cn p j + (if p j = true then 1 else 0)
      split <;> omega
theorem cn_lt {p : Int → Bool} {i j : Int} (h0 : 0 ≤ i) (hp : p i = true) (h : i < j) : cn p i.toNat < cn p j.toNat := by
  have h1 := cn_t h0 hp
  have h2 := cn_mono (p := p) (show (i + 1).toNat ≤ j.toNat by omega)
  omega
theorem cn_hit {p : Int → Bool} : ∀ {n : Nat} {q : Int}, 0 ≤ q → q < cn p n → ∃ j : Int, 0 ≤ j ∧ j < n ∧ p j = true ∧ cn p j.toNat = q
  | 0, q, h0, h1 => by unfold cn at h1; omega
  | n + 1, q, h0, h1 => by
    by_cases hq : q < cn p n
    · obtain ⟨j, a, b, c, d⟩ := cn_hit h0 hq
      exact ⟨j, a, by omega, c, d⟩
    · unfold cn at h1
      by_cases hp : p n = true
      · rw [if_pos hp] at h1
        exact ⟨n, by omega, by omega, hp, by have : ((n : Int)).toNat = n := by omega
                                             rw [this]; omega⟩
      · rw [if_neg hp] at h1; omega
theorem cn_add3 {p q r : Int → Bool} : ∀ {n : Nat}, (∀ d : Int, 0 ≤ d → d < n → (if r d then (1 : Int) else 0) = (if p d then 1 else 0) + (if q d then 1 else 0)) → cn r n = cn p n + cn q n
  | 0, _ => rfl
  | n + 1, h => by
    have ih := cn_add3 (p := p) (q := q) (r := r) (n := n) (fun d h0 h1 => h d h0 (by omega))
    have := h n (by omega) (by omega)
    unfold cn
    omega
theorem cn_all {p : Int → Bool} : ∀ {n : Nat}, (∀ d : Int, 0 ≤ d → d < n → p d = true) → cn p n = n
  | 0, _ => rfl
  | n + 1, h => by
    unfold cn
    rw [cn_all (fun d h0 h1 => h d h0 (by omega)), h n (by omega) (by omega)]
    simp
/-- of a row f: how many are less than s; how many are s; how many of those ahead of place k in the order o are s -/
def gB (f : mF) (n : Int) (s : Int) : Int := cn (fun x => decide (f x < s)) n.toNat
def gC (f : mF) (n : Int) (s : Int) : Int := cn (fun x => f x == s) n.toNat
def gP (f o : mF) (k : Int) (s : Int) : Int := cn (fun j => f (o j) == s) k.toNat
theorem gB_s (f : mF) (n s : Int) : gB f n (s + 1) = gB f n s + gC f n s := by
  unfold gB gC
  refine cn_add3 (fun d _ _ => ?_)
  by_cases h1 : f d < s
  · have : ¬ f d = s := by omega
    simp [h1, this, show f d < s + 1 by omega]
  · by_cases h2 : f d = s
    · simp [h2]; omega
    · simp [h1, h2, show ¬ f d < s + 1 by omega]
theorem gB_n {f : mF} {n s : Int} (hn : 0 ≤ n) (h : ∀ d, 0 ≤ d → d < n → f d < s) : gB f n s = n := by
  unfold gB
  rw [cn_all (fun d h0 h1 => by have := h d h0 (by omega); simp; omega)]
  omega
theorem gB_0 {f : mF} {n : Int} (h : ∀ d, 0 ≤ d → d < n → 0 ≤ f d) : gB f n 0 = 0 := by
  unfold gB
  rw [cn_congr (g := fun _ => false) (fun d h0 h1 => by have := h d h0 (by omega); simp; omega)]
  have : ∀ m : Nat, cn (fun _ => false) m = 0 := by
    intro m
    induction m with
    | zero => rfl
    | succ m ih => unfold cn; rw [ih]; rfl
  exact this _
theorem gP_n {f o : mF} {n : Int} (hP : Pm o n) (s : Int) : gP f o n s = gC f n s := hP.2 (fun x => f x == s)
theorem gP_s {f o : mF} {k s : Int} (h0 : 0 ≤ k) : gP f o (k + 1) s = gP f o k s + (if f (o k) == s then 1 else 0) := by
  unfold gP
  exact cn_s h0
theorem gB_b (f : mF) (n s : Int) (hn : 0 ≤ n) : 0 ≤ gB f n s ∧ gB f n s ≤ n := by
  have := cn_b (fun x => decide (f x < s)) n.toNat
  unfold gB
  omega
theorem gC_b (f : mF) (n s : Int) (hn : 0 ≤ n) : 0 ≤ gC f n s ∧ gC f n s ≤ n := by
  have := cn_b (fun x => f x == s) n.toNat
  unfold gC
  omega
theorem gB_mono (f : mF) (n : Int) (hn : 0 ≤ n) {s t : Int} (h : s ≤ t) : gB f n s ≤ gB f n t := by
  obtain ⟨k, rfl⟩ : ∃ k : Nat, t = s + k := ⟨(t - s).toNat, by omega⟩
  clear h
  induction k with
  | zero => simp
  | succ k ih =>
    have h1 := gB_s f n (s + k)
    have h2 := gC_b f n (s + k) hn
    have e : s + ((k + 1 : Nat) : Int) = s + k + 1 := by omega
    rw [e]; omega
/-- place of the order's j-th -/
def gQ (f o : mF) (n j : Int) : Int := gB f n (f (o j)) + gP f o j (f (o j))
theorem gQ_lt {f o : mF} {n j : Int} (hn : 0 ≤ n) (hP : Pm o n) (h0 : 0 ≤ j) (h1 : j < n) : gB f n (f (o j)) ≤ gQ f o n j ∧ gQ f o n j < gB f n (f (o j) + 1) := by
  have a := gB_s f n (f (o j))
  have b := gP_n (f := f) hP (f (o j))
  have c : gP f o j (f (o j)) < gP f o n (f (o j)) := by unfold gP; exact cn_lt h0 (by simp) h1
  have d := cn_b (fun x => f (o x) == f (o j)) j.toNat
  unfold gQ
  unfold gP at *
  omega
theorem gQ_inj {f o : mF} {n i j : Int} (hn : 0 ≤ n) (hP : Pm o n) (h0 : 0 ≤ i) (h1 : i < j) (h2 : j < n) : gQ f o n i ≠ gQ f o n j := by
  have a := gQ_lt (f := f) hn hP h0 (show i < n by omega)
  have b := gQ_lt (f := f) hn hP (show 0 ≤ j by omega) h2
  by_cases e : f (o i) = f (o j)
  · have c : gP f o i (f (o i)) < gP f o j (f (o i)) := by unfold gP; exact cn_lt h0 (by simp) h1
    unfold gQ
    rw [← e]
    omega
  · intro z
    rcases (show f (o i) < f (o j) ∨ f (o j) < f (o i) by omega) with q | q
    · have := gB_mono f n hn (show f (o i) + 1 ≤ f (o j) by omega)
      omega
    · have := gB_mono f n hn (show f (o j) + 1 ≤ f (o i) by omega)
      omega
def gG (h h1 : mH) (n S : Int) : Prop := fr [36, 37] h h1 ∧ (∀ s, 0 ≤ s → s ≤ S → h1 37 s = gB (h 6) n s) ∧ ∀ j, 0 ≤ j → j < n → h1 36 (gQ (h 6) (h 35) n j) = h 35 j
abbrev grQ (h : mH) (r : mR) (n S : Int) : mP := fun rv h1 r1 => rv = none ∧ r1 = r ∧ gG h h1 n S
section GR
variable (h : mH) (r : mR) (n S : Int) (hnde : r.1 31 7 = some 2) (hn : 0 ≤ n ∧ n ≤ 120) (hc : h 31 0 = n) (hS : 0 ≤ S ∧ S ≤ 10) (hS2 : h 2 1 = S) (hf : ∀ d, 0 ≤ d → d < n → 0 ≤ h 6 d ∧ h 6 d < S) (hP : Pm (h 35) n)
set_option maxRecDepth 100000 in
set_option maxHeartbeats 1000000 in
theorem Ne_groupD (hnde : r.1 31 7 = some 2) (hn : 0 ≤ n ∧ n ≤ 120) (hc : h 31 0 = n) (hS : 0 ≤ S ∧ S ≤ 10) (hf : ∀ d, 0 ≤ d → d < n → 0 ≤ h 6 d ∧ h 6 d < S) (hP : Pm (h 35) n) : ∀ (M : Nat) (i : Int) (h' : mH) (a : Option mV), (i + 1).toNat = M → -1 ≤ i → i < n → fr [36, 37] h h' → (∀ s, 0 ≤ s → s ≤ S → h' 37 s = gB (h 6) n s + gP (h 6) (h 35) (i + 1) s) → (∀ j, i < j → j < n → h' 36 (gQ (h 6) (h 35) n j) = h 35 j) → WP (true, rm 1) m_Ne_group (rt m_Ne_group (rm 1) (grQ h r n S)) 103 [some (vR 31), some (vI i), a] [] h' r (0, 0) := by
  intro M
  induction M using Nat.strongRecOn with
  | ind M ih =>
    intro i h' a hM i0 i1 hfr hA hB
    have e6 : h' 6 = h 6 := hfr 6 (by decide)
    have e35 : h' 35 = h 35 := hfr 35 (by decide)
    have ho := hP.1 i
    have hfo : 0 ≤ i → 0 ≤ h 6 (h 35 i) ∧ h 6 (h 35 i) < S := fun z => hf _ (ho z i1).1 (ho z i1).2
    have hAs : 0 ≤ i → h' 37 (h 6 (h 35 i)) = gQ (h 6) (h 35) n i + 1 := fun z => by
      rw [hA _ (hfo z).1 (by have := hfo z; omega), gP_s z]
      unfold gQ
      simp
      omega
    have hQ : 0 ≤ i → gB (h 6) n (h 6 (h 35 i)) ≤ gQ (h 6) (h 35) n i ∧ gQ (h 6) (h 35) n i < gB (h 6) n (h 6 (h 35 i) + 1) := fun z => gQ_lt hn.1 hP z i1
    have hBb := gB_b (h 6) n (h 6 (h 35 i)) hn.1
    have hBb1 := gB_b (h 6) n (h 6 (h 35 i) + 1) hn.1
    refine wq_iload_n (kk := 1) (q := 104) rfl rfl rfl ?_
    refine wq_if_lt (tgt := 155) (q := 107) rfl rfl rfl (fun c104 => ?_) (fun c104 => ?_)
    · skip
      have e : i = -1 := by omega
      subst e
      refine wq_vret rfl rfl (Nat.le_refl _) (Nat.le_refl _) ⟨rfl, rfl, hfr, fun s s0 s1 => ?_, fun j j0 j1 => hB j (by omega) j1⟩
      rw [hA s s0 s1]
      show gB (h 6) n s + gP (h 6) (h 35) 0 s = _
      unfold gP
      simp [cn]
    · skip
      refine wq_aload_n (kk := 0) (q := 108) rfl rfl rfl ?_
      refine wq_getR (q := 111) f_Ne_37 rfl rfl (Or.inl ⟨rfl, Nat.le_of_ble_eq_true rfl⟩) hnde rfl rfl ?_
      refine wq_getF (q := 114) f_Ne_98 rfl rfl (Nat.le_of_ble_eq_true rfl) rfl rfl rfl ?_
      refine wq_aload_n (kk := 0) (q := 115) rfl rfl rfl ?_
      refine wq_getF (q := 118) f_Ne_22 rfl rfl (Nat.le_of_ble_eq_true rfl) rfl rfl rfl ?_
      refine wq_iload_n (kk := 1) (q := 119) rfl rfl rfl ?_
      refine wq_iald (q := 120) rfl (Or.inl ⟨rfl, Nat.le_of_ble_eq_true rfl⟩) rfl rfl (by first | omega | (have := ho (by omega) (by omega); have := hfo (by omega); have := hAs (by omega); have := hQ (by omega); first | omega | (rw [e35]; omega) | (rw [e35, e6]; omega) | (rw [e35, e6, hAs (by omega)]; omega) | (simp only [hup_s]; rw [e35, e6, hAs (by omega)]; omega) | (simp [hup]; rw [e35, e6, hAs (by omega)]; omega) | (simp [hup]; rw [e35]; omega) | (simp [hup]; omega))) (by first | omega | (have := ho (by omega) (by omega); have := hfo (by omega); have := hAs (by omega); have := hQ (by omega); first | omega | (rw [e35]; omega) | (rw [e35, e6]; omega) | (rw [e35, e6, hAs (by omega)]; omega) | (simp only [hup_s]; rw [e35, e6, hAs (by omega)]; omega) | (simp [hup]; rw [e35, e6, hAs (by omega)]; omega) | (simp [hup]; rw [e35]; omega) | (simp [hup]; omega))) ?_
      refine wq_iald (q := 121) rfl (Or.inl ⟨rfl, Nat.le_of_ble_eq_true rfl⟩) rfl rfl (by first | omega | (have := ho (by omega) (by omega); have := hfo (by omega); have := hAs (by omega); have := hQ (by omega); first | omega | (rw [e35]; omega) | (rw [e35, e6]; omega) | (rw [e35, e6, hAs (by omega)]; omega) | (simp only [hup_s]; rw [e35, e6, hAs (by omega)]; omega) | (simp [hup]; rw [e35, e6, hAs (by omega)]; omega) | (simp [hup]; rw [e35]; omega) | (simp [hup]; omega))) (by first | omega | (have := ho (by omega) (by omega); have := hfo (by omega); have := hAs (by omega); have := hQ (by omega); first | omega | (rw [e35]; omega) | (rw [e35, e6]; omega) | (rw [e35, e6, hAs (by omega)]; omega) | (simp only [hup_s]; rw [e35, e6, hAs (by omega)]; omega) | (simp [hup]; rw [e35, e6, hAs (by omega)]; omega) | (simp [hup]; rw [e35]; omega) | (simp [hup]; omega))) ?_
      refine wq_istore_n (kk := 2) (q := 122) rfl rfl (Nat.le_of_ble_eq_true rfl) rfl ?_
      refine wq_aload_n (kk := 0) (q := 123) rfl rfl rfl ?_
      refine wq_getF (q := 126) f_Ne_28 rfl rfl (Nat.le_of_ble_eq_true rfl) rfl rfl rfl ?_
      refine wq_iload_n (kk := 2) (q := 127) rfl rfl rfl ?_
      refine wq_dup2 (q := 128) rfl rfl rfl rfl ?_
      refine wq_iald (q := 129) rfl (Or.inl ⟨rfl, Nat.le_of_ble_eq_true rfl⟩) rfl rfl (by first | omega | (have := ho (by omega) (by omega); have := hfo (by omega); have := hAs (by omega); have := hQ (by omega); first | omega | (rw [e35]; omega) | (rw [e35, e6]; omega) | (rw [e35, e6, hAs (by omega)]; omega) | (simp only [hup_s]; rw [e35, e6, hAs (by omega)]; omega) | (simp [hup]; rw [e35, e6, hAs (by omega)]; omega) | (simp [hup]; rw [e35]; omega) | (simp [hup]; omega))) (by first | omega | (have := ho (by omega) (by omega); have := hfo (by omega); have := hAs (by omega); have := hQ (by omega); first | omega | (rw [e35]; omega) | (rw [e35, e6]; omega) | (rw [e35, e6, hAs (by omega)]; omega) | (simp only [hup_s]; rw [e35, e6, hAs (by omega)]; omega) | (simp [hup]; rw [e35, e6, hAs (by omega)]; omega) | (simp [hup]; rw [e35]; omega) | (simp [hup]; omega))) ?_
      refine wq_iconst (n := 1) (q := 130) rfl rfl rfl ?_
      refine wq_isub (q := 131) rfl rfl (by first | omega | (have := ho (by omega) (by omega); have := hfo (by omega); have := hAs (by omega); have := hQ (by omega); first | omega | (rw [e35]; omega) | (rw [e35, e6]; omega) | (rw [e35, e6, hAs (by omega)]; omega) | (simp only [hup_s]; rw [e35, e6, hAs (by omega)]; omega) | (simp [hup]; rw [e35, e6, hAs (by omega)]; omega) | (simp [hup]; rw [e35]; omega) | (simp [hup]; omega))) (by first | omega | (have := ho (by omega) (by omega); have := hfo (by omega); have := hAs (by omega); have := hQ (by omega); first | omega | (rw [e35]; omega) | (rw [e35, e6]; omega) | (rw [e35, e6, hAs (by omega)]; omega) | (simp only [hup_s]; rw [e35, e6, hAs (by omega)]; omega) | (simp [hup]; rw [e35, e6, hAs (by omega)]; omega) | (simp [hup]; rw [e35]; omega) | (simp [hup]; omega))) ?_
      refine wq_iast (q := 132) rfl (Or.inl ⟨rfl, Nat.le_of_ble_eq_true rfl⟩) rfl rfl (by first | omega | (have := ho (by omega) (by omega); have := hfo (by omega); have := hAs (by omega); have := hQ (by omega); first | omega | (rw [e35]; omega) | (rw [e35, e6]; omega) | (rw [e35, e6, hAs (by omega)]; omega) | (simp only [hup_s]; rw [e35, e6, hAs (by omega)]; omega) | (simp [hup]; rw [e35, e6, hAs (by omega)]; omega) | (simp [hup]; rw [e35]; omega) | (simp [hup]; omega))) (by first | omega | (have := ho (by omega) (by omega); have := hfo (by omega); have := hAs (by omega); have := hQ (by omega); first | omega | (rw [e35]; omega) | (rw [e35, e6]; omega) | (rw [e35, e6, hAs (by omega)]; omega) | (simp only [hup_s]; rw [e35, e6, hAs (by omega)]; omega) | (simp [hup]; rw [e35, e6, hAs (by omega)]; omega) | (simp [hup]; rw [e35]; omega) | (simp [hup]; omega))) ?_
      refine wq_aload_n (kk := 0) (q := 133) rfl rfl rfl ?_
      refine wq_getF (q := 136) f_Ne_25 rfl rfl (Nat.le_of_ble_eq_true rfl) rfl rfl rfl ?_
      refine wq_aload_n (kk := 0) (q := 137) rfl rfl rfl ?_
      refine wq_getF (q := 140) f_Ne_28 rfl rfl (Nat.le_of_ble_eq_true rfl) rfl rfl rfl ?_
      refine wq_iload_n (kk := 2) (q := 141) rfl rfl rfl ?_
      refine wq_iald (q := 142) rfl (Or.inl ⟨rfl, Nat.le_of_ble_eq_true rfl⟩) rfl rfl (by first | omega | (have := ho (by omega) (by omega); have := hfo (by omega); have := hAs (by omega); have := hQ (by omega); first | omega | (rw [e35]; omega) | (rw [e35, e6]; omega) | (rw [e35, e6, hAs (by omega)]; omega) | (simp only [hup_s]; rw [e35, e6, hAs (by omega)]; omega) | (simp [hup]; rw [e35, e6, hAs (by omega)]; omega) | (simp [hup]; rw [e35]; omega) | (simp [hup]; omega))) (by first | omega | (have := ho (by omega) (by omega); have := hfo (by omega); have := hAs (by omega); have := hQ (by omega); first | omega | (rw [e35]; omega) | (rw [e35, e6]; omega) | (rw [e35, e6, hAs (by omega)]; omega) | (simp only [hup_s]; rw [e35, e6, hAs (by omega)]; omega) | (simp [hup]; rw [e35, e6, hAs (by omega)]; omega) | (simp [hup]; rw [e35]; omega) | (simp [hup]; omega))) ?_
      refine wq_aload_n (kk := 0) (q := 143) rfl rfl rfl ?_
      refine wq_getF (q := 146) f_Ne_22 rfl rfl (Nat.le_of_ble_eq_true rfl) rfl rfl rfl ?_
      refine wq_iload_n (kk := 1) (q := 147) rfl rfl rfl ?_
      refine wq_iald (q := 148) rfl (Or.inl ⟨rfl, Nat.le_of_ble_eq_true rfl⟩) rfl rfl (by first | omega | (have := ho (by omega) (by omega); have := hfo (by omega); have := hAs (by omega); have := hQ (by omega); first | omega | (rw [e35]; omega) | (rw [e35, e6]; omega) | (rw [e35, e6, hAs (by omega)]; omega) | (simp only [hup_s]; rw [e35, e6, hAs (by omega)]; omega) | (simp [hup]; rw [e35, e6, hAs (by omega)]; omega) | (simp [hup]; rw [e35]; omega) | (simp [hup]; omega))) (by first | omega | (have := ho (by omega) (by omega); have := hfo (by omega); have := hAs (by omega); have := hQ (by omega); first | omega | (rw [e35]; omega) | (rw [e35, e6]; omega) | (rw [e35, e6, hAs (by omega)]; omega) | (simp only [hup_s]; rw [e35, e6, hAs (by omega)]; omega) | (simp [hup]; rw [e35, e6, hAs (by omega)]; omega) | (simp [hup]; rw [e35]; omega) | (simp [hup]; omega))) ?_
      refine wq_iast (q := 149) rfl (Or.inl ⟨rfl, Nat.le_of_ble_eq_true rfl⟩) rfl rfl (by first | omega | (have := ho (by omega) (by omega); have := hfo (by omega); have := hAs (by omega); have := hQ (by omega); first | omega | (rw [e35]; omega) | (rw [e35, e6]; omega) | (rw [e35, e6, hAs (by omega)]; omega) | (simp only [hup_s]; rw [e35, e6, hAs (by omega)]; omega) | (simp [hup]; rw [e35, e6, hAs (by omega)]; omega) | (simp [hup]; rw [e35]; omega) | (simp [hup]; omega))) (by first | omega | (have := ho (by omega) (by omega); have := hfo (by omega); have := hAs (by omega); have := hQ (by omega); first | omega | (rw [e35]; omega) | (rw [e35, e6]; omega) | (rw [e35, e6, hAs (by omega)]; omega) | (simp only [hup_s]; rw [e35, e6, hAs (by omega)]; omega) | (simp [hup]; rw [e35, e6, hAs (by omega)]; omega) | (simp [hup]; rw [e35]; omega) | (simp [hup]; omega))) ?_
      refine wq_iinc (i := 1) (n := -1) (q := 152) rfl rfl rfl (Nat.le_of_ble_eq_true rfl) rfl (by first | omega | (have := ho (by omega) (by omega); have := hfo (by omega); have := hAs (by omega); have := hQ (by omega); first | omega | (rw [e35]; omega) | (rw [e35, e6]; omega) | (rw [e35, e6, hAs (by omega)]; omega) | (simp only [hup_s]; rw [e35, e6, hAs (by omega)]; omega) | (simp [hup]; rw [e35, e6, hAs (by omega)]; omega) | (simp [hup]; rw [e35]; omega) | (simp [hup]; omega))) (by first | omega | (have := ho (by omega) (by omega); have := hfo (by omega); have := hAs (by omega); have := hQ (by omega); first | omega | (rw [e35]; omega) | (rw [e35, e6]; omega) | (rw [e35, e6, hAs (by omega)]; omega) | (simp only [hup_s]; rw [e35, e6, hAs (by omega)]; omega) | (simp [hup]; rw [e35, e6, hAs (by omega)]; omega) | (simp [hup]; rw [e35]; omega) | (simp [hup]; omega))) ?_
      refine wq_goto (tgt := 103) rfl rfl ?_
      have z : 0 ≤ i := by omega
      have f1 := hAs z
      have f2 := hfo z
      have f3 := hQ z
      refine ih _ ?_ (i - 1) _ _ rfl (by omega) (by omega) ((hfr.up (by decide)).up (by decide)) (fun s s0 s1 => ?_) (fun j j0 j1 => ?_)
      · omega
      · rw [hup_i (by decide)]
        by_cases es : s = h 6 (h 35 i)
        · subst es
          rw [e35, e6, hup_s, f1]
          have : i - 1 + 1 = i := by omega
          rw [this]
          unfold gQ
          omega
        · rw [e35, e6, hup_j es, hA s s0 s1, gP_s z]
          have : i - 1 + 1 = i := by omega
          rw [this]
          have : ¬ h 6 (h 35 i) = s := fun q => es q.symm
          simp [this]
      · have e1 : gQ (h 6) (h 35) n i + 1 - 1 = gQ (h 6) (h 35) n i := by omega
        by_cases ej : j = i
        · subst ej; simp [hup, e35, e6, f1, e1]
        · have hne := gQ_inj (f := h 6) hn.1 hP z (show i < j by omega) j1
          simp [hup, e35, e6, f1, e1, Ne.symm hne]
          exact hB j (by omega) j1
set_option maxRecDepth 100000 in
set_option maxHeartbeats 1000000 in
theorem Ne_groupC (hnde : r.1 31 7 = some 2) (hn : 0 ≤ n ∧ n ≤ 120) (hc : h 31 0 = n) (hS : 0 ≤ S ∧ S ≤ 10) (hS2 : h 2 1 = S) (hf : ∀ d, 0 ≤ d → d < n → 0 ≤ h 6 d ∧ h 6 d < S) (hP : Pm (h 35) n) : ∀ (M : Nat) (s : Int) (h' : mH) (a : Option mV), (S + 1 - s).toNat = M → 1 ≤ s → fr [37] h h' → (∀ t, 0 ≤ t → t < s → t ≤ S → h' 37 t = gB (h 6) n (t + 1)) → (∀ t, s ≤ t → t ≤ S → h' 37 t = gC (h 6) n t) → WP (true, rm 1) m_Ne_group (rt m_Ne_group (rm 1) (grQ h r n S)) 62 [some (vR 31), some (vI s), a] [] h' r (0, 0) := by
  intro M
  induction M using Nat.strongRecOn with
  | ind M ih =>
    intro s h' a hM s1 hfr hA hB
    have e2 : h' 2 1 = S := by rw [hfr.at 2 1 (by decide)]; exact hS2
    have e31 : h' 31 0 = n := by rw [hfr.at 31 0 (by decide)]; exact hc
    have g1 := gB_b (h 6) n s hn.1
    have g2 := gC_b (h 6) n s hn.1
    refine wq_iload_n (kk := 1) (q := 63) rfl rfl rfl ?_
    refine wq_aload_n (kk := 0) (q := 64) rfl rfl rfl ?_
    refine wq_getR (q := 67) f_Ne_37 rfl rfl (Or.inl ⟨rfl, Nat.le_of_ble_eq_true rfl⟩) hnde rfl rfl ?_
    refine wq_getI (kz := 1) (q := 70) rfl f_Ne_45 rfl rfl (Or.inl ⟨rfl, Nat.le_of_ble_eq_true rfl⟩) rfl rfl ?_
    refine wq_icmp_gt (tgt := 96) (q := 73) rfl rfl rfl (fun c70 => ?_) (fun c70 => ?_)
    · skip
      refine wq_aload_n (kk := 0) (q := 97) rfl rfl rfl ?_
      refine wq_getI (kz := 0) (q := 100) rfl f_Ne_60 rfl rfl (Or.inl ⟨rfl, Nat.le_of_ble_eq_true rfl⟩) rfl rfl ?_
      refine wq_iconst (n := 1) (q := 101) rfl rfl rfl ?_
      refine wq_isub (q := 102) rfl rfl (by first | omega | (have := hA (s - 1) (by omega) (by omega) (by omega); have := hB s (by omega) (by omega); rw [show s - 1 + 1 = s from by omega] at *; omega)) (by first | omega | (have := hA (s - 1) (by omega) (by omega) (by omega); have := hB s (by omega) (by omega); rw [show s - 1 + 1 = s from by omega] at *; omega)) ?_
      refine wq_istore_n (kk := 1) (q := 103) rfl rfl (Nat.le_of_ble_eq_true rfl) rfl ?_
      refine Ne_groupD h r n S hnde hn hc hS hf hP _ (h' 31 0 - 1) h' _ rfl (by omega) (by omega) (hfr.mono (by decide)) (fun t t0 t1 => ?_) (fun j j0 j1 => by omega)
      rw [hA t t0 (by omega) t1, gB_s]
      have : h' 31 0 - 1 + 1 = n := by omega
      rw [this, gP_n hP]
    · skip
      refine wq_aload_n (kk := 0) (q := 74) rfl rfl rfl ?_
      refine wq_getF (q := 77) f_Ne_28 rfl rfl (Nat.le_of_ble_eq_true rfl) rfl rfl rfl ?_
      refine wq_iload_n (kk := 1) (q := 78) rfl rfl rfl ?_
      refine wq_dup2 (q := 79) rfl rfl rfl rfl ?_
      refine wq_iald (q := 80) rfl (Or.inl ⟨rfl, Nat.le_of_ble_eq_true rfl⟩) rfl rfl (by first | omega | (have := hA (s - 1) (by omega) (by omega) (by omega); have := hB s (by omega) (by omega); rw [show s - 1 + 1 = s from by omega] at *; omega)) (by first | omega | (have := hA (s - 1) (by omega) (by omega) (by omega); have := hB s (by omega) (by omega); rw [show s - 1 + 1 = s from by omega] at *; omega)) ?_
      refine wq_aload_n (kk := 0) (q := 81) rfl rfl rfl ?_
      refine wq_getF (q := 84) f_Ne_28 rfl rfl (Nat.le_of_ble_eq_true rfl) rfl rfl rfl ?_
      refine wq_iload_n (kk := 1) (q := 85) rfl rfl rfl ?_
      refine wq_iconst (n := 1) (q := 86) rfl rfl rfl ?_
      refine wq_isub (q := 87) rfl rfl (by first | omega | (have := hA (s - 1) (by omega) (by omega) (by omega); have := hB s (by omega) (by omega); rw [show s - 1 + 1 = s from by omega] at *; omega)) (by first | omega | (have := hA (s - 1) (by omega) (by omega) (by omega); have := hB s (by omega) (by omega); rw [show s - 1 + 1 = s from by omega] at *; omega)) ?_
      refine wq_iald (q := 88) rfl (Or.inl ⟨rfl, Nat.le_of_ble_eq_true rfl⟩) rfl rfl (by first | omega | (have := hA (s - 1) (by omega) (by omega) (by omega); have := hB s (by omega) (by omega); rw [show s - 1 + 1 = s from by omega] at *; omega)) (by first | omega | (have := hA (s - 1) (by omega) (by omega) (by omega); have := hB s (by omega) (by omega); rw [show s - 1 + 1 = s from by omega] at *; omega)) ?_
      refine wq_iadd (q := 89) rfl rfl (by first | omega | (have := hA (s - 1) (by omega) (by omega) (by omega); have := hB s (by omega) (by omega); rw [show s - 1 + 1 = s from by omega] at *; omega)) (by first | omega | (have := hA (s - 1) (by omega) (by omega) (by omega); have := hB s (by omega) (by omega); rw [show s - 1 + 1 = s from by omega] at *; omega)) ?_
      refine wq_iast (q := 90) rfl (Or.inl ⟨rfl, Nat.le_of_ble_eq_true rfl⟩) rfl rfl (by first | omega | (have := hA (s - 1) (by omega) (by omega) (by omega); have := hB s (by omega) (by omega); rw [show s - 1 + 1 = s from by omega] at *; omega)) (by first | omega | (have := hA (s - 1) (by omega) (by omega) (by omega); have := hB s (by omega) (by omega); rw [show s - 1 + 1 = s from by omega] at *; omega)) ?_
      refine wq_iinc (i := 1) (n := 1) (q := 93) rfl rfl rfl (Nat.le_of_ble_eq_true rfl) rfl (by first | omega | (have := hA (s - 1) (by omega) (by omega) (by omega); have := hB s (by omega) (by omega); rw [show s - 1 + 1 = s from by omega] at *; omega)) (by first | omega | (have := hA (s - 1) (by omega) (by omega) (by omega); have := hB s (by omega) (by omega); rw [show s - 1 + 1 = s from by omega] at *; omega)) ?_
      refine wq_goto (tgt := 62) rfl rfl ?_
      have a1 := hA (s - 1) (by omega) (by omega) (by omega)
      rw [show s - 1 + 1 = s from by omega] at a1
      have a2 := hB s (by omega) (by omega)
      refine ih _ ?_ (s + 1) _ _ rfl (by omega) (hfr.up (by decide)) (fun t t0 t1 t2 => ?_) (fun t t1 t2 => ?_)
      · omega
      · by_cases et : t = s
        · subst et; rw [hup_s, gB_s]; omega
        · rw [hup_j et]; exact hA t t0 (by omega) t2
      · rw [hup_j (by omega)]; exact hB t (by omega) t2
set_option maxRecDepth 100000 in
set_option maxHeartbeats 1000000 in
theorem Ne_groupB (hnde : r.1 31 7 = some 2) (hn : 0 ≤ n ∧ n ≤ 120) (hc : h 31 0 = n) (hS : 0 ≤ S ∧ S ≤ 10) (hS2 : h 2 1 = S) (hf : ∀ d, 0 ≤ d → d < n → 0 ≤ h 6 d ∧ h 6 d < S) (hP : Pm (h 35) n) : ∀ (M : Nat) (d : Int) (h' : mH) (a : Option mV), (n - d).toNat = M → 0 ≤ d → d ≤ n → fr [37] h h' → (∀ t, 0 ≤ t → t ≤ S → h' 37 t = gC (h 6) d t) → WP (true, rm 1) m_Ne_group (rt m_Ne_group (rm 1) (grQ h r n S)) 28 [some (vR 31), some (vI d), a] [] h' r (0, 0) := by
  intro M
  induction M using Nat.strongRecOn with
  | ind M ih =>
    intro d h' a hM d0 d1 hfr hA
    have e31 : h' 31 0 = n := by rw [hfr.at 31 0 (by decide)]; exact hc
    have e6 : h' 6 d = h 6 d := hfr.at 6 d (by decide)
    have hfd := hf d d0
    have g2 := gC_b (h 6) d (h 6 d) d0
    refine wq_iload_n (kk := 1) (q := 29) rfl rfl rfl ?_
    refine wq_aload_n (kk := 0) (q := 30) rfl rfl rfl ?_
    refine wq_getI (kz := 0) (q := 33) rfl f_Ne_60 rfl rfl (Or.inl ⟨rfl, Nat.le_of_ble_eq_true rfl⟩) rfl rfl ?_
    refine wq_icmp_ge (tgt := 60) (q := 36) rfl rfl rfl (fun c33 => ?_) (fun c33 => ?_)
    · skip
      refine wq_iconst (n := 1) (q := 61) rfl rfl rfl ?_
      refine wq_istore_n (kk := 1) (q := 62) rfl rfl (Nat.le_of_ble_eq_true rfl) rfl ?_
      have e : d = n := by omega
      subst e
      refine Ne_groupC h r d S hnde hn hc hS hS2 hf hP _ 1 h' _ rfl (by omega) hfr (fun t t0 t1 t2 => ?_) (fun t t1 t2 => hA t (by omega) t2)
      have et : t = 0 := by omega
      subst et
      rw [hA 0 (by omega) (by omega), gB_s, gB_0 (fun x x0 x1 => (hf x x0 x1).1)]
      omega
    · skip
      refine wq_aload_n (kk := 0) (q := 37) rfl rfl rfl ?_
      refine wq_getF (q := 40) f_Ne_28 rfl rfl (Nat.le_of_ble_eq_true rfl) rfl rfl rfl ?_
      refine wq_aload_n (kk := 0) (q := 41) rfl rfl rfl ?_
      refine wq_getR (q := 44) f_Ne_37 rfl rfl (Or.inl ⟨rfl, Nat.le_of_ble_eq_true rfl⟩) hnde rfl rfl ?_
      refine wq_getF (q := 47) f_Ne_98 rfl rfl (Nat.le_of_ble_eq_true rfl) rfl rfl rfl ?_
      refine wq_iload_n (kk := 1) (q := 48) rfl rfl rfl ?_
      refine wq_iald (q := 49) rfl (Or.inl ⟨rfl, Nat.le_of_ble_eq_true rfl⟩) rfl rfl (by first | omega | (have := hfd (by omega); have := hA (h 6 d) (by omega) (by omega); rw [e6]; omega)) (by first | omega | (have := hfd (by omega); have := hA (h 6 d) (by omega) (by omega); rw [e6]; omega)) ?_
      refine wq_dup2 (q := 50) rfl rfl rfl rfl ?_
      refine wq_iald (q := 51) rfl (Or.inl ⟨rfl, Nat.le_of_ble_eq_true rfl⟩) rfl rfl (by first | omega | (have := hfd (by omega); have := hA (h 6 d) (by omega) (by omega); rw [e6]; omega)) (by first | omega | (have := hfd (by omega); have := hA (h 6 d) (by omega) (by omega); rw [e6]; omega)) ?_
      refine wq_iconst (n := 1) (q := 52) rfl rfl rfl ?_
      refine wq_iadd (q := 53) rfl rfl (by first | omega | (have := hfd (by omega); have := hA (h 6 d) (by omega) (by omega); rw [e6]; omega)) (by first | omega | (have := hfd (by omega); have := hA (h 6 d) (by omega) (by omega); rw [e6]; omega)) ?_
      refine wq_iast (q := 54) rfl (Or.inl ⟨rfl, Nat.le_of_ble_eq_true rfl⟩) rfl rfl (by first | omega | (have := hfd (by omega); have := hA (h 6 d) (by omega) (by omega); rw [e6]; omega)) (by first | omega | (have := hfd (by omega); have := hA (h 6 d) (by omega) (by omega); rw [e6]; omega)) ?_
      refine wq_iinc (i := 1) (n := 1) (q := 57) rfl rfl rfl (Nat.le_of_ble_eq_true rfl) rfl (by first | omega | (have := hfd (by omega); have := hA (h 6 d) (by omega) (by omega); rw [e6]; omega)) (by first | omega | (have := hfd (by omega); have := hA (h 6 d) (by omega) (by omega); rw [e6]; omega)) ?_
      refine wq_goto (tgt := 28) rfl rfl ?_
      have f1 := hfd (by omega)
      have f2 := hA (h 6 d) (by omega) (by omega)
      refine ih _ ?_ (d + 1) _ _ rfl (by omega) (by omega) (hfr.up (by decide)) (fun t t0 t1 => ?_)
      · omega
      · have gs : gC (h 6) (d + 1) t = gC (h 6) d t + (if h 6 d == t then 1 else 0) := by unfold gC; exact cn_s d0
        rw [gs, e6]
        by_cases et : t = h 6 d
        · subst et; rw [hup_s, f2]; simp
        · rw [hup_j et, hA t t0 t1]
          have : ¬ h 6 d = t := fun q => et q.symm
          simp [this]
set_option maxRecDepth 100000 in
set_option maxHeartbeats 1000000 in
theorem Ne_groupA (hnde : r.1 31 7 = some 2) (hn : 0 ≤ n ∧ n ≤ 120) (hc : h 31 0 = n) (hS : 0 ≤ S ∧ S ≤ 10) (hS2 : h 2 1 = S) (hf : ∀ d, 0 ≤ d → d < n → 0 ≤ h 6 d ∧ h 6 d < S) (hP : Pm (h 35) n) : ∀ (M : Nat) (s : Int) (h' : mH) (a : Option mV), (S + 1 - s).toNat = M → 0 ≤ s → fr [37] h h' → (∀ t, 0 ≤ t → t < s → h' 37 t = 0) → WP (true, rm 1) m_Ne_group (rt m_Ne_group (rm 1) (grQ h r n S)) 2 [some (vR 31), some (vI s), a] [] h' r (0, 0) := by
  intro M
  induction M using Nat.strongRecOn with
  | ind M ih =>
    intro s h' a hM s0 hfr hA
    have e2 : h' 2 1 = S := by rw [hfr.at 2 1 (by decide)]; exact hS2
    refine wq_iload_n (kk := 1) (q := 3) rfl rfl rfl ?_
    refine wq_aload_n (kk := 0) (q := 4) rfl rfl rfl ?_
    refine wq_getR (q := 7) f_Ne_37 rfl rfl (Or.inl ⟨rfl, Nat.le_of_ble_eq_true rfl⟩) hnde rfl rfl ?_
    refine wq_getI (kz := 1) (q := 10) rfl f_Ne_45 rfl rfl (Or.inl ⟨rfl, Nat.le_of_ble_eq_true rfl⟩) rfl rfl ?_
    refine wq_icmp_gt (tgt := 26) (q := 13) rfl rfl rfl (fun c10 => ?_) (fun c10 => ?_)
    · skip
      refine wq_iconst (n := 0) (q := 27) rfl rfl rfl ?_
      refine wq_istore_n (kk := 1) (q := 28) rfl rfl (Nat.le_of_ble_eq_true rfl) rfl ?_
      exact Ne_groupB h r n S hnde hn hc hS hS2 hf hP _ 0 h' _ rfl (by omega) (by omega) hfr (fun t t0 t1 => by rw [hA t t0 (by omega)]; rfl)
    · skip
      refine wq_aload_n (kk := 0) (q := 14) rfl rfl rfl ?_
      refine wq_getF (q := 17) f_Ne_28 rfl rfl (Nat.le_of_ble_eq_true rfl) rfl rfl rfl ?_
      refine wq_iload_n (kk := 1) (q := 18) rfl rfl rfl ?_
      refine wq_iconst (n := 0) (q := 19) rfl rfl rfl ?_
      refine wq_iast (q := 20) rfl (Or.inl ⟨rfl, Nat.le_of_ble_eq_true rfl⟩) rfl rfl (by first | omega | (simp [hup]; omega)) (by first | omega | (simp [hup]; omega)) ?_
      refine wq_iinc (i := 1) (n := 1) (q := 23) rfl rfl rfl (Nat.le_of_ble_eq_true rfl) rfl (by first | omega | (simp [hup]; omega)) (by first | omega | (simp [hup]; omega)) ?_
      refine wq_goto (tgt := 2) rfl rfl ?_
      refine ih _ ?_ (s + 1) _ _ rfl (by omega) (hfr.up (by decide)) (fun t t0 t1 => ?_)
      · omega
      · by_cases et : t = s
        · subst et; rw [hup_s]
        · rw [hup_j et]; exact hA t t0 (by omega)
set_option maxRecDepth 100000 in
theorem Ne_group_ok (hnde : r.1 31 7 = some 2) (hn : 0 ≤ n ∧ n ≤ 120) (hc : h 31 0 = n) (hS : 0 ≤ S ∧ S ≤ 10) (hS2 : h 2 1 = S) (hf : ∀ d, 0 ≤ d → d < n → 0 ≤ h 6 d ∧ h 6 d < S) (hP : Pm (h 35) n) : Meets true (rm 1) m_Ne_group [vR 31] h r (grQ h r n S) := by
  refine ⟨ok_Ne_group, Nat.le_of_ble_eq_true rfl, ?_⟩
  refine wq_iconst (n := 0) (q := 1) rfl rfl rfl ?_
  refine wq_istore_n (kk := 1) (q := 2) rfl rfl (Nat.le_of_ble_eq_true rfl) rfl ?_
  exact Ne_groupA h r n S hnde hn hc hS hS2 hf hP _ 0 h _ rfl (by omega) fr.rf (fun t t0 t1 => by omega)
end GR
/-- the groups, told by what is asked of them -/
theorem gG.isG {h h1 : mH} {N : mN} (hV : NV N) (hN : isN h N) (hO : isO h N) (hG : gG h h1 (nN N) (nS N)) : isG h1 N := by
  obtain ⟨g1, g2, g3⟩ := hG
  have hn := hV.1
  have e6 : ∀ d, dp N d → h 6 d = frm N d := fun d hd => (hN.2.2.1 d hd).2.2.1
  have fb : ∀ d, 0 ≤ d → d < nN N → 0 ≤ h 6 d ∧ h 6 d < nS N := fun d h0 h1 => by
    rw [e6 d ⟨h0, h1⟩]; exact (hV.2.2.1 d ⟨h0, h1⟩).1
  have key : ∀ s p, 0 ≤ s → s < nS N → h1 37 s ≤ p → p < h1 37 (s + 1) → ∃ j, 0 ≤ j ∧ j < nN N ∧ h 6 (h 35 j) = s ∧ p = gQ (h 6) (h 35) (nN N) j ∧ gP (h 6) (h 35) j s = p - h1 37 s := by
    intro s p s0 s1 p0 p1
    rw [g2 s s0 (by omega)] at p0 ⊢
    rw [g2 (s + 1) (by omega) (by omega), gB_s, ← gP_n hO.1] at p1
    obtain ⟨j, a, b, c, d⟩ := cn_hit (p := fun j => h 6 (h 35 j) == s) (n := (nN N).toNat) (q := p - gB (h 6) (nN N) s) (by omega) (by unfold gP at p1; omega)
    have c' : h 6 (h 35 j) = s := by simpa using c
    refine ⟨j, a, by omega, c', ?_, d⟩
    unfold gQ gP
    rw [c', d]
    omega
  refine ⟨fun s s0 s1 => ?_, fun s p s0 s1 p0 p1 => ?_, fun d hd => ?_, fun s p q s0 s1 p0 pq q1 => ?_⟩
  · have a := gB_b (h 6) (nN N) s hn.1
    have b := gB_b (h 6) (nN N) (s + 1) hn.1
    have c := gB_mono (h 6) (nN N) hn.1 (show s ≤ s + 1 by omega)
    rw [g2 s s0 (by omega), g2 (s + 1) (by omega) (by omega)]
    omega
  · obtain ⟨j, a, b, c, d, -⟩ := key s p s0 s1 p0 p1
    have ho := hO.1.1 j a b
    rw [d, g3 j a b]
    exact ⟨ho, by rw [← e6 _ ho]; exact c⟩
  · obtain ⟨j, a, b, c⟩ := hO.1.sur hd.1 hd.2
    have z := gQ_lt (f := h 6) hn.1 hO.1 a b
    have f0 := fb d hd.1 hd.2
    rw [c] at z
    rw [← e6 d hd]
    refine ⟨gQ (h 6) (h 35) (nN N) j, ?_, ?_, by rw [g3 j a b]; exact c⟩
    · rw [g2 _ f0.1 (by omega)]; exact z.1
    · rw [g2 _ (by omega) (by omega)]; exact z.2
  · obtain ⟨j, a, b, c, d, e⟩ := key s p s0 s1 p0 (by omega)
    obtain ⟨k, a2, b2, c2, d2, e2⟩ := key s q s0 s1 (by omega) q1
    rw [d, g3 j a b, d2, g3 k a2 b2]
    refine hO.2 j k a ?_ b2
    rcases (show j < k ∨ k ≤ j by omega) with z | z
    · exact z
    · have := cn_mono (p := fun j => h 6 (h 35 j) == s) (show k.toNat ≤ j.toNat by omega)
      unfold gP at e e2
      omega

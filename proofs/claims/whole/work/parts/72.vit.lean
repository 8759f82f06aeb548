/-! LinkTimes.vital -/
theorem cn_rm {p : Int → Bool} {x : Int} : ∀ {n : Nat}, 0 ≤ x → x < n → cn p n = cn (fun d => p d && !(d == x)) n + (if p x then 1 else 0)
  | 0, h0, h1 => by omega
  | n + 1, h0, h1 => by
    by_cases e : x = n
    · subst e
      have : cn (fun d => p d && !(d == (n : Int))) n = cn p n := cn_congr (fun d d0 d1 => by
        have : (d == (n : Int)) = false := by simp; omega
        simp [this])
      simp only [cn]
      rw [this]
      simp
    · have ih := cn_rm (p := p) (x := x) (n := n) h0 (by omega)
      have : ((n : Int) == x) = false := by simp; omega
      simp only [cn]
      rw [ih]
      simp [this]
      omega
theorem cn_z {p : Int → Bool} {n : Nat} (h : ∀ d : Int, 0 ≤ d → d < n → p d = false) : cn p n = 0 := by
  have hb := cn_b p n
  by_cases e : 0 < cn p n
  · obtain ⟨d, d0, d1, d2⟩ := cn_pos e
    rw [h d d0 d1] at d2
    exact absurd d2 (by decide)
  · omega
theorem cn_row {row : mF} : ∀ (c : Nat) {n : Nat} {p : Int → Bool}, (∀ i : Int, 0 ≤ i → i < c → 0 ≤ row i ∧ row i < n) → (∀ i j : Int, 0 ≤ i → i < j → j < c → row i ≠ row j) → (∀ d : Int, 0 ≤ d → d < n → p d = true → ∃ i : Int, 0 ≤ i ∧ i < c ∧ row i = d) → cn (fun i => p (row i)) c = cn p n
  | 0, n, p, _, _, h3 => by
    rw [cn_z (p := p) (n := n) (fun d d0 d1 => ?_)]
    · rfl
    · by_cases e : p d = true
      · obtain ⟨i, i0, i1, -⟩ := h3 d d0 d1 e
        omega
      · simpa using e
  | c + 1, n, p, h1, h2, h3 => by
    have hc := h1 c (by omega) (by omega)
    have ih := cn_row c (n := n) (p := fun d => p d && !(d == row c)) (fun i i0 i1 => h1 i i0 (by omega)) (fun i j i0 ij j1 => h2 i j i0 ij (by omega)) (fun d d0 d1 hd => by
      simp at hd
      obtain ⟨i, i0, i1, i2⟩ := h3 d d0 d1 hd.1
      refine ⟨i, i0, ?_, i2⟩
      by_cases e : i = c
      · rw [e] at i2; exact absurd i2.symm hd.2
      · omega)
    rw [cn_rm (p := p) (x := row c) hc.1 hc.2, ← ih]
    have : cn (fun i => p (row i)) c = cn (fun i => p (row i) && !(row i == row c)) c := cn_congr (fun d d0 d1 => by
      have : (row d == row c) = false := by simp; exact h2 d c d0 d1 (by omega)
      simp [this])
    simp only [cn]
    rw [this]
theorem nRun_ne {N : mN} {y z : Int} (h : z ≠ y) (hr : rn N z = 1) : rn (nRun N y 0) z = 1 := by
  show (if z = y then 0 else rn N z) = 1
  rw [if_neg h]; exact hr
theorem Bst.cau {N : mN} (hV : NV N) {a b q B : Int} {e t l x : mF} {f : Int} (h : Bst N a b q B e t l x f) (hf : f ≠ -1) {y : Int} (hy : ∀ k : Nat, (k : Int) < l f → itr x k f ≠ y) : ∀ k : Nat, (k : Int) < l f → Cau (nRun N y 0) a q (itr x k f) := by
  have hc := h.fc hf
  intro k
  induction k with
  | zero => intro _; exact (Cau.clo (nRun N y 0) a q).1 f hc.1 hc.2.2.1 hc.2.2.2.1
  | succ k ih =>
    intro hk
    obtain ⟨a1, a2, a3, a4⟩ := Lab.it hV h.2.1 h.1 hc.1 hc.2.1 hc.2.2.2.2 k (by omega)
    rcases Lab.nx hV h.2.1 h.1 a1 a2 (by rw [a3]; exact hc.2.2.2.2) with ⟨-, z2, -⟩ | ⟨z1, -⟩
    · omega
    · exact (Cau.clo (nRun N y 0) a q).2 (itr x k f) (x (itr x k f)) a1 (nRun_ne (hy k (by omega)) a2) (ih (by omega)) z1.2.2.1 z1.1 z1.2.2.2.1
theorem Bst.rd {N : mN} (hV : NV N) {a b q B : Int} {e t l x : mF} {f : Int} (h : Bst N a b q B e t l x f) (hf : f ≠ -1) {y : Int} (hy : ∀ k : Nat, (k : Int) < l f → itr x k f ≠ y) : ∃ z, Rd (nRun N y 0) a q b z ∧ ar N z = e f := by
  have hc := h.fc hf
  have hl := Lab.l2 hV h.2.1 h.1 hc.1 hc.2.1 hc.2.2.2.2
  obtain ⟨a1, a2, a3, a4⟩ := Lab.it hV h.2.1 h.1 hc.1 hc.2.1 hc.2.2.2.2 (l f - 1).toNat (by omega)
  refine ⟨itr x (l f - 1).toNat f, ⟨a1, nRun_ne (hy _ (by omega)) a2, h.cau hV hf hy _ (by omega), ?_⟩, ?_⟩
  · rcases Lab.nx hV h.2.1 h.1 a1 a2 (by rw [a3]; exact hc.2.2.2.2) with ⟨-, -, z⟩ | ⟨z1, z2, -⟩
    · exact z
    · have := Lab.l2 hV h.2.1 h.1 z1.1 z1.2.1 z1.2.2.2.2
      omega
  · rcases Lab.nx hV h.2.1 h.1 a1 a2 (by rw [a3]; exact hc.2.2.2.2) with ⟨-, -, z⟩ | ⟨z1, z2, -⟩
    · have := ((h.1 _ a1 a2).1 z).1
      rw [← this, a3]
    · have := Lab.l2 hV h.2.1 h.1 z1.1 z1.2.1 z1.2.2.2.2
      omega
theorem sn_run_le {N : mN} (hV : NV N) (a t b y : Int) : sn N a t b ≤ sn (nRun N y 0) a t b := by
  by_cases hab : a = b
  · subst hab; rw [sn_a, sn_a]; exact Int.le_refl _
  have hc : ∀ x, Cau (nRun N y 0) a t x → Cau N a t x := fun x hx => hx (fun x => Cau N a t x) ⟨fun z z1 z2 z3 => (Cau.clo N a t).1 z z1 z2 z3, fun e z e1 e2 e3 e4 e5 e6 => (Cau.clo N a t).2 e z e1 (nRun_0 e2).2 e3 e4 e5 e6⟩
  exact sn_le (nRun_V hV (Or.inl rfl)) hV hab (fun e he => ⟨e, ⟨he.1, (nRun_0 he.2.1).2, hc e he.2.2.1, he.2.2.2⟩, Int.le_refl _⟩)
theorem sn_off {N : mN} (hV : NV N) {a b q B : Int} {e t l x : mF} {f : Int} (h : Bst N a b q B e t l x f) (hf : f ≠ -1) (hab : a ≠ b) (hb : 0 ≤ b ∧ b < nS N) {y : Int} (hy : ∀ k : Nat, (k : Int) < l f → itr x k f ≠ y) : sn (nRun N y 0) a q b = sn N a q b := by
  have h1 := sn_run_le hV a q b y
  obtain ⟨z, z1, z2⟩ := h.rd hV hf hy
  have h2 := (sn_v (nRun_V hV (d := y) (Or.inl rfl)) hab (t := q)).2 z z1
  have h3 : ar (nRun N y 0) z = ar N z := rfl
  rcases h.sn hV hb hab with ⟨w, -⟩ | ⟨-, w, -⟩
  · exact absurd w hf
  · omega
/-- how many departures there are without which one comes later -/
noncomputable def vi (N : mN) (a b t : Int) : Int := cn (fun d => decide (sn (nRun N d 0) a t b ≠ sn N a t b)) (nN N).toNat
def Vi (N : mN) (a b t v : Int) : Prop := (a = b ∧ v = 0) ∨ (a ≠ b ∧ sn N a t b = 1000000 ∧ v = -2) ∨ (a ≠ b ∧ sn N a t b ≠ 1000000 ∧ v = vi N a b t)
theorem Vi.uniq {N : mN} {a b t v w : Int} (h : Vi N a b t v) (h' : Vi N a b t w) : v = w := by
  rcases h with ⟨x, y⟩ | ⟨x, y, z⟩ | ⟨x, y, z⟩ <;> rcases h' with ⟨x', y'⟩ | ⟨x', y', z'⟩ | ⟨x', y', z'⟩ <;> first | omega | (exact absurd x x') | (exact absurd x' x) | (exact absurd y y') | (exact absurd y' y) | (rw [z, z'])
theorem Bst_vi {N : mN} (hV : NV N) {a b q B : Int} {e t l x : mF} {f : Int} (h : Bst N a b q B e t l x f) (hf : f ≠ -1) (hab : a ≠ b) (hb : 0 ≤ b ∧ b < nS N) {row : mF} (hr : ∀ k : Nat, (k : Int) < l f → row k = itr x k f) : cn (fun j => decide (sn (nRun N (row j) 0) a q b ≠ e f)) (l f).toNat = vi N a b q := by
  have hc := h.fc hf
  have hl := Lab.l2 hV h.2.1 h.1 hc.1 hc.2.1 hc.2.2.2.2
  have hn := hV.1
  have he : e f = sn N a q b := by
    rcases h.sn hV hb hab with ⟨w, -⟩ | ⟨-, w, -⟩
    · exact absurd w hf
    · exact w.symm
  rw [he]
  have it : ∀ i : Int, 0 ≤ i → i < l f → row i = itr x i.toNat f ∧ dp N (row i) ∧ l (row i) = l f - i := fun i i0 i1 => by
    have ei : ((i.toNat : Nat) : Int) = i := by omega
    have y := hr i.toNat (by omega)
    rw [ei] at y
    obtain ⟨a1, -, -, a4⟩ := Lab.it hV h.2.1 h.1 hc.1 hc.2.1 hc.2.2.2.2 i.toNat (by omega)
    rw [y]
    exact ⟨rfl, a1, by omega⟩
  refine cn_row (l f).toNat (n := (nN N).toNat) (p := fun d => decide (sn (nRun N d 0) a q b ≠ sn N a q b)) (fun i i0 i1 => ?_) (fun i j i0 ij j1 z => ?_) (fun d d0 d1 hd => ?_)
  · have := (it i i0 (by omega)).2.1
    exact ⟨this.1, by have := this.2; omega⟩
  · have z1 := (it i i0 (by omega)).2.2
    have z2 := (it j (by omega) (by omega)).2.2
    rw [z] at z1
    omega
  · simp at hd
    by_cases z : ∃ k : Nat, (k : Int) < l f ∧ itr x k f = d
    · obtain ⟨k, k1, k2⟩ := z
      exact ⟨k, by omega, by omega, by rw [hr k k1]; exact k2⟩
    · exact absurd (sn_off hV h hf hab hb (fun k k1 k2 => z ⟨k, k1, k2⟩)) hd
set_option maxRecDepth 100000 in
set_option maxHeartbeats 1000000 in
theorem Lt_vitalL (a b t : Int) (h : mH) (r : mR) (hD : DV h) (ha : 0 ≤ a ∧ a < h 2 1) (hb : 0 ≤ b ∧ b < h 2 1) (h0 : mH) (c E : Int) (e0 : h0 41 0 = c) (e1 : h0 41 2 = E) (e2 : h0 0 12 = 0) (hc : 0 ≤ c ∧ c ≤ 120) (hr : ∀ i, 0 ≤ i → i < c → dp (dN h 0) (h0 42 i)  ∧ rn (dN h 0) (h0 42 i) = 1) (hE : ∀ i, 0 ≤ i → i < c → E ≤ sn (nRun (dN h 0) (h0 42 i) 0) a t b) (P : Int → Int → Prop) (K : P (cn (fun j => decide (sn (nRun (dN h 0) (h0 42 j) 0) a t b ≠ E)) c.toNat) 0) : ∀ (M : Nat) (i f : Int) (h1 : mH) (r1 : mR), (c - i).toNat = M → 0 ≤ i → i ≤ c → f = cn (fun j => decide (sn (nRun (dN h 0) (h0 42 j) 0) a t b ≠ E)) i.toNat → fr [34, 49, 50] h0 h1 → qf h r h1 r1 → netW h1 r1 (dN h 0) → WP (true, rm 7) m_Lt_vital (rt m_Lt_vital (rm 7) (qP h r P)) 32 [some (vR 0), some (vI a), some (vI b), some (vI t), some (vI 0), some (vR 41), some (vI f), some (vI i)] [] h1 r1 (0, 0) := by
  intro M
  induction M using Nat.strongRecOn with
  | ind M ih =>
    intro i f h1 r1 hM i0 i1 hf hfr q1 w1
    have x0 : h1 41 0 = c := by rw [hfr.at 41 0 (by decide)]; exact e0
    have x2 : h1 42 i = h0 42 i := hfr.at 42 i (by decide)
    have hfb := cn_b (fun j => decide (sn (nRun (dN h 0) (h0 42 j) 0) a t b ≠ E)) i.toNat
    have hn := hD.1
    refine wq_iload (i := 7) (q := 34) rfl rfl rfl ?_
    refine wq_aload (i := 5) (q := 36) rfl rfl rfl ?_
    refine wq_getI (kz := 0) (q := 39) rfl f_Lt_212 rfl rfl (Or.inl ⟨rfl, Nat.le_of_ble_eq_true rfl⟩) rfl rfl ?_
    refine wq_icmp_ge (tgt := 98) (q := 42) rfl rfl rfl (fun c39 => ?_) (fun c39 => ?_)
    · skip
      refine wq_iload (i := 6) (q := 100) rfl rfl rfl ?_
      refine wq_iret rfl rfl (Nat.le_refl _) (Nat.le_refl _) ⟨_, rfl, ?_, q1⟩
      have ei : i = c := by omega
      rw [hfr.at 0 12 (by decide), e2, hf, ei]
      exact K
    · skip
      refine wq_aload_n (kk := 0) (q := 43) rfl rfl rfl ?_
      refine wq_getF (q := 46) f_Lt_44 rfl rfl (Nat.le_of_ble_eq_true rfl) rfl rfl rfl ?_
      refine wq_aload (i := 5) (q := 48) rfl rfl rfl ?_
      refine wq_getF (q := 51) f_Lt_213 rfl rfl (Nat.le_of_ble_eq_true rfl) rfl rfl rfl ?_
      refine wq_iload (i := 7) (q := 53) rfl rfl rfl ?_
      refine wq_iald (q := 54) rfl (Or.inl ⟨rfl, Nat.le_of_ble_eq_true rfl⟩) rfl rfl (by first | omega | (simp [hup]; omega)) (by first | omega | (simp [hup]; omega)) ?_
      rw [x2]
      have hd := hr i i0 (by omega)
      have hd1 : 0 ≤ h0 42 i ∧ h0 42 i < h 2 4 := hd.1
      have hEi := hE i i0 (by omega)
      have ho := (hD.2.2.1 _ hd1.1 hd1.2).2.2.2.1
      have h12 : h1 12 (h0 42 i) = h 12 (h0 42 i) := q1.1.at 12 _ (by decide)
      refine wq_iconst (n := 0) (q := 55) rfl rfl rfl ?_
      refine wq_callV (q := 58) (m' := m_Ne_setRuns) (R' := rm 1) (As := [_, _]) rfl rfl l_Lt_305 vm_Ne_setRuns rfl rfl rfl (Or.inl ⟨rfl, Nat.le_of_ble_eq_true rfl⟩) (Nat.le_of_ble_eq_true rfl) (Nat.le_of_ble_eq_true rfl) (Nat.le_refl _) (Nat.le_refl _) (Nat.le_of_ble_eq_true rfl) (Ne_setRuns_ok (h0 42 i) 0 0 h1 r1 w1.1 (by omega) (Or.inl rfl) (by omega) rfl) rfl ?_
      rintro rv h2 r1 ⟨rfl, rfl, rfl⟩ -
      have q2 := q1.scr (S := [34]) (h2 := hup h1 34 (h0 42 i) 0) (fr.rf.up (by decide)) (by decide)
      have w2 := w1.run (d := h0 42 i) (v := 0) (Or.inl rfl)
      refine wq_aload_n (kk := 0) (q := 59) rfl rfl rfl ?_
      refine wq_iload_n (kk := 1) (q := 60) rfl rfl rfl ?_
      refine wq_iload_n (kk := 2) (q := 61) rfl rfl rfl ?_
      refine wq_iload_n (kk := 3) (q := 62) rfl rfl rfl ?_
      refine wq_callV (q := 65) (m' := m_Lt_soonestAt) (R' := rm 5) (As := [_, _, _]) rfl rfl l_Lt_264 vm_Lt_soonestAt rfl rfl rfl (Or.inl ⟨rfl, Nat.le_of_ble_eq_true rfl⟩) (Nat.le_of_ble_eq_true rfl) (Nat.le_of_ble_eq_true rfl) (Nat.le_refl _) (Nat.le_refl _) (Nat.le_of_ble_eq_true rfl) (Lt_soonestAt_ok (nRun (dN h 0) (h0 42 i) 0) a b t _ r1 w2 ha hb) rfl ?_
      rintro rv h3 r1 ⟨v, rfl, hs, rfl, f3⟩ -
      have q3 := q2.scr f3 (by decide)
      have w3 := w2.fr f3 (by decide)
      have ev := hs.sn w2.2.1 hb
      have f4 : fr [34, 49, 50] h0 h3 := (hfr.up (by decide)).trans f3 (by decide)
      have x3 : h3 41 2 = E := by rw [f4.at 41 2 (by decide)]; exact e1
      have x4 : h3 42 i = h0 42 i := f4.at 42 i (by decide)
      have h12' : h3 12 (h0 42 i) = h 12 (h0 42 i) := q3.1.at 12 _ (by decide)
      refine wq_aload (i := 5) (q := 67) rfl rfl rfl ?_
      refine wq_getI (kz := 2) (q := 70) rfl f_Lt_202 rfl rfl (Or.inl ⟨rfl, Nat.le_of_ble_eq_true rfl⟩) rfl rfl ?_
      refine wq_icmp_le (tgt := 76) (q := 73) rfl rfl rfl (fun c70 => ?_) (fun c70 => ?_)
      · skip
        refine wq_aload_n (kk := 0) (q := 77) rfl rfl rfl ?_
        refine wq_getF (q := 80) f_Lt_44 rfl rfl (Nat.le_of_ble_eq_true rfl) rfl rfl rfl ?_
        refine wq_aload (i := 5) (q := 82) rfl rfl rfl ?_
        refine wq_getF (q := 85) f_Lt_213 rfl rfl (Nat.le_of_ble_eq_true rfl) rfl rfl rfl ?_
        refine wq_iload (i := 7) (q := 87) rfl rfl rfl ?_
        refine wq_iald (q := 88) rfl (Or.inl ⟨rfl, Nat.le_of_ble_eq_true rfl⟩) rfl rfl (by first | omega | (simp [hup]; omega)) (by first | omega | (simp [hup]; omega)) ?_
        rw [x4]
        refine wq_iconst (n := 1) (q := 89) rfl rfl rfl ?_
        refine wq_callV (q := 92) (m' := m_Ne_setRuns) (R' := rm 1) (As := [_, _]) rfl rfl l_Lt_305 vm_Ne_setRuns rfl rfl rfl (Or.inl ⟨rfl, Nat.le_of_ble_eq_true rfl⟩) (Nat.le_of_ble_eq_true rfl) (Nat.le_of_ble_eq_true rfl) (Nat.le_refl _) (Nat.le_refl _) (Nat.le_of_ble_eq_true rfl) (Ne_setRuns_ok (h0 42 i) 1 (1 - h 12 (h0 42 i)) h3 r1 w3.1 (by omega) (Or.inr rfl) (by omega) (by rw [if_neg (by omega), h12'])) rfl ?_
        rintro rv h4 r1 ⟨rfl, rfl, rfl⟩ -
        have q4 := q3.scr (S := [34]) (h2 := hup h3 34 (h0 42 i) (1 - h 12 (h0 42 i))) (fr.rf.up (by decide)) (by decide)
        have w4 := w3.run (d := h0 42 i) (v := 1 - h 12 (h0 42 i)) (by omega)
        have e4 : nRun (nRun (dN h 0) (h0 42 i) 0) (h0 42 i) (1 - h 12 (h0 42 i)) = dN h 0 := by
          show nRun (nRun (dN h 0) (h0 42 i) 0) (h0 42 i) (rn (dN h 0) (h0 42 i)) = dN h 0
          exact nRun_back _ _ _
        rw [e4] at w4
        refine wq_iinc (i := 7) (n := 1) (q := 95) rfl rfl rfl (Nat.le_of_ble_eq_true rfl) rfl (by first | omega | (simp [hup]; omega)) (by first | omega | (simp [hup]; omega)) ?_
        refine wq_goto (tgt := 32) rfl rfl ?_
        refine ih _ (by omega) (i + 1) _ _ _ rfl (by omega) (by omega) ?_ (f4.up (by decide)) q4 w4
        rw [cn_s i0]
        simp only [decide_eq_true_eq]
        split <;> omega
      · skip
        refine wq_iinc (i := 6) (n := 1) (q := 76) rfl rfl rfl (Nat.le_of_ble_eq_true rfl) rfl (by first | omega | (simp [hup]; omega)) (by first | omega | (simp [hup]; omega)) ?_
        refine wq_aload_n (kk := 0) (q := 77) rfl rfl rfl ?_
        refine wq_getF (q := 80) f_Lt_44 rfl rfl (Nat.le_of_ble_eq_true rfl) rfl rfl rfl ?_
        refine wq_aload (i := 5) (q := 82) rfl rfl rfl ?_
        refine wq_getF (q := 85) f_Lt_213 rfl rfl (Nat.le_of_ble_eq_true rfl) rfl rfl rfl ?_
        refine wq_iload (i := 7) (q := 87) rfl rfl rfl ?_
        refine wq_iald (q := 88) rfl (Or.inl ⟨rfl, Nat.le_of_ble_eq_true rfl⟩) rfl rfl (by first | omega | (simp [hup]; omega)) (by first | omega | (simp [hup]; omega)) ?_
        rw [x4]
        refine wq_iconst (n := 1) (q := 89) rfl rfl rfl ?_
        refine wq_callV (q := 92) (m' := m_Ne_setRuns) (R' := rm 1) (As := [_, _]) rfl rfl l_Lt_305 vm_Ne_setRuns rfl rfl rfl (Or.inl ⟨rfl, Nat.le_of_ble_eq_true rfl⟩) (Nat.le_of_ble_eq_true rfl) (Nat.le_of_ble_eq_true rfl) (Nat.le_refl _) (Nat.le_refl _) (Nat.le_of_ble_eq_true rfl) (Ne_setRuns_ok (h0 42 i) 1 (1 - h 12 (h0 42 i)) h3 r1 w3.1 (by omega) (Or.inr rfl) (by omega) (by rw [if_neg (by omega), h12'])) rfl ?_
        rintro rv h4 r1 ⟨rfl, rfl, rfl⟩ -
        have q4 := q3.scr (S := [34]) (h2 := hup h3 34 (h0 42 i) (1 - h 12 (h0 42 i))) (fr.rf.up (by decide)) (by decide)
        have w4 := w3.run (d := h0 42 i) (v := 1 - h 12 (h0 42 i)) (by omega)
        have e4 : nRun (nRun (dN h 0) (h0 42 i) 0) (h0 42 i) (1 - h 12 (h0 42 i)) = dN h 0 := by
          show nRun (nRun (dN h 0) (h0 42 i) 0) (h0 42 i) (rn (dN h 0) (h0 42 i)) = dN h 0
          exact nRun_back _ _ _
        rw [e4] at w4
        refine wq_iinc (i := 7) (n := 1) (q := 95) rfl rfl rfl (Nat.le_of_ble_eq_true rfl) rfl (by first | omega | (simp [hup]; omega)) (by first | omega | (simp [hup]; omega)) ?_
        refine wq_goto (tgt := 32) rfl rfl ?_
        refine ih _ (by omega) (i + 1) _ _ _ rfl (by omega) (by omega) ?_ (f4.up (by decide)) q4 w4
        rw [cn_s i0]
        simp only [decide_eq_true_eq]
        split <;> omega
set_option maxRecDepth 100000 in
set_option maxHeartbeats 1000000 in
theorem Lt_vital_ok (a b t : Int) (h : mH) (r : mR) (hI : IQ h r) : Meets true (rm 7) m_Lt_vital [vR 0, vI a, vI b, vI t] h r (qP h r (Ans (kP (h 2 1) a b (bI (isT t))) (fun v tr => tr = 0 ∧ Vi (dN h 0) a b t v))) := by
  have hV := dN_V hI.1 0
  refine ⟨ok_Lt_vital, Nat.le_of_ble_eq_true rfl, ?_⟩
  refine wq_aload_n (kk := 0) (q := 1) rfl rfl rfl ?_
  refine wq_iload_n (kk := 1) (q := 2) rfl rfl rfl ?_
  refine wq_iload_n (kk := 2) (q := 3) rfl rfl rfl ?_
  refine wq_iload_n (kk := 3) (q := 4) rfl rfl rfl ?_
  refine wq_callV (q := 7) (m' := m_Lt_seekBest) (R' := rm 6) (As := [_, _, _]) rfl rfl l_Lt_194 vm_Lt_seekBest rfl rfl rfl (Or.inl ⟨rfl, Nat.le_of_ble_eq_true rfl⟩) (Nat.le_of_ble_eq_true rfl) (Nat.le_of_ble_eq_true rfl) (Nat.le_refl _) (Nat.le_refl _) (Nat.le_of_ble_eq_true rfl) (Lt_seekBest_ok a b t h r hI) rfl ?_
  rintro rv h1 r1 ⟨v, rfl, q1, hs⟩ -
  refine wq_istore (i := 4) (q := 9) rfl rfl (Nat.le_of_ble_eq_true rfl) rfl ?_
  refine wq_iload (i := 4) (q := 11) rfl rfl rfl ?_
  refine wq_if_eq (tgt := 17) (q := 14) rfl rfl rfl (fun c11 => ?_) (fun c11 => ?_)
  · skip
    rcases hs with ⟨z1, z2, z3⟩ | ⟨z1, z2, z3, w, z4, z5⟩
    · exfalso; omega
    have hab := (kP_0 z1).1
    subst c11
    refine wq_aload_n (kk := 0) (q := 18) rfl rfl rfl ?_
    refine wq_getF (q := 21) f_Lt_51 rfl rfl (Nat.le_of_ble_eq_true rfl) rfl rfl rfl ?_
    refine wq_getF (q := 24) f_Lt_198 rfl rfl (Nat.le_of_ble_eq_true rfl) rfl rfl rfl ?_
    refine wq_astore (i := 5) (q := 26) rfl rfl (Nat.le_of_ble_eq_true rfl) rfl ?_
    refine wq_iconst (n := 0) (q := 27) rfl rfl rfl ?_
    refine wq_istore (i := 6) (q := 29) rfl rfl (Nat.le_of_ble_eq_true rfl) rfl ?_
    refine wq_iconst (n := 0) (q := 30) rfl rfl rfl ?_
    refine wq_istore (i := 7) (q := 32) rfl rfl (Nat.le_of_ble_eq_true rfl) rfl ?_
    rcases z4 with ⟨y, y1, y2, y3, y4, y5⟩ | ⟨y1, hA, f, y2, ⟨y3, y4, -⟩ | ⟨y3, y4, y5⟩⟩
    · exact Lt_vitalL a b t h r hI.1 hab.1 hab.2 h1 0 (h1 41 2) y2 rfl z2 (by omega) (fun i i0 i1 => by omega) (fun i i0 i1 => by omega) _ (Or.inr ⟨z1, rfl, Or.inl ⟨y, rfl⟩⟩) _ 0 0 _ _ rfl (by omega) (by omega) rfl fr.rf q1 z3
    · exfalso; omega
    · have hc := y2.fc y3
      have hrow := hA.row hV y2 y3 y5
      have hsn := y2.sn hV hab.2 y1
      have hw := y5.1
      have hl := Lab.l2 hV y2.2.1 y2.1 hc.1 hc.2.1 hc.2.2.2.2
      have hit : ∀ i, 0 ≤ i → i < h1 46 f → dp (dN h 0) (h1 42 i) ∧ rn (dN h 0) (h1 42 i) = 1 := fun i i0 i1 => by
        have ei : ((i.toNat : Nat) : Int) = i := by omega
        have y := y5.2.2.2.2 i.toNat (by omega)
        rw [ei] at y
        rw [y]
        obtain ⟨a1, a2, -⟩ := Lab.it hV y2.2.1 y2.1 hc.1 hc.2.1 hc.2.2.2.2 i.toNat (by omega)
        exact ⟨a1, a2⟩
      refine Lt_vitalL a b t h r hI.1 hab.1 hab.2 h1 (h1 46 f) (h1 44 f) y5.1 y5.2.2.1 z2 (by omega) hit (fun i i0 i1 => ?_) _ (Or.inr ⟨z1, rfl, Or.inr (Or.inr ⟨y1, ?_, Bst_vi hV y2 y3 y1 hab.2 y5.2.2.2.2⟩)⟩) _ 0 0 _ _ rfl (by omega) (by omega) rfl fr.rf q1 z3
      · have := sn_run_le hV a t b (h1 42 i)
        omega
      · omega
  · skip
    refine wq_iload (i := 4) (q := 16) rfl rfl rfl ?_
    refine wq_iret rfl rfl (Nat.le_refl _) (Nat.le_refl _) ⟨_, rfl, ?_, q1⟩
    rcases hs with ⟨z1, z2, z3⟩ | ⟨z1, z2, z3, w, z4, z5⟩
    · exact Or.inl ⟨z1, z2, z3⟩
    · refine Or.inr ⟨z1, z2, ?_⟩
      rcases z4 with ⟨-, y, -⟩ | ⟨y1, -, f, y2, ⟨y3, y4, -⟩ | ⟨-, y4, -⟩⟩
      · omega
      · rcases y2.sn hV (kP_0 z1).1.2 y1 with ⟨-, u⟩ | ⟨u, -⟩
        · exact Or.inr (Or.inl ⟨y1, u, by omega⟩)
        · exact absurd y3 u
      · omega

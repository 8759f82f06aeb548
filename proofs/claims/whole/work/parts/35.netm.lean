/-! what a question does to the net: eased, a departure that doesn't run, one that is later -/
def nEase (N : mN) : mN := (nN N, nS N, lv N, ar N, frm N, dst N, ln N, rn N, fun _ => 0, fun _ => -2)
def nRun (N : mN) (d v : Int) : mN := (nN N, nS N, lv N, ar N, frm N, dst N, ln N, fun x => if x = d then v else rn N x, gp N, pt N)
def nRuns (N : mN) (f : mF) : mN := (nN N, nS N, lv N, ar N, frm N, dst N, ln N, f, gp N, pt N)
def nLate (N : mN) (d k : Int) : mN := (nN N, nS N, fun x => if x = d then lv N x + k else lv N x, fun x => if x = d then ar N x + k else ar N x, frm N, dst N, ln N, rn N, gp N, pt N)
theorem nEase_V {N : mN} (h : NV N) : NV (nEase N) := ⟨h.1, h.2.1, h.2.2.1, fun s _ _ => ⟨by show (0 : Int) ≤ 0 ∧ (0 : Int) ≤ 99; omega, Or.inl rfl⟩⟩
theorem nRuns_V {N : mN} (h : NV N) {f : mF} (hf : ∀ d, dp N d → f d = 0 ∨ f d = 1) : NV (nRuns N f) := ⟨h.1, h.2.1, fun d hd => ⟨(h.2.2.1 d hd).1, (h.2.2.1 d hd).2.1, (h.2.2.1 d hd).2.2.1, (h.2.2.1 d hd).2.2.2.1, hf d hd⟩, h.2.2.2⟩
theorem nRun_V {N : mN} (h : NV N) {d v : Int} (hv : v = 0 ∨ v = 1) : NV (nRun N d v) := nRuns_V h (fun x hx => by
  by_cases e : x = d
  · simp [e]; omega
  · simp [e]; exact (h.2.2.1 x hx).2.2.2.2)
theorem nLate_V {N : mN} (h : NV N) {d k : Int} (hk : 0 ≤ k) (hd : lv N d + k ≤ 1500 ∧ ar N d + k ≤ 1700) : NV (nLate N d k) := ⟨h.1, h.2.1, fun x hx => by
  have := h.2.2.1 x hx
  refine ⟨this.1, this.2.1, ?_, ?_, this.2.2.2.2⟩
  · show 0 ≤ (if x = d then lv N x + k else lv N x) ∧ (if x = d then lv N x + k else lv N x) ≤ 1500
    split
    · subst_vars; omega
    · omega
  · show (if x = d then lv N x + k else lv N x) < (if x = d then ar N x + k else ar N x) ∧ (if x = d then ar N x + k else ar N x) ≤ 1700
    split
    · subst_vars; omega
    · omega, h.2.2.2⟩
set_option maxRecDepth 100000 in
set_option maxHeartbeats 1000000 in
theorem Ne_easeA (N : mN) (h : mH) (r : mR) (hnde : r.1 31 7 = some 2) (hV : NV N) (hN : isN h N) : ∀ (M : Nat) (s : Int) (h' : mH), (nS N - s).toNat = M → 0 ≤ s → s ≤ nS N → fr [38, 39] h h' → (∀ t, 0 ≤ t → t < s → h' 38 t = 0 ∧ h' 39 t = -2) → WP (true, rm 1) m_Ne_ease (rt m_Ne_ease (rm 1) (fun rv h1 r1 => rv = none ∧ r1 = r ∧ fr [38, 39] h h1 ∧ isN h1 (nEase N))) 2 [some (vR 31), some (vI s)] [] h' r (0, 0) := by
  intro M
  induction M using Nat.strongRecOn with
  | ind M ih =>
    intro s h' hM s0 s1 hf hx
    have hn := hV.2.1
    have e2 : h' 2 1 = nS N := by rw [hf.at 2 1 (by decide)]; exact hN.2.1
    refine wq_iload_n (kk := 1) (q := 3) rfl rfl rfl ?_
    refine wq_aload_n (kk := 0) (q := 4) rfl rfl rfl ?_
    refine wq_getR (q := 7) f_Ne_37 rfl rfl (Or.inl ⟨rfl, Nat.le_of_ble_eq_true rfl⟩) hnde rfl rfl ?_
    refine wq_getI (kz := 1) (q := 10) rfl f_Ne_45 rfl rfl (Or.inl ⟨rfl, Nat.le_of_ble_eq_true rfl⟩) rfl rfl ?_
    refine wq_icmp_ge (tgt := 34) (q := 13) rfl rfl rfl (fun c10 => ?_) (fun c10 => ?_)
    · skip
      refine wq_vret rfl rfl (Nat.le_refl _) (Nat.le_refl _) ⟨rfl, rfl, hf, by rw [hf.at 31 0 (by decide)]; exact hN.1, e2, fun d hd => ?_, fun t t0 t1 => hx t t0 (by have : t < nS N := t1; omega)⟩
      have := hN.2.2.1 d hd
      rw [hf.at 32 d (by decide), hf.at 33 d (by decide), hf.at 6 d (by decide), hf.at 7 d (by decide), hf.at 5 d (by decide), hf.at 34 d (by decide)]
      exact this
    · skip
      refine wq_aload_n (kk := 0) (q := 14) rfl rfl rfl ?_
      refine wq_getF (q := 17) f_Ne_31 rfl rfl (Nat.le_of_ble_eq_true rfl) rfl rfl rfl ?_
      refine wq_iload_n (kk := 1) (q := 18) rfl rfl rfl ?_
      refine wq_iconst (n := 0) (q := 19) rfl rfl rfl ?_
      refine wq_iast (q := 20) rfl (Or.inl ⟨rfl, Nat.le_of_ble_eq_true rfl⟩) rfl rfl (by first | omega | (simp [hup]; omega)) (by first | omega | (simp [hup]; omega)) ?_
      refine wq_aload_n (kk := 0) (q := 21) rfl rfl rfl ?_
      refine wq_getF (q := 24) f_Ne_34 rfl rfl (Nat.le_of_ble_eq_true rfl) rfl rfl rfl ?_
      refine wq_iload_n (kk := 1) (q := 25) rfl rfl rfl ?_
      refine wq_bipush (n := -2) (q := 27) rfl rfl rfl ?_
      refine wq_iast (q := 28) rfl (Or.inl ⟨rfl, Nat.le_of_ble_eq_true rfl⟩) rfl rfl (by first | omega | (simp [hup]; omega)) (by first | omega | (simp [hup]; omega)) ?_
      refine wq_iinc (i := 1) (n := 1) (q := 31) rfl rfl rfl (Nat.le_of_ble_eq_true rfl) rfl (by first | omega | (simp [hup]; omega)) (by first | omega | (simp [hup]; omega)) ?_
      refine wq_goto (tgt := 2) rfl rfl ?_
      refine ih _ ?_ (s + 1) _ rfl (by omega) (by omega) ((hf.up (by decide)).up (by decide)) (fun t t0 t1 => ?_)
      · omega
      · by_cases et : t = s
        · subst et; simp [hup]
        · simp [hup, et]; exact hx t t0 (by omega)
set_option maxRecDepth 100000 in
theorem Ne_ease_ok (N : mN) (h : mH) (r : mR) (hnde : r.1 31 7 = some 2) (hV : NV N) (hN : isN h N) : Meets true (rm 1) m_Ne_ease [vR 31] h r (fun rv h1 r1 => rv = none ∧ r1 = r ∧ fr [38, 39] h h1 ∧ isN h1 (nEase N)) := by
  have hn := hV.2.1
  refine ⟨ok_Ne_ease, Nat.le_of_ble_eq_true rfl, ?_⟩
  refine wq_iconst (n := 0) (q := 1) rfl rfl rfl ?_
  refine wq_istore_n (kk := 1) (q := 2) rfl rfl (Nat.le_of_ble_eq_true rfl) rfl ?_
  exact Ne_easeA N h r hnde hV hN _ 0 h rfl (by omega) (by omega) fr.rf (fun t t0 t1 => by omega)
set_option maxRecDepth 100000 in
theorem Ne_setRuns_ok (d b v : Int) (h : mH) (r : mR) (hnde : r.1 31 7 = some 2) (hd : 0 ≤ d ∧ d < 120) (hb : b = 0 ∨ b = 1) (ho : h 12 d = 0 ∨ h 12 d = 1) (hv : v = if b = 0 then 0 else 1 - h 12 d) : Meets true (rm 1) m_Ne_setRuns [vR 31, vI d, vI b] h r (pH (hup h 34 d v) r) := by
  refine ⟨ok_Ne_setRuns, Nat.le_of_ble_eq_true rfl, ?_⟩
  refine wq_aload_n (kk := 0) (q := 1) rfl rfl rfl ?_
  refine wq_getF (q := 4) f_Ne_18 rfl rfl (Nat.le_of_ble_eq_true rfl) rfl rfl rfl ?_
  refine wq_iload_n (kk := 1) (q := 5) rfl rfl rfl ?_
  refine wq_iload_n (kk := 2) (q := 6) rfl rfl rfl ?_
  refine wq_if_eq (tgt := 25) (q := 9) rfl rfl rfl (fun c6 => ?_) (fun c6 => ?_)
  · skip
    refine wq_iconst (n := 0) (q := 26) rfl rfl rfl ?_
    refine wq_zast (q := 27) rfl (Or.inl ⟨rfl, Nat.le_of_ble_eq_true rfl⟩) rfl rfl (by first | omega | (simp [hup]; omega)) (by first | omega | (simp [hup]; omega)) (by omega) ?_
    refine wq_vret rfl rfl (Nat.le_refl _) (Nat.le_refl _) ?_
    refine ⟨rfl, ?_, rfl⟩
    congr 1
    rw [hv]
    first | (rw [if_pos (by omega)]; done) | (rw [if_neg (by omega)]; omega) | (split <;> omega)
  · skip
    refine wq_aload_n (kk := 0) (q := 10) rfl rfl rfl ?_
    refine wq_getR (q := 13) f_Ne_37 rfl rfl (Or.inl ⟨rfl, Nat.le_of_ble_eq_true rfl⟩) hnde rfl rfl ?_
    refine wq_getF (q := 16) f_Ne_70 rfl rfl (Nat.le_of_ble_eq_true rfl) rfl rfl rfl ?_
    refine wq_iload_n (kk := 1) (q := 17) rfl rfl rfl ?_
    refine wq_zald (q := 18) rfl (Or.inl ⟨rfl, Nat.le_of_ble_eq_true rfl⟩) rfl rfl (by first | omega | (simp [hup]; omega)) (by first | omega | (simp [hup]; omega)) ?_
    refine wq_if_ne (tgt := 25) (q := 21) rfl rfl rfl (fun c18 => ?_) (fun c18 => ?_)
    · skip
      refine wq_iconst (n := 0) (q := 26) rfl rfl rfl ?_
      refine wq_zast (q := 27) rfl (Or.inl ⟨rfl, Nat.le_of_ble_eq_true rfl⟩) rfl rfl (by first | omega | (simp [hup]; omega)) (by first | omega | (simp [hup]; omega)) (by omega) ?_
      refine wq_vret rfl rfl (Nat.le_refl _) (Nat.le_refl _) ?_
      refine ⟨rfl, ?_, rfl⟩
      congr 1
      rw [hv]
      first | (rw [if_pos (by omega)]; done) | (rw [if_neg (by omega)]; omega) | (split <;> omega)
    · skip
      refine wq_iconst (n := 1) (q := 22) rfl rfl rfl ?_
      refine wq_goto (tgt := 26) rfl rfl ?_
      refine wq_zast (q := 27) rfl (Or.inl ⟨rfl, Nat.le_of_ble_eq_true rfl⟩) rfl rfl (by first | omega | (simp [hup]; omega)) (by first | omega | (simp [hup]; omega)) (by omega) ?_
      refine wq_vret rfl rfl (Nat.le_refl _) (Nat.le_refl _) ?_
      refine ⟨rfl, ?_, rfl⟩
      congr 1
      rw [hv]
      first | (rw [if_pos (by omega)]; done) | (rw [if_neg (by omega)]; omega) | (split <;> omega)
set_option maxRecDepth 100000 in
set_option maxHeartbeats 1000000 in
theorem Ne_dropA (h : mH) (r : mR) (c : Int) (hc : h 41 0 = c) (hc1 : 0 ≤ c ∧ c ≤ 120) (hr : ∀ i, 0 ≤ i → i < c → 0 ≤ h 42 i ∧ h 42 i < 120) : ∀ (M : Nat) (i : Int) (h' : mH), (c - i).toNat = M → 0 ≤ i → i ≤ c → fr [34] h h' → (∀ d, (∃ j, 0 ≤ j ∧ j < i ∧ h 42 j = d) ∧ h' 34 d = 0 ∨ (∀ j, 0 ≤ j → j < i → h 42 j ≠ d) ∧ h' 34 d = h 34 d) → WP (true, rm 1) m_Ne_dropAll (rt m_Ne_dropAll (rm 1) (fun rv h1 r1 => rv = none ∧ r1 = r ∧ fr [34] h h1 ∧ ∀ d, (∃ j, 0 ≤ j ∧ j < c ∧ h 42 j = d) ∧ h1 34 d = 0 ∨ (∀ j, 0 ≤ j → j < c → h 42 j ≠ d) ∧ h1 34 d = h 34 d)) 2 [some (vR 31), some (vR 41), some (vI i)] [] h' r (0, 0) := by
  intro M
  induction M using Nat.strongRecOn with
  | ind M ih =>
    intro i h' hM i0 i1 hf hx
    have e41 : h' 41 0 = c := by rw [hf.at 41 0 (by decide)]; exact hc
    have e42 : h' 42 i = h 42 i := hf.at 42 i (by decide)
    refine wq_iload_n (kk := 2) (q := 3) rfl rfl rfl ?_
    refine wq_aload_n (kk := 1) (q := 4) rfl rfl rfl ?_
    refine wq_getI (kz := 0) (q := 7) rfl f_Ne_79 rfl rfl (Or.inl ⟨rfl, Nat.le_of_ble_eq_true rfl⟩) rfl rfl ?_
    refine wq_icmp_ge (tgt := 28) (q := 10) rfl rfl rfl (fun c7 => ?_) (fun c7 => ?_)
    · skip
      have e : i = c := by omega
      subst e
      exact wq_vret rfl rfl (Nat.le_refl _) (Nat.le_refl _) ⟨rfl, rfl, hf, hx⟩
    · skip
      refine wq_aload_n (kk := 0) (q := 11) rfl rfl rfl ?_
      refine wq_getF (q := 14) f_Ne_18 rfl rfl (Nat.le_of_ble_eq_true rfl) rfl rfl rfl ?_
      refine wq_aload_n (kk := 1) (q := 15) rfl rfl rfl ?_
      refine wq_getF (q := 18) f_Ne_82 rfl rfl (Nat.le_of_ble_eq_true rfl) rfl rfl rfl ?_
      refine wq_iload_n (kk := 2) (q := 19) rfl rfl rfl ?_
      refine wq_iald (q := 20) rfl (Or.inl ⟨rfl, Nat.le_of_ble_eq_true rfl⟩) rfl rfl (by first | omega | (have := hr i i0 (by omega); omega)) (by first | omega | (have := hr i i0 (by omega); omega)) ?_
      refine wq_iconst (n := 0) (q := 21) rfl rfl rfl ?_
      refine wq_zast (q := 22) rfl (Or.inl ⟨rfl, Nat.le_of_ble_eq_true rfl⟩) rfl rfl (by first | omega | (have := hr i i0 (by omega); omega)) (by first | omega | (have := hr i i0 (by omega); omega)) (by omega) ?_
      refine wq_iinc (i := 2) (n := 1) (q := 25) rfl rfl rfl (Nat.le_of_ble_eq_true rfl) rfl (by first | omega | (have := hr i i0 (by omega); omega)) (by first | omega | (have := hr i i0 (by omega); omega)) ?_
      refine wq_goto (tgt := 2) rfl rfl ?_
      refine ih _ ?_ (i + 1) _ rfl (by omega) (by omega) (hf.up (by decide)) (fun d => ?_)
      · omega
      · by_cases ed : d = h 42 i
        · subst ed
          left
          exact ⟨⟨i, i0, by omega, rfl⟩, by rw [e42, hup_s]⟩
        · rw [e42, hup_j ed]
          rcases hx d with ⟨⟨j, a, b, c'⟩, z⟩ | ⟨a, z⟩
          · exact Or.inl ⟨⟨j, a, by omega, c'⟩, z⟩
          · refine Or.inr ⟨fun j j0 j1 => ?_, z⟩
            by_cases ej : j = i
            · subst ej; exact fun q => ed q.symm
            · exact a j j0 (by omega)
set_option maxRecDepth 100000 in
theorem Ne_dropAll_ok (h : mH) (r : mR) (c : Int) (hc : h 41 0 = c) (hc1 : 0 ≤ c ∧ c ≤ 120) (hr : ∀ i, 0 ≤ i → i < c → 0 ≤ h 42 i ∧ h 42 i < 120) : Meets true (rm 1) m_Ne_dropAll [vR 31, vR 41] h r (fun rv h1 r1 => rv = none ∧ r1 = r ∧ fr [34] h h1 ∧ ∀ d, (∃ j, 0 ≤ j ∧ j < c ∧ h 42 j = d) ∧ h1 34 d = 0 ∨ (∀ j, 0 ≤ j → j < c → h 42 j ≠ d) ∧ h1 34 d = h 34 d) := by
  refine ⟨ok_Ne_dropAll, Nat.le_of_ble_eq_true rfl, ?_⟩
  refine wq_iconst (n := 0) (q := 1) rfl rfl rfl ?_
  refine wq_istore_n (kk := 2) (q := 2) rfl rfl (Nat.le_of_ble_eq_true rfl) rfl ?_
  exact Ne_dropA h r c hc hc1 hr _ 0 h rfl (by omega) (by omega) fr.rf (fun d => Or.inr ⟨fun j j0 j1 => by omega, rfl⟩)
set_option maxRecDepth 100000 in
set_option maxHeartbeats 1000000 in
theorem Ne_putOff_ok (N : mN) (d : Int) (h : mH) (r : mR) (hV : NV N) (hN : isN h N) (hd : dp N d) : Meets true (rm 1) m_Ne_putOff [vR 31, vI d] h r (fun rv h1 r1 => rv = none ∧ r1 = r ∧ fr [32, 33] h h1 ∧ isN h1 (nLate N d 1)) := by
  have z := hN.2.2.1 d hd
  have v := hV.2.2.1 d hd
  have hn := hV.1
  obtain ⟨d0, d1⟩ := id hd
  have hf0 : fr [32, 33] h (hup (hup h 32 d (h 32 d + 1)) 33 d (h 33 d + 1)) := (fr.rf.up (by decide)).up (by decide)
  have hN' : isN (hup (hup h 32 d (h 32 d + 1)) 33 d (h 33 d + 1)) (nLate N d 1) := by
    refine ⟨by simp [hup]; exact hN.1, by simp [hup]; exact hN.2.1, fun x hx => ?_, fun s s0 s1 => ?_⟩
    · have y := hN.2.2.1 x hx
      have l1 : lv (nLate N d 1) x = if x = d then lv N x + 1 else lv N x := rfl
      have l2 : ar (nLate N d 1) x = if x = d then ar N x + 1 else ar N x := rfl
      rw [l1, l2]
      by_cases ex : x = d
      · subst ex
        rw [if_pos rfl, if_pos rfl]
        refine ⟨?_, ?_, (by rw [hup_i (by decide), hup_i (by decide)]; exact y.2.2.1), (by rw [hup_i (by decide), hup_i (by decide)]; exact y.2.2.2.1), (by rw [hup_i (by decide), hup_i (by decide)]; exact y.2.2.2.2.1), (by rw [hup_i (by decide), hup_i (by decide)]; exact y.2.2.2.2.2)⟩
        · simp [hup]; omega
        · simp [hup]; omega
      · rw [if_neg ex, if_neg ex]
        refine ⟨by simpa [hup, ex] using y.1, by simpa [hup, ex] using y.2.1, (by rw [hup_i (by decide), hup_i (by decide)]; exact y.2.2.1), (by rw [hup_i (by decide), hup_i (by decide)]; exact y.2.2.2.1), (by rw [hup_i (by decide), hup_i (by decide)]; exact y.2.2.2.2.1), (by rw [hup_i (by decide), hup_i (by decide)]; exact y.2.2.2.2.2)⟩
    · have y := hN.2.2.2 s s0 s1
      exact ⟨(by rw [hup_i (by decide), hup_i (by decide)]; exact y.1), (by rw [hup_i (by decide), hup_i (by decide)]; exact y.2)⟩
  refine ⟨ok_Ne_putOff, Nat.le_of_ble_eq_true rfl, ?_⟩
  refine wq_aload_n (kk := 0) (q := 1) rfl rfl rfl ?_
  refine wq_getF (q := 4) f_Ne_9 rfl rfl (Nat.le_of_ble_eq_true rfl) rfl rfl rfl ?_
  refine wq_iload_n (kk := 1) (q := 5) rfl rfl rfl ?_
  refine wq_dup2 (q := 6) rfl rfl rfl rfl ?_
  refine wq_iald (q := 7) rfl (Or.inl ⟨rfl, Nat.le_of_ble_eq_true rfl⟩) rfl rfl (by first | omega | (simp [hup]; omega)) (by first | omega | (simp [hup]; omega)) ?_
  refine wq_iconst (n := 1) (q := 8) rfl rfl rfl ?_
  refine wq_iadd (q := 9) rfl rfl (by first | omega | (simp [hup]; omega)) (by first | omega | (simp [hup]; omega)) ?_
  refine wq_iast (q := 10) rfl (Or.inl ⟨rfl, Nat.le_of_ble_eq_true rfl⟩) rfl rfl (by first | omega | (simp [hup]; omega)) (by first | omega | (simp [hup]; omega)) ?_
  refine wq_aload_n (kk := 0) (q := 11) rfl rfl rfl ?_
  refine wq_getF (q := 14) f_Ne_15 rfl rfl (Nat.le_of_ble_eq_true rfl) rfl rfl rfl ?_
  refine wq_iload_n (kk := 1) (q := 15) rfl rfl rfl ?_
  refine wq_dup2 (q := 16) rfl rfl rfl rfl ?_
  refine wq_iald (q := 17) rfl (Or.inl ⟨rfl, Nat.le_of_ble_eq_true rfl⟩) rfl rfl (by first | omega | (simp [hup]; omega)) (by first | omega | (simp [hup]; omega)) ?_
  refine wq_iconst (n := 1) (q := 18) rfl rfl rfl ?_
  refine wq_iadd (q := 19) rfl rfl (by first | omega | (simp [hup]; omega)) (by first | omega | (simp [hup]; omega)) ?_
  refine wq_iast (q := 20) rfl (Or.inl ⟨rfl, Nat.le_of_ble_eq_true rfl⟩) rfl rfl (by first | omega | (simp [hup]; omega)) (by first | omega | (simp [hup]; omega)) ?_
  rw [show hup h 32 d (h 32 d + 1) 33 d = h 33 d from hup_i (by decide)]
  exact wq_vret rfl rfl (Nat.le_refl _) (Nat.le_refl _) ⟨rfl, rfl, hf0, hN'⟩

/-! LinkTimesModel: sorts, laysGoal -/
/-- running departures of less number than c, the latest first, each once -/
def Sr (N : mN) (o : mF) (m c : Int) : Prop := (0 ≤ m ∧ m ≤ c) ∧ (∀ i, 0 ≤ i → i < m → (0 ≤ o i ∧ o i < c) ∧ rn N (o i) = 1) ∧ (∀ i j, 0 ≤ i → i < j → j < m → lv N (o j) ≤ lv N (o i) ∧ o i ≠ o j) ∧ ∀ d, 0 ≤ d → d < c → rn N d = 1 → ∃ i, 0 ≤ i ∧ i < m ∧ o i = d
theorem Sr.ins {N : mN} {o o' : mF} {m c k : Int} (h : Sr N o m c) (hr : rn N c = 1) (k0 : 0 ≤ k) (k1 : k ≤ m) (h1 : ∀ j, 0 ≤ j → j < k → o' j = o j) (h2 : o' k = c) (h3 : ∀ j, k < j → j ≤ m → o' j = o (j - 1)) (h4 : ∀ j, 0 ≤ j → j < k → lv N c ≤ lv N (o j)) (h5 : ∀ j, k ≤ j → j < m → lv N (o j) ≤ lv N c) : Sr N o' (m + 1) (c + 1) := by
  obtain ⟨a1, a2, a3, a4⟩ := h
  have pos : ∀ j, 0 ≤ j → j < m + 1 → (j < k ∧ o' j = o j) ∨ (j = k ∧ o' j = c) ∨ (k < j ∧ o' j = o (j - 1)) := fun j j0 j1 => by
    rcases (show j < k ∨ j = k ∨ k < j by omega) with z | z | z
    · exact Or.inl ⟨z, h1 j j0 z⟩
    · exact Or.inr (Or.inl ⟨z, by rw [z]; exact h2⟩)
    · exact Or.inr (Or.inr ⟨z, h3 j z (by omega)⟩)
  refine ⟨by omega, fun i i0 i1 => ?_, fun i j i0 ij j1 => ?_, fun d d0 d1 dr => ?_⟩
  · rcases pos i i0 i1 with ⟨z, e⟩ | ⟨z, e⟩ | ⟨z, e⟩
    · rw [e]; have := a2 i i0 (by omega); exact ⟨by omega, this.2⟩
    · rw [e]; exact ⟨by omega, hr⟩
    · rw [e]; have := a2 (i - 1) (by omega) (by omega); exact ⟨by omega, this.2⟩
  · rcases pos i i0 (by omega) with ⟨z, e⟩ | ⟨z, e⟩ | ⟨z, e⟩ <;> rcases pos j (by omega) j1 with ⟨y, f⟩ | ⟨y, f⟩ | ⟨y, f⟩ <;> rw [e, f]
    · exact a3 i j i0 ij (by omega)
    · have := a2 i i0 (by omega); exact ⟨h4 i i0 z, by omega⟩
    · exact a3 i (j - 1) i0 (by omega) (by omega)
    · omega
    · omega
    · have := a2 (j - 1) (by omega) (by omega); exact ⟨h5 (j - 1) (by omega) (by omega), by omega⟩
    · omega
    · omega
    · exact a3 (i - 1) (j - 1) (by omega) (by omega) (by omega)
  · by_cases e : d = c
    · exact ⟨k, k0, by omega, by rw [e]; exact h2⟩
    · obtain ⟨i, i0, i1, i2⟩ := a4 d d0 (by omega) dr
      by_cases z : i < k
      · exact ⟨i, i0, by omega, by rw [h1 i i0 z]; exact i2⟩
      · refine ⟨i + 1, by omega, by omega, ?_⟩
        rw [h3 (i + 1) (by omega) (by omega), show i + 1 - 1 = i by omega]
        exact i2
/-- of cell 64 only these fields have changed -/
def f64 (S : List Int) (C : List Nat) (h h1 : mH) : Prop := fr C h h1 ∧ ∀ k, k ∉ S → h1 64 k = h 64 k
theorem f64.rf {S : List Int} {C : List Nat} {h : mH} : f64 S C h h := ⟨fr.rf, fun _ _ => rfl⟩
theorem f64.up {S : List Int} {C : List Nat} {h h1 : mH} {k v : Int} (f : f64 S C h h1) (hC : 64 ∈ C) (hk : k ∈ S) : f64 S C h (hup h1 64 k v) := ⟨f.1.up hC, fun j hj => by
  have hne : ¬ j = k := fun e => hj (e ▸ hk)
  rw [hup_j hne]
  exact f.2 j hj⟩
theorem f64.uc {S : List Int} {C : List Nat} {h h1 : mH} {c : Nat} {k v : Int} (f : f64 S C h h1) (hc : c ∈ C) (hk : ¬ 64 = c) : f64 S C h (hup h1 c k v) := ⟨f.1.up hc, fun j hj => by rw [hup_i hk]; exact f.2 j hj⟩
theorem f64.tr {S S' : List Int} {C C' : List Nat} {h h1 h2 : mH} (f : f64 S C h h1) (f' : f64 S' C' h1 h2) (hS : ∀ k ∈ S', k ∈ S) (hC : ∀ k ∈ C', k ∈ C) : f64 S C h h2 := ⟨f.1.trans f'.1 hC, fun k hk => (f'.2 k (fun z => hk (hS k z))).trans (f.2 k hk)⟩
theorem f64.mono {S S' : List Int} {C C' : List Nat} {h h1 : mH} (f : f64 S C h h1) (hS : ∀ k ∈ S, k ∈ S') (hC : ∀ k ∈ C, k ∈ C') : f64 S' C' h h1 := ⟨f.1.mono hC, fun k hk => f.2 k (fun z => hk (hS k z))⟩
abbrev soC : List Nat := [64, 77]
set_option maxRecDepth 100000 in
set_option maxHeartbeats 1000000 in
theorem Mo_sortsI (N : mN) (c : Int) (X : mX) (h0 : mH) (r : mR) (hM : isM h0 N) (hc : dp N c) (m : Int) (hm : 0 ≤ m ∧ m < 120) (h28 : h0 64 28 = m) (ho : ∀ j, 0 ≤ j → j < m → dp N (h0 77 j)) (K : ∀ (k : Int) (h1 : mH), 0 ≤ k → k ≤ m → fr [77] h0 h1 → (∀ j, 0 ≤ j → j < k → h1 77 j = h0 77 j) → h1 77 k = c → (∀ j, k < j → j ≤ m → h1 77 j = h0 77 (j - 1)) → (k = 0 ∨ lv N c ≤ lv N (h0 77 (k - 1))) → (∀ j, k ≤ j → j < m → lv N (h0 77 j) < lv N c) → WP (true, rm 3) m_Mo_sorts X 84 [some (vR 64), some (vI c), some (vI k)] [] h1 r (0, 0)) : ∀ (M : Nat) (k : Int) (h1 : mH), k.toNat = M → 0 ≤ k → k ≤ m → fr [77] h0 h1 → (∀ j, 0 ≤ j → j < k → h1 77 j = h0 77 j) → (∀ j, k < j → j ≤ m → h1 77 j = h0 77 (j - 1)) → (∀ j, k ≤ j → j < m → lv N (h0 77 j) < lv N c) → WP (true, rm 3) m_Mo_sorts X 33 [some (vR 64), some (vI c), some (vI k)] [] h1 r (0, 0) := by
  intro M
  induction M using Nat.strongRecOn with
  | ind M ih =>
    intro k h1 hN k0 k1 hf g1 g3 g5
    have hM1 := isM_f hM hf (by decide)
    have e1 : 0 < k → h1 77 (k - 1) = h0 77 (k - 1) := fun z => g1 (k - 1) (by omega) (by omega)
    have hn := hM.1.1
    refine wq_iload_n (kk := 2) (q := 34) rfl rfl rfl ?_
    refine wq_if_le (tgt := 77) (q := 37) rfl rfl rfl (fun c34 => ?_) (fun c34 => ?_)
    · skip
      refine wq_aload_n (kk := 0) (q := 78) rfl rfl rfl ?_
      refine wq_getF (q := 81) f_Mo_51 rfl rfl (Nat.le_of_ble_eq_true rfl) rfl rfl rfl ?_
      refine wq_iload_n (kk := 2) (q := 82) rfl rfl rfl ?_
      refine wq_iload_n (kk := 1) (q := 83) rfl rfl rfl ?_
      refine wq_iast (q := 84) rfl (Or.inl ⟨rfl, Nat.le_of_ble_eq_true rfl⟩) rfl rfl (by first | omega | (simp [hup]; omega)) (by first | omega | (simp [hup]; omega)) ?_
      refine K k _ k0 k1 (hf.up (by decide)) (fun j j0 j1 => ?_) hup_s (fun j j0 j1 => ?_) ?_ g5
      · rw [hup_j (by omega)]; exact g1 j j0 j1
      · rw [hup_j (by omega)]; exact g3 j j0 j1
      · first | (left; omega) | (right; omega)
    · skip
      refine wq_aload_n (kk := 0) (q := 38) rfl rfl rfl ?_
      refine wq_aload_n (kk := 0) (q := 39) rfl rfl rfl ?_
      refine wq_getF (q := 42) f_Mo_51 rfl rfl (Nat.le_of_ble_eq_true rfl) rfl rfl rfl ?_
      refine wq_iload_n (kk := 2) (q := 43) rfl rfl rfl ?_
      refine wq_iconst (n := 1) (q := 44) rfl rfl rfl ?_
      refine wq_isub (q := 45) rfl rfl (by first | omega | (simp [hup]; omega)) (by first | omega | (simp [hup]; omega)) ?_
      refine wq_iald (q := 46) rfl (Or.inl ⟨rfl, Nat.le_of_ble_eq_true rfl⟩) rfl rfl (by first | omega | (simp [hup]; omega)) (by first | omega | (simp [hup]; omega)) ?_
      rw [e1 (by omega)]
      refine wq_callV (q := 49) (m' := m_Mo_leavesAt) (R' := rm 2) (As := [_]) rfl rfl l_Mo_250 vm_Mo_leavesAt rfl rfl rfl (Or.inl ⟨rfl, Nat.le_of_ble_eq_true rfl⟩) (Nat.le_of_ble_eq_true rfl) (Nat.le_of_ble_eq_true rfl) (Nat.le_refl _) (Nat.le_refl _) (Nat.le_of_ble_eq_true rfl) (Mo_leavesAt_ok N _ h1 r hM1 (ho (k - 1) (by omega) (by omega))) rfl ?_
      rintro rv h1 r ⟨rfl, rfl, rfl⟩ -
      refine wq_aload_n (kk := 0) (q := 50) rfl rfl rfl ?_
      refine wq_iload_n (kk := 1) (q := 51) rfl rfl rfl ?_
      refine wq_callV (q := 54) (m' := m_Mo_leavesAt) (R' := rm 2) (As := [_]) rfl rfl l_Mo_250 vm_Mo_leavesAt rfl rfl rfl (Or.inl ⟨rfl, Nat.le_of_ble_eq_true rfl⟩) (Nat.le_of_ble_eq_true rfl) (Nat.le_of_ble_eq_true rfl) (Nat.le_refl _) (Nat.le_refl _) (Nat.le_of_ble_eq_true rfl) (Mo_leavesAt_ok N c h1 r hM1 hc) rfl ?_
      rintro rv h1 r ⟨rfl, rfl, rfl⟩ -
      refine wq_icmp_ge (tgt := 77) (q := 57) rfl rfl rfl (fun c54 => ?_) (fun c54 => ?_)
      · skip
        refine wq_aload_n (kk := 0) (q := 78) rfl rfl rfl ?_
        refine wq_getF (q := 81) f_Mo_51 rfl rfl (Nat.le_of_ble_eq_true rfl) rfl rfl rfl ?_
        refine wq_iload_n (kk := 2) (q := 82) rfl rfl rfl ?_
        refine wq_iload_n (kk := 1) (q := 83) rfl rfl rfl ?_
        refine wq_iast (q := 84) rfl (Or.inl ⟨rfl, Nat.le_of_ble_eq_true rfl⟩) rfl rfl (by first | omega | (simp [hup]; omega)) (by first | omega | (simp [hup]; omega)) ?_
        refine K k _ k0 k1 (hf.up (by decide)) (fun j j0 j1 => ?_) hup_s (fun j j0 j1 => ?_) ?_ g5
        · rw [hup_j (by omega)]; exact g1 j j0 j1
        · rw [hup_j (by omega)]; exact g3 j j0 j1
        · first | (left; omega) | (right; omega)
      · skip
        refine wq_aload_n (kk := 0) (q := 58) rfl rfl rfl ?_
        refine wq_getF (q := 61) f_Mo_51 rfl rfl (Nat.le_of_ble_eq_true rfl) rfl rfl rfl ?_
        refine wq_iload_n (kk := 2) (q := 62) rfl rfl rfl ?_
        refine wq_aload_n (kk := 0) (q := 63) rfl rfl rfl ?_
        refine wq_getF (q := 66) f_Mo_51 rfl rfl (Nat.le_of_ble_eq_true rfl) rfl rfl rfl ?_
        refine wq_iload_n (kk := 2) (q := 67) rfl rfl rfl ?_
        refine wq_iconst (n := 1) (q := 68) rfl rfl rfl ?_
        refine wq_isub (q := 69) rfl rfl (by first | omega | (simp [hup]; omega)) (by first | omega | (simp [hup]; omega)) ?_
        refine wq_iald (q := 70) rfl (Or.inl ⟨rfl, Nat.le_of_ble_eq_true rfl⟩) rfl rfl (by first | omega | (simp [hup]; omega)) (by first | omega | (simp [hup]; omega)) ?_
        refine wq_iast (q := 71) rfl (Or.inl ⟨rfl, Nat.le_of_ble_eq_true rfl⟩) rfl rfl (by first | omega | (simp [hup]; omega)) (by first | omega | (simp [hup]; omega)) ?_
        refine wq_iinc (i := 2) (n := -1) (q := 74) rfl rfl rfl (Nat.le_of_ble_eq_true rfl) rfl (by first | omega | (simp [hup]; omega)) (by first | omega | (simp [hup]; omega)) ?_
        refine wq_goto (tgt := 33) rfl rfl ?_
        rw [show k + -1 = k - 1 by omega]
        refine ih _ (by omega) (k - 1) _ rfl (by omega) (by omega) (hf.up (by decide)) (fun j j0 j1 => ?_) (fun j j0 j1 => ?_) (fun j j0 j1 => ?_)
        · rw [hup_j (by omega)]; exact g1 j j0 (by omega)
        · by_cases e : j = k
          · subst e; rw [hup_s]; exact e1 (by omega)
          · rw [hup_j e]; exact g3 j (by omega) j1
        · by_cases e : j = k - 1
          · subst e; omega
          · exact g5 j (by omega) j1
set_option maxRecDepth 100000 in
set_option maxHeartbeats 1000000 in
theorem Mo_sortsL (N : mN) (h : mH) (r : mR) (hM : isM h N) : ∀ (M : Nat) (c : Int) (h1 : mH) (x : Option mV), (nN N - c).toNat = M → 0 ≤ c → c ≤ nN N → f64 [28] soC h h1 → Sr N (h1 77) (h1 64 28) c → WP (true, rm 3) m_Mo_sorts (rt m_Mo_sorts (rm 3) (fun rv h2 r2 => rv = none ∧ r2 = r ∧ f64 [28] soC h h2 ∧ Sr N (h2 77) (h2 64 28) (nN N))) 7 [some (vR 64), some (vI c), x] [] h1 r (0, 0) := by
  intro M
  induction M using Nat.strongRecOn with
  | ind M ih =>
    intro c h1 x hN c0 c1 hf hS
    have hM1 := isM_f hM hf.1 (by decide)
    have hn := hM.1.1
    have e4 := hM1.2.1
    have hb := hS.1
    refine wq_iload_n (kk := 1) (q := 8) rfl rfl rfl ?_
    refine wq_aload_n (kk := 0) (q := 9) rfl rfl rfl ?_
    refine wq_getF (q := 12) f_Mo_17 rfl rfl (Nat.le_of_ble_eq_true rfl) rfl rfl rfl ?_
    refine wq_iconst (n := 4) (q := 13) rfl rfl rfl ?_
    refine wq_iald (q := 14) rfl (Or.inl ⟨rfl, Nat.le_of_ble_eq_true rfl⟩) rfl rfl (by first | omega | (simp [hup]; omega)) (by first | omega | (simp [hup]; omega)) ?_
    refine wq_icmp_ge (tgt := 100) (q := 17) rfl rfl rfl (fun c14 => ?_) (fun c14 => ?_)
    · skip
      have ec : c = nN N := by omega
      subst ec
      exact wq_vret rfl rfl (Nat.le_refl _) (Nat.le_refl _) ⟨rfl, rfl, hf, hS⟩
    · skip
      refine wq_aload_n (kk := 0) (q := 18) rfl rfl rfl ?_
      refine wq_iload_n (kk := 1) (q := 19) rfl rfl rfl ?_
      refine wq_callV (q := 22) (m' := m_Mo_runs) (R' := rm 2) (As := [_]) rfl rfl l_Mo_253 vm_Mo_runs rfl rfl rfl (Or.inl ⟨rfl, Nat.le_of_ble_eq_true rfl⟩) (Nat.le_of_ble_eq_true rfl) (Nat.le_of_ble_eq_true rfl) (Nat.le_refl _) (Nat.le_refl _) (Nat.le_of_ble_eq_true rfl) (Mo_runs_ok N c h1 r hM1 ⟨c0, by omega⟩) rfl ?_
      rintro rv h1 r ⟨rfl, rfl, rfl⟩ -
      refine wq_cif_ne (tgt := 28) (q := 25) rfl rfl rfl (fun c22 => ?_) (fun c22 => ?_)
      · skip
        refine wq_aload_n (kk := 0) (q := 29) rfl rfl rfl ?_
        refine wq_getI (kz := 28) (q := 32) rfl f_Mo_275 rfl rfl (Or.inl ⟨rfl, Nat.le_of_ble_eq_true rfl⟩) rfl rfl ?_
        refine wq_istore_n (kk := 2) (q := 33) rfl rfl (Nat.le_of_ble_eq_true rfl) rfl ?_
        refine Mo_sortsI N c _ h1 r hM1 ⟨c0, by omega⟩ (h1 64 28) (by omega) rfl (fun j j0 j1 => ⟨(hS.2.1 j j0 j1).1.1, by have := (hS.2.1 j j0 j1).1.2; omega⟩) (fun k h2 k0 k1 f2 g1 g2 g3 g4 g5 => ?_) _ _ h1 rfl hb.1 (Int.le_refl _) fr.rf (fun _ _ _ => rfl) (fun j j0 j1 => by omega) (fun j j0 j1 => by omega)
        have e28 : h2 64 28 = h1 64 28 := f2.at 64 28 (by decide)
        have hS2 : Sr N (h2 77) (h1 64 28 + 1) (c + 1) := by
          refine hS.ins c22 k0 k1 g1 g2 g3 (fun j j0 j1 => ?_) (fun j j0 j1 => by have := g5 j j0 j1; omega)
          rcases g4 with z | z
          · omega
          · by_cases e : j = k - 1
            · rw [e]; exact z
            · have := (hS.2.2.1 j (k - 1) j0 (by omega) (by omega)).1; omega
        refine wq_aload_n (kk := 0) (q := 85) rfl rfl rfl ?_
        refine wq_dup (q := 86) rfl rfl rfl ?_
        refine wq_getI (kz := 28) (q := 89) rfl f_Mo_275 rfl rfl (Or.inl ⟨rfl, Nat.le_of_ble_eq_true rfl⟩) rfl rfl ?_
        refine wq_iconst (n := 1) (q := 90) rfl rfl rfl ?_
        refine wq_iadd (q := 91) rfl rfl (by first | omega | (simp [hup]; omega)) (by first | omega | (simp [hup]; omega)) ?_
        refine wq_putI (kz := 28) (q := 94) rfl f_Mo_275 rfl rfl rfl (Or.inl ⟨rfl, Nat.le_of_ble_eq_true rfl⟩) rfl rfl ?_
        refine wq_iinc (i := 1) (n := 1) (q := 97) rfl rfl rfl (Nat.le_of_ble_eq_true rfl) rfl (by first | omega | (simp [hup]; omega)) (by first | omega | (simp [hup]; omega)) ?_
        refine wq_goto (tgt := 7) rfl rfl ?_
        first
        | (refine ih _ (by omega) (c + 1) _ _ rfl (by omega) (by omega) ((hf.tr (S' := [28]) (C' := soC) ⟨f2.mono (by decide), fun j _ => f2.at 64 j (by decide)⟩ (fun _ z => z) (fun _ z => z)).up (by decide) (by decide)) ?_
           rw [hup_s, e28]
           exact hS2)
        | (refine ih _ (by omega) (c + 1) _ _ rfl (by omega) (by omega) hf ?_
           obtain ⟨a1, a2, a3, a4⟩ := hS
           refine ⟨by omega, fun i i0 i1 => ⟨by have := (a2 i i0 i1).1; omega, (a2 i i0 i1).2⟩, a3, fun d d0 d1 dr => ?_⟩
           by_cases e : d = c
           · subst e; exact absurd dr c22
           · exact a4 d d0 (by omega) dr)
      · skip
        refine wq_goto (tgt := 94) rfl rfl ?_
        refine wq_iinc (i := 1) (n := 1) (q := 97) rfl rfl rfl (Nat.le_of_ble_eq_true rfl) rfl (by first | omega | (simp [hup]; omega)) (by first | omega | (simp [hup]; omega)) ?_
        refine wq_goto (tgt := 7) rfl rfl ?_
        first
        | (refine ih _ (by omega) (c + 1) _ _ rfl (by omega) (by omega) ((hf.tr (S' := [28]) (C' := soC) ⟨f2.mono (by decide), fun j _ => f2.at 64 j (by decide)⟩ (fun _ z => z) (fun _ z => z)).up (by decide) (by decide)) ?_
           rw [hup_s, e28]
           exact hS2)
        | (refine ih _ (by omega) (c + 1) _ _ rfl (by omega) (by omega) hf ?_
           obtain ⟨a1, a2, a3, a4⟩ := hS
           refine ⟨by omega, fun i i0 i1 => ⟨by have := (a2 i i0 i1).1; omega, (a2 i i0 i1).2⟩, a3, fun d d0 d1 dr => ?_⟩
           by_cases e : d = c
           · subst e; exact absurd dr c22
           · exact a4 d d0 (by omega) dr)
set_option maxRecDepth 100000 in
theorem Mo_sorts_ok (N : mN) (h : mH) (r : mR) (hM : isM h N) : Meets true (rm 3) m_Mo_sorts [vR 64] h r (fun rv h2 r2 => rv = none ∧ r2 = r ∧ f64 [28] soC h h2 ∧ Sr N (h2 77) (h2 64 28) (nN N)) := by
  have hn := hM.1.1
  refine ⟨ok_Mo_sorts, Nat.le_of_ble_eq_true rfl, ?_⟩
  refine wq_aload_n (kk := 0) (q := 1) rfl rfl rfl ?_
  refine wq_iconst (n := 0) (q := 2) rfl rfl rfl ?_
  refine wq_putI (kz := 28) (q := 5) rfl f_Mo_275 rfl rfl rfl (Or.inl ⟨rfl, Nat.le_of_ble_eq_true rfl⟩) rfl rfl ?_
  refine wq_iconst (n := 0) (q := 6) rfl rfl rfl ?_
  refine wq_istore_n (kk := 1) (q := 7) rfl rfl (Nat.le_of_ble_eq_true rfl) rfl ?_
  refine Mo_sortsL N h r hM _ 0 _ _ rfl (by omega) (by omega) (f64.rf.up (by decide) (by decide)) ?_
  rw [hup_s]
  exact ⟨by omega, fun i i0 i1 => by omega, fun i j i0 ij j1 => by omega, fun d d0 d1 => by omega⟩
